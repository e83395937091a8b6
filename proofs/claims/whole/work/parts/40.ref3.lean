/-! the abstract state, and how the reference's store holds it -/
abbrev Pg : Type := Nat × Bool × List En × List Sh
abbrev Fb : Type := Nat × List Nat
/-- page, writes, rule, state, pending, kept, fed, mode, what waits -/
abbrev Mc : Type := Nat × Bool × Nat × Nat × Nat × List Nat × Nat × Nat × List Nat
abbrev Ab : Type := List Pg × List Nat × List Nat × (Nat × List Nat) × (Nat × Nat) × List Fb × (Nat → Option Mc) × Nat × (Nat × Nat × Nat) × Nat
def Ab.pgs (A : Ab) : List Pg := A.1
def Ab.bys (A : Ab) : List Nat := A.2.1
def Ab.uns (A : Ab) : List Nat := A.2.2.1
def Ab.res (A : Ab) : Nat × List Nat := A.2.2.2.1
def Ab.sgn (A : Ab) : Nat × Nat := A.2.2.2.2.1
def Ab.fbs (A : Ab) : List Fb := A.2.2.2.2.2.1
def Ab.mcs (A : Ab) : Nat → Option Mc := A.2.2.2.2.2.2.1
def Ab.plc (A : Ab) : Nat := A.2.2.2.2.2.2.2.1
def Ab.brk (A : Ab) : Nat × Nat × Nat := A.2.2.2.2.2.2.2.2.1
def Ab.fnd (A : Ab) : Nat := A.2.2.2.2.2.2.2.2.2
def Ab.wPgs (A : Ab) (x : List Pg) : Ab := (x, A.2)
def Ab.wBys (A : Ab) (x : List Nat) : Ab := (A.1, x, A.2.2)
def Ab.wUns (A : Ab) (x : List Nat) : Ab := (A.1, A.2.1, x, A.2.2.2)
def Ab.wRes (A : Ab) (x : Nat × List Nat) : Ab := (A.1, A.2.1, A.2.2.1, x, A.2.2.2.2)
def Ab.wSgn (A : Ab) (x : Nat × Nat) : Ab := (A.1, A.2.1, A.2.2.1, A.2.2.2.1, x, A.2.2.2.2.2)
def Ab.wFbs (A : Ab) (x : List Fb) : Ab := (A.1, A.2.1, A.2.2.1, A.2.2.2.1, A.2.2.2.2.1, x, A.2.2.2.2.2.2)
def Ab.wMcs (A : Ab) (x : Nat → Option Mc) : Ab := (A.1, A.2.1, A.2.2.1, A.2.2.2.1, A.2.2.2.2.1, A.2.2.2.2.2.1, x, A.2.2.2.2.2.2.2)
def Ab.wPlc (A : Ab) (x : Nat) : Ab := (A.1, A.2.1, A.2.2.1, A.2.2.2.1, A.2.2.2.2.1, A.2.2.2.2.2.1, A.2.2.2.2.2.2.1, x, A.2.2.2.2.2.2.2.2)
def Ab.wBrk (A : Ab) (x : Nat × Nat × Nat) : Ab := (A.1, A.2.1, A.2.2.1, A.2.2.2.1, A.2.2.2.2.1, A.2.2.2.2.2.1, A.2.2.2.2.2.2.1, A.2.2.2.2.2.2.2.1, x, A.2.2.2.2.2.2.2.2.2)
def Ab.wFnd (A : Ab) (x : Nat) : Ab := (A.1, A.2.1, A.2.2.1, A.2.2.2.1, A.2.2.2.2.1, A.2.2.2.2.2.1, A.2.2.2.2.2.2.1, A.2.2.2.2.2.2.2.1, A.2.2.2.2.2.2.2.2.1, x)
def Ab.tell (A : Ab) : Ab := A.wFnd (A.fnd + 1)
def pgK (l : List Pg) (p : Nat) : Nat := (l.getD p (0, false, [], [])).1
def pgC (l : List Pg) (p : Nat) : Bool := (l.getD p (0, false, [], [])).2.1
def pgE (l : List Pg) (p : Nat) : List En := (l.getD p (0, false, [], [])).2.2.1
def pgH (l : List Pg) (p : Nat) : List Sh := (l.getD p (0, false, [], [])).2.2.2
def fbP (l : List Fb) (k : Nat) : Nat := (l.getD k (0, [])).1
def fbL (l : List Fb) (k : Nat) : List Nat := (l.getD k (0, [])).2
/-- a row of numbers stands from a on -/
def Seg (f : Nat → Nat) (a : Nat) (l : List Nat) : Prop := ∀ j, j < l.length → f (a + j) = l.getD j 0
def RPg (s : rS) (l : List Pg) : Prop := s.1 0 = l.length ∧ l.length ≤ 10 ∧ ∀ p, p < l.length → s.2.2 1 p = pgK l p ∧ s.2.2 2 p = b2 (pgC l p) ∧ TbR s p (pgE l p) (pgH l p)
def RBy (s : rS) (l : List Nat) : Prop := s.1 14 = l.length ∧ l.length ≤ 1000 ∧ Seg (s.2.2 15) 0 l
def RUn (s : rS) (l : List Nat) : Prop := s.1 16 = l.length ∧ l.length ≤ 1000 ∧ Seg (s.2.2 17) 0 l
def RRe (s : rS) (x : Nat × List Nat) : Prop := s.1 18 = x.2.length ∧ x.2.length ≤ 6000 ∧ s.1 19 = x.1 ∧ Seg (s.2.2 20) 0 x.2
def RSg (s : rS) (x : Nat × Nat) : Prop := s.2.2 21 0 = x.1 ∧ s.2.2 21 1 = x.2
def RFb (s : rS) (l : List Fb) : Prop := s.1 25 = l.length ∧ l.length ≤ 40 ∧ ∀ k, k < l.length → s.2.2 26 k = fbP l k ∧ s.2.2 27 k = (fbL l k).length ∧ Seg (s.2.2 28) (4 * k) (fbL l k)
def RM1 (s : rS) (d : Nat) (m : Mc) : Prop := s.2.2 52 d = 1 ∧ s.2.2 53 d = m.1 ∧ s.2.2 54 d = b2 m.2.1 ∧ s.2.2 55 d = m.2.2.1 ∧ s.2.2 56 d = m.2.2.2.1 ∧ s.2.2 57 d = m.2.2.2.2.1 ∧ s.2.2 58 d = m.2.2.2.2.2.1.length ∧ Seg (s.2.2 59) (8 * d) m.2.2.2.2.2.1 ∧ s.2.2 60 d = m.2.2.2.2.2.2.1 ∧ s.2.2 61 d = m.2.2.2.2.2.2.2.1 ∧ s.2.2 62 d = m.2.2.2.2.2.2.2.2.length ∧ Seg (s.2.2 63) (1200 * d) m.2.2.2.2.2.2.2.2
def RMc (s : rS) (ms : Nat → Option Mc) : Prop := ∀ d, d < 4 → (ms d = none → s.2.2 52 d = 0) ∧ ∀ m, ms d = some m → RM1 s d m
def RBk (s : rS) (x : Nat × Nat × Nat) : Prop := s.2.2 23 0 = x.1 ∧ s.2.2 23 1 = x.2.1 ∧ s.2.2 23 2 = x.2.2
def RInv (s : rS) (A : Ab) : Prop := RPg s A.pgs ∧ RBy s A.bys ∧ RUn s A.uns ∧ RRe s A.res ∧ RSg s A.sgn ∧ RFb s A.fbs ∧ RMc s A.mcs ∧ s.1 22 = A.plc ∧ RBk s A.brk ∧ s.1 24 = A.fnd ∧ s.1 48 = 0
/-- the fields that outlive a call, but `place` -/
def rPers (c : Nat) : Bool := (Nat.ble c 28 && !Nat.beq c 22) || (Nat.ble 52 c && Nat.ble c 63) || Nat.beq c 48
def Keep (s s' : rS) : Prop := ∀ c, rPers c = true → s'.1 c = s.1 c ∧ s'.2.2 c = s.2.2 c
theorem Keep.rfl {s : rS} : Keep s s := fun _ _ => ⟨Eq.refl _, Eq.refl _⟩
theorem Keep.trans {s s1 s2 : rS} (a : Keep s s1) (b : Keep s1 s2) : Keep s s2 := fun c hc => ⟨(b c hc).1.trans (a c hc).1, (b c hc).2.trans (a c hc).2⟩
theorem Keep.I {s s' : rS} {c x : Nat} (a : Keep s s') (h : rPers c = false) : Keep s (stI c x s') := fun c' hc => by
  refine ⟨?_, (a c' hc).2⟩
  rw [← (a c' hc).1]
  exact gI_ne (fun e => by rw [e, h] at hc; cases hc) (Eq.refl _)
theorem Keep.O {s s' : rS} {f : Nat} (a : Keep s s') : Keep s (stO f s') := a
theorem Keep.A {s s' : rS} {f j x : Nat} (a : Keep s s') (h : rPers f = false) : Keep s (stA f j x s') := fun c' hc => by
  refine ⟨(a c' hc).1, ?_⟩
  rw [← (a c' hc).2]
  simp only [stA]
  rw [if_neg (fun e => by rw [e, h] at hc; cases hc)]
theorem TbR.k {s s' : rS} {p : Nat} {E : List En} {H : List Sh} (hk : Keep s s') (h : TbR s p E H) : TbR s' p E H := by
  simp only [TbR, (hk 3 (Eq.refl _)).2, (hk 4 (Eq.refl _)).2, (hk 5 (Eq.refl _)).2, (hk 6 (Eq.refl _)).2, (hk 7 (Eq.refl _)).2, (hk 8 (Eq.refl _)).2, (hk 9 (Eq.refl _)).2, (hk 10 (Eq.refl _)).2, (hk 11 (Eq.refl _)).2, (hk 12 (Eq.refl _)).2, (hk 13 (Eq.refl _)).2]
  exact h
theorem RPg.k {s s' : rS} {l : List Pg} (hk : Keep s s') (h : RPg s l) : RPg s' l := by
  refine ⟨(hk 0 (Eq.refl _)).1.trans h.1, h.2.1, fun p hp => ⟨?_, ?_, (h.2.2 p hp).2.2.k hk⟩⟩
  · rw [(hk 1 (Eq.refl _)).2]; exact (h.2.2 p hp).1
  · rw [(hk 2 (Eq.refl _)).2]; exact (h.2.2 p hp).2.1
theorem RBy.k {s s' : rS} {l : List Nat} (hk : Keep s s') (h : RBy s l) : RBy s' l := by
  simp only [RBy, (hk 14 (Eq.refl _)).1, (hk 15 (Eq.refl _)).2]; exact h
theorem RUn.k {s s' : rS} {l : List Nat} (hk : Keep s s') (h : RUn s l) : RUn s' l := by
  simp only [RUn, (hk 16 (Eq.refl _)).1, (hk 17 (Eq.refl _)).2]; exact h
theorem RRe.k {s s' : rS} {l : Nat × List Nat} (hk : Keep s s') (h : RRe s l) : RRe s' l := by
  simp only [RRe, (hk 18 (Eq.refl _)).1, (hk 19 (Eq.refl _)).1, (hk 20 (Eq.refl _)).2]; exact h
theorem RSg.k {s s' : rS} {l : Nat × Nat} (hk : Keep s s') (h : RSg s l) : RSg s' l := by
  simp only [RSg, (hk 21 (Eq.refl _)).2]; exact h
theorem RFb.k {s s' : rS} {l : List Fb} (hk : Keep s s') (h : RFb s l) : RFb s' l := by
  simp only [RFb, (hk 25 (Eq.refl _)).1, (hk 26 (Eq.refl _)).2, (hk 27 (Eq.refl _)).2, (hk 28 (Eq.refl _)).2]; exact h
theorem RM1.k {s s' : rS} {d : Nat} {m : Mc} (hk : Keep s s') (h : RM1 s d m) : RM1 s' d m := by
  simp only [RM1, (hk 52 (Eq.refl _)).2, (hk 53 (Eq.refl _)).2, (hk 54 (Eq.refl _)).2, (hk 55 (Eq.refl _)).2, (hk 56 (Eq.refl _)).2, (hk 57 (Eq.refl _)).2, (hk 58 (Eq.refl _)).2, (hk 59 (Eq.refl _)).2, (hk 60 (Eq.refl _)).2, (hk 61 (Eq.refl _)).2, (hk 62 (Eq.refl _)).2, (hk 63 (Eq.refl _)).2]
  exact h
theorem RMc.k {s s' : rS} {ms : Nat → Option Mc} (hk : Keep s s') (h : RMc s ms) : RMc s' ms := by
  refine fun d hd => ⟨fun e => ?_, fun m e => ((h d hd).2 m e).k hk⟩
  rw [(hk 52 (Eq.refl _)).2]; exact (h d hd).1 e
theorem RBk.k {s s' : rS} {x : Nat × Nat × Nat} (hk : Keep s s') (h : RBk s x) : RBk s' x := by
  simp only [RBk, (hk 23 (Eq.refl _)).2]; exact h
theorem RInv.k {s s' : rS} {A : Ab} (h : RInv s A) (hk : Keep s s') : RInv s' (A.wPlc (s'.1 22)) :=
  ⟨h.1.k hk, h.2.1.k hk, h.2.2.1.k hk, h.2.2.2.1.k hk, h.2.2.2.2.1.k hk, h.2.2.2.2.2.1.k hk, h.2.2.2.2.2.2.1.k hk, Eq.refl _, h.2.2.2.2.2.2.2.2.1.k hk, (hk 24 (Eq.refl _)).1.trans h.2.2.2.2.2.2.2.2.2.1, (hk 48 (Eq.refl _)).1.trans h.2.2.2.2.2.2.2.2.2.2⟩
theorem wPlc_id (A : Ab) : A.wPlc A.plc = A := Eq.refl _
theorem RInv.k0 {s s' : rS} {A : Ab} (h : RInv s A) (hk : Keep s s') (hp : s'.1 22 = s.1 22) : RInv s' A := by
  have := h.k hk
  rw [hp, h.2.2.2.2.2.2.2.1, wPlc_id] at this
  exact this
theorem RInv.tell {s : rS} {A : Ab} (h : RInv s A) : RInv (stI 24 (s.1 24 + 1) s) A.tell := by
  refine ⟨h.1, h.2.1, h.2.2.1, h.2.2.2.1, h.2.2.2.2.1, h.2.2.2.2.2.1, h.2.2.2.2.2.2.1, h.2.2.2.2.2.2.2.1, h.2.2.2.2.2.2.2.2.1, ?_, h.2.2.2.2.2.2.2.2.2.2⟩
  rw [gI_eq, h.2.2.2.2.2.2.2.2.2.1]
  exact Eq.refl _
theorem nI_toN {x : Int32} (h : 0 ≤ x.toInt) : x = nI x.toInt.toNat := by
  have h2 := Int32.toInt_lt x
  refine Int32.toInt_inj.mp ?_
  rw [nI_toInt (by omega)]
  omega
