/-! the class: the exchange's cells -/
def opV : Option Nat → Value
  | none => .null
  | some s => .ref s
abbrev oX (n : Nat) (sp : Option Nat) (res rk wrk plc fnd : Nat) : mC := .inr (.inr (11, [.ref 2, .int (nI n), opV sp, .ref 3, .ref 5, .ref res, .int (nI rk), .ref wrk, .ref 11, .ref 16, .ref 41, .ref 43, .ref 13, .int (nI plc), .ref 14, .ref 15, .int (nI fnd)]))
theorem PgO.e {h h' : mH} {p : Nat} {E : List En} {H : List Sh} (a : PgO h p E H) (f : Eqv p (p + 20) h h') : PgO h' p E H := by
  obtain ⟨m, rc, hd, nx, od, T, N, A, S, a1, a2, a3, a4⟩ := a
  exact ⟨m, rc, hd, nx, od, T, N, A, S, a1.e f, (f _ (by omega) (by omega)).trans a2, a3.e (fun x h1 h2 => f x (by omega) (by omega)), a4⟩
def PgR (h : mH) (p K : Nat) (c : Bool) (E : List En) (H : List Sh) : Prop := (c = true ∧ PgC h p K E H) ∨ (c = false ∧ K = 0 ∧ PgO h p E H)
theorem PgR.e {h h' : mH} {p K : Nat} {c : Bool} {E : List En} {H : List Sh} (a : PgR h p K c E H) (f : Eqv p (p + 20) h h') : PgR h' p K c E H := by
  rcases a with ⟨a1, a2⟩ | ⟨a1, a2, a3⟩
  · exact Or.inl ⟨a1, a2.e f⟩
  · exact Or.inr ⟨a1, a2, a3.e f⟩
theorem PgR.hd {h : mH} {p K : Nat} {c : Bool} {E : List En} {H : List Sh} (a : PgR h p K c E H) : ∃ m rc, h.2 p = oPg K c p m rc := by
  rcases a with ⟨a1, a2⟩ | ⟨a1, a2, a3⟩
  · subst a1
    rcases a2 with ⟨b1, m, rc, _, _, _, _, _, _, _, b2, _⟩ | ⟨b1, b2, _, _, m, _, _, _, _, b3, _⟩
    · subst b1; exact ⟨m, rc, b2.1⟩
    · exact ⟨m, 1, b3⟩
  · subst a1 a2
    obtain ⟨m, rc, _, _, _, _, _, _, _, b, _⟩ := a3
    exact ⟨m, rc, b.1⟩
theorem PgR.cl {h : mH} {p K : Nat} {E : List En} {H : List Sh} (a : PgR h p K true E H) : PgC h p K E H := by
  rcases a with ⟨a1, a2⟩ | ⟨a1, _⟩
  · exact a2
  · cases a1
theorem PgR.op {h : mH} {p K : Nat} {E : List En} {H : List Sh} (a : PgR h p K false E H) : K = 0 ∧ PgO h p E H := by
  rcases a with ⟨a1, _⟩ | ⟨_, a2⟩
  · cases a1
  · exact a2
def apD (a b : Nat) : Prop := a + 20 ≤ b ∨ b + 20 ≤ a
def CPg (h : mH) (l : List Pg) (pad : Nat → Nat) (sp : Option Nat) : Prop := l.length ≤ 10 ∧ (∃ pf : Nat → Option Nat, h.2 2 = .inr (.inl (2, 10, pf)) ∧ ∀ j, j < l.length → pf j = some (pad j)) ∧ (∀ j, j < l.length → 143 ≤ pad j ∧ pad j + 20 ≤ h.1 ∧ PgR h (pad j) (pgK l j) (pgC l j) (pgE l j) (pgH l j)) ∧ (∀ i j, i < l.length → j < l.length → i ≠ j → apD (pad i) (pad j)) ∧ ∀ s, sp = some s → 143 ≤ s ∧ s + 20 ≤ h.1 ∧ (∃ E H, PgO h s E H) ∧ ∀ j, j < l.length → apD (pad j) s
def CSc (h : mH) (wrk : Nat) : Prop := (∃ l, RwAt h wrk 6000 l) ∧ (∃ l, RwAt h 11 2000 l) ∧ (∃ p ru st pn mal, RdAt h 41 16 p ru st pn mal) ∧ (∃ p ru st l u, WrAt h 43 16 p ru st l u) ∧ ∃ f, h.2 15 = aI 3 f
def CBk (h : mH) (b : Nat × Nat × Nat) : Prop := ∃ f, h.2 14 = aI 3 f ∧ f 0 = nI b.1 ∧ f 1 = nI b.2.1 ∧ f 2 = nI b.2.2
def McI (h : mH) (a : Nat) (l : List Pg) (pad : Nat → Nat) : Option Mc → Prop
  | none => ∃ (p : Nat) (wr : Bool) (rule sr pn sw : Nat) (ks : List Nat) (fed pl fi : Nat), McAt h a 16 p wr (-1) rule sr pn sw ks fed pl fi []
  | some m => ∃ sr sw pl fi, McAt h a 16 (pad m.1) m.2.1 (nI m.2.2.2.2.2.2.2.1) m.2.2.1 sr m.2.2.2.2.1 sw m.2.2.2.2.2.1 m.2.2.2.2.2.2.1 pl fi m.2.2.2.2.2.2.2.2 ∧ (m.2.1 = true → sw = m.2.2.2.1 ∧ m.2.2.2.2.1 = 4 ∧ (pgK l m.1 ≠ 0 → m.2.2.2.1 = 0)) ∧ (m.2.1 = false → sr = m.2.2.2.1 ∧ m.2.2.2.2.2.1.length ≤ 3)
def CMc (h : mH) (mcs : Nat → Option Mc) (l : List Pg) (pad : Nat → Nat) : Prop := (∃ mf : Nat → Option Nat, h.2 13 = .inr (.inl (3, 4, mf)) ∧ ∀ j, j < 4 → mf j = some (48 + 12 * j)) ∧ ∀ d, d < 4 → McI h (48 + 12 * d) l pad (mcs d)
def CI (h : mH) (A : Ab) (pad : Nat → Nat) (sp : Option Nat) (res wrk : Nat) : Prop := h.2 1 = oX A.pgs.length sp res A.res.1 wrk A.plc A.fnd ∧ ((res = 7 ∧ wrk = 9) ∨ (res = 9 ∧ wrk = 7)) ∧ CPg h A.pgs pad sp ∧ RwAt h 3 1000 A.bys ∧ RwAt h 5 1000 A.uns ∧ RwAt h res 6000 A.res.2 ∧ CSc h wrk ∧ CBk h A.brk ∧ RuAt h 16 A.sgn.1 A.sgn.2 A.fbs ∧ CMc h A.mcs A.pgs pad
def CInv (h : mH) (A : Ab) : Prop := ∃ pad sp res wrk, CI h A pad sp res wrk
def KpX (h h' : mH) : Prop := (∀ x, (x = 0 ∨ (96 ≤ x ∧ x < 143)) → h'.2 x = h.2 x) ∧ h.1 ≤ h'.1
theorem CPg.e {h h' : mH} {l : List Pg} {pad : Nat → Nat} {sp : Option Nat} (a : CPg h l pad sp) (e2 : h'.2 2 = h.2 2) (f : ∀ x, 143 ≤ x → x < h.1 → h'.2 x = h.2 x) (hs : h.1 ≤ h'.1) : CPg h' l pad sp := by
  obtain ⟨a0, ⟨pf, a1, a2⟩, a3, a4, a5⟩ := a
  refine ⟨a0, ⟨pf, e2.trans a1, a2⟩, fun j hj => ?_, a4, fun s hsp => ?_⟩
  · obtain ⟨b1, b2, b3⟩ := a3 j hj
    exact ⟨b1, by omega, b3.e (fun x x1 x2 => f x (by omega) (by omega))⟩
  · obtain ⟨b1, b2, ⟨E, H, b3⟩, b4⟩ := a5 s hsp
    exact ⟨b1, by omega, ⟨E, H, b3.e (fun x x1 x2 => f x (by omega) (by omega))⟩, b4⟩
theorem CSc.e {h h' : mH} {wrk : Nat} (a : CSc h wrk) (f1 : Eqv wrk (wrk + 2) h h') (f2 : Eqv 11 13 h h') (f3 : Eqv 41 48 h h') (f4 : h'.2 15 = h.2 15) : CSc h' wrk := by
  obtain ⟨⟨l, a1⟩, ⟨l2, a2⟩, ⟨p, ru, st, pn, mal, a3⟩, ⟨p2, ru2, st2, l3, u, a4⟩, f, a5⟩ := a
  exact ⟨⟨l, a1.e f1⟩, ⟨l2, a2.e f2⟩, ⟨p, ru, st, pn, mal, a3.e (fun x x1 x2 => f3 x (by omega) (by omega))⟩, ⟨p2, ru2, st2, l3, u, a4.e (fun x x1 x2 => f3 x (by omega) (by omega))⟩, f, f4.trans a5⟩
theorem CBk.e {h h' : mH} {b : Nat × Nat × Nat} (a : CBk h b) (f : h'.2 14 = h.2 14) : CBk h' b := by
  obtain ⟨g, a1, a2⟩ := a
  exact ⟨g, f.trans a1, a2⟩
theorem McI.e {h h' : mH} {a : Nat} {l : List Pg} {pad : Nat → Nat} {m : Option Mc} (x : McI h a l pad m) (f : Eqv a (a + 12) h h') : McI h' a l pad m := by
  cases m with
  | none =>
    obtain ⟨p, wr, rule, sr, pn, sw, ks, fed, pl, fi, x1⟩ := x
    exact ⟨p, wr, rule, sr, pn, sw, ks, fed, pl, fi, x1.e f⟩
  | some m =>
    obtain ⟨sr, sw, pl, fi, x1, x2⟩ := x
    exact ⟨sr, sw, pl, fi, x1.e f, x2⟩
theorem CMc.e {h h' : mH} {mcs : Nat → Option Mc} {l : List Pg} {pad : Nat → Nat} (a : CMc h mcs l pad) (f1 : h'.2 13 = h.2 13) (f2 : Eqv 48 96 h h') : CMc h' mcs l pad := by
  obtain ⟨⟨mf, a1, a2⟩, a3⟩ := a
  exact ⟨⟨mf, f1.trans a1, a2⟩, fun d hd => (a3 d hd).e (fun x x1 x2 => f2 x (by omega) (by omega))⟩
/-- nothing but the object's own cell and scratch rows changed -/
theorem CI.x {h h' : mH} {A A' : Ab} {pad : Nat → Nat} {sp : Option Nat} {res wrk : Nat} (a : CI h A pad sp res wrk) (e1 : h'.2 1 = oX A'.pgs.length sp res A'.res.1 wrk A'.plc A'.fnd) (f : ∀ x, x ≠ 1 → h'.2 x = h.2 x) (hs : h'.1 = h.1) (g1 : A'.pgs = A.pgs) (g2 : A'.bys = A.bys) (g3 : A'.uns = A.uns) (g4 : A'.res = A.res) (g5 : A'.sgn = A.sgn) (g6 : A'.fbs = A.fbs) (g7 : A'.mcs = A.mcs) (g8 : A'.brk = A.brk) : CI h' A' pad sp res wrk := by
  obtain ⟨c1, cr, cp, cb, cu, cq, cs, ck, cru, cm⟩ := a
  refine ⟨e1, cr, ?_, ?_, ?_, ?_, cs.e (fun x x1 x2 => f x (by omega)) (fun x x1 x2 => f x (by omega)) (fun x x1 x2 => f x (by omega)) (f _ (by decide)), ?_, ?_, ?_⟩
  · rw [g1]; exact cp.e (f _ (by decide)) (fun x x1 _ => f x (by omega)) (by omega)
  · rw [g2]; exact cb.e (fun x x1 x2 => f x (by omega))
  · rw [g3]; exact cu.e (fun x x1 x2 => f x (by omega))
  · rw [g4]; exact cq.e (fun x x1 x2 => f x (by omega))
  · rw [g8]; exact ck.e (f _ (by decide))
  · rw [g5, g6]; exact cru.e (fun x x1 x2 => f x (by omega))
  · rw [g7, g1]; exact cm.e (f _ (by decide)) (fun x x1 x2 => f x (by omega))
theorem KpX.of {h h' : mH} {lo hi : Nat} (f : Fr lo hi h h') (h1 : 1 ≤ lo) (h2 : hi ≤ 96 ∨ 143 ≤ lo) : KpX h h' := ⟨fun x hx => f.2 x (by omega), by rw [f.1]; exact Nat.le_refl _⟩
theorem KpX.rfl {h : mH} : KpX h h := ⟨fun _ _ => Eq.refl _, Nat.le_refl _⟩
theorem KpX.trans {h h1 h2 : mH} (a : KpX h h1) (b : KpX h1 h2) : KpX h h2 := ⟨fun x hx => (b.1 x hx).trans (a.1 x hx), Nat.le_trans a.2 b.2⟩
theorem c_ansN {d : Nat} {h : mH} {A : Ab} {pad : Nat → Nat} {sp : Option Nat} {res wrk : Nat} {v : Int32} {Q : mP} (hC : CI h A pad sp res wrk) (hv : v.toInt < 0) (q : ∀ h', CI h' A.tell pad sp res wrk → KpX h h' → Q (some (.int v)) h') : mWP (d + 1) 139 [.ref 1, .int v] h Q := by
  refine c_answer hC.1 rfl rfl (fun h9 => absurd hv (by omega)) (fun _ => q _ (hC.x (A' := A.tell) (mg_eq _ _ _) (fun x hx => mg_ne hx (Eq.refl _)) (Eq.refl _) (Eq.refl _) (Eq.refl _) (Eq.refl _) (Eq.refl _) (Eq.refl _) (Eq.refl _) (Eq.refl _) (Eq.refl _)) ⟨fun x hx => mg_ne (by omega) (Eq.refl _), Nat.le_refl _⟩)
theorem c_ansP {d : Nat} {h : mH} {A : Ab} {pad : Nat → Nat} {sp : Option Nat} {res wrk : Nat} {v : Int32} {Q : mP} (hC : CI h A pad sp res wrk) (hv : 0 ≤ v.toInt) (q : Q (some (.int v)) h) : mWP (d + 1) 139 [.ref 1, .int v] h Q := c_answer hC.1 rfl rfl (fun _ => q) (fun h9 => absurd hv (by omega))
def inR (n : Nat) (p : Int32) : Bool := decide (0 ≤ p.toInt ∧ p.toInt < n)
def tfI (l : List Pg) (p : Int32) : Int32 := if 0 ≤ p.toInt ∧ p.toInt < l.length then (if pgK l p.toInt.toNat = 0 then 0 else -3) else -1
def cfI (l : List Pg) (p : Int32) : Int32 := if 0 ≤ p.toInt ∧ p.toInt < l.length then (if pgC l p.toInt.toNat = true then 0 else -5) else -1
def bfI (l : List Pg) (p q : Int32) : Int32 := if (0 ≤ p.toInt ∧ p.toInt < l.length) ∧ (0 ≤ q.toInt ∧ q.toInt < l.length) then (if pgC l p.toInt.toNat = true ∧ pgC l q.toInt.toNat = true then 0 else -5) else -1
theorem ixP {p : Int32} {n : Nat} (hn : n ≤ 10) (h : inR n p = true) : ∃ P, P < n ∧ p = nI P ∧ p.toInt = P ∧ p.toInt.toNat = P := by
  have h1 := of_decide_eq_true h
  obtain ⟨W, a, b, c, e⟩ := ix_of (x := p) (n := n) h1
  subst b
  exact ⟨W, by omega, rfl, by omega, by omega⟩
