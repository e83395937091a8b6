/-! the reference: close, size, told, sign, result, input -/
def sp_close (A : Ab) (p : Int32) : Int32 × Ab :=
  if fxA A.pgs p = 0 then
    match gdA (pgE A.pgs p.toInt.toNat) (pgH A.pgs p.toInt.toNat) with
    | none => (0, A.wPgs (A.pgs.set p.toInt.toNat (0, true, pgE A.pgs p.toInt.toNat, pgH A.pgs p.toInt.toNat)))
    | some x => (-8, (A.wBrk x).tell)
  else (fxA A.pgs p, A.tell)
def sp_size (A : Ab) (p w : Int32) : Int32 × Ab :=
  if (0 ≤ p.toInt ∧ p.toInt < A.pgs.length) ∧ (0 ≤ w.toInt ∧ w.toInt ≤ 3) then
    (if w.toInt = 0 then nI (pgK A.pgs p.toInt.toNat) else if w.toInt = 1 then bI (pgC A.pgs p.toInt.toNat) else if w.toInt = 2 then nI (pgE A.pgs p.toInt.toNat).length else nI (pgH A.pgs p.toInt.toNat).length, A)
  else (-1, A.tell)
def sp_told (A : Ab) (w : Int32) : Int32 × Ab :=
  if 0 ≤ w.toInt ∧ w.toInt < 11 then
    (nI ([A.plc, A.brk.1, A.brk.2.1, A.brk.2.2, A.pgs.length, A.bys.length, A.uns.length, A.res.2.length, A.res.1, A.fbs.length, A.fnd].getD w.toInt.toNat 0), A)
  else (-1, A.tell)
def sp_sign (A : Ab) (w x : Int32) : Int32 × Ab :=
  if (0 ≤ w.toInt ∧ w.toInt ≤ 1) ∧ jPoint x = true then
    if w.toInt = 0 then (nI A.sgn.1, A.wSgn (x.toInt.toNat, A.sgn.2)) else (nI A.sgn.2, A.wSgn (A.sgn.1, x.toInt.toNat))
  else (-1, A.tell)
def sp_result (A : Ab) (i : Int32) : Int32 × Ab := if 0 ≤ i.toInt ∧ i.toInt < A.res.2.length then (nI (A.res.2.getD i.toInt.toNat 0), A) else (-2, A.tell)
def byW (w : Int64) (m k : Nat) : Nat := w.toBitVec.toNat / 2 ^ (m * k) % 2 ^ m
def bAdd (w : Int64) (m : Nat) : Nat → List Nat → List Nat
  | 0, l => l
  | k + 1, l => bAdd w m k (l ++ [byW w m k])
def sp_bytesIn (A : Ab) (w : Int64) (n : Int32) : Int32 × Ab :=
  if 1 ≤ n.toInt ∧ n.toInt ≤ 8 then
    if A.bys.length + n.toInt.toNat ≤ 1000 then (nI (A.bys.length + n.toInt.toNat), A.wBys (bAdd w 8 n.toInt.toNat A.bys)) else (-6, A.tell)
  else (-1, A.tell)
def sp_unitsIn (A : Ab) (w : Int64) (n : Int32) : Int32 × Ab :=
  if 1 ≤ n.toInt ∧ n.toInt ≤ 4 then
    if A.uns.length + n.toInt.toNat ≤ 1000 then (nI (A.uns.length + n.toInt.toNat), A.wUns (bAdd w 16 n.toInt.toNat A.uns)) else (-6, A.tell)
  else (-1, A.tell)
def sp_fill (A : Ab) (w : Int32) : Int32 × Ab :=
  if 0 ≤ w.toInt ∧ w.toInt ≤ 3 then
    if w.toInt = 0 then (nI A.bys.length, A.wBys []) else if w.toInt = 1 then (nI A.uns.length, A.wUns []) else
    if w.toInt = 2 then (if A.res.1 = 2 then (if A.res.2.length ≤ 1000 then (nI A.res.2.length, A.wBys A.res.2) else (-6, A.tell)) else (-2, A.tell))
    else (if A.res.1 = 1 then (if A.res.2.length ≤ 1000 then (nI A.res.2.length, A.wUns A.res.2) else (-6, A.tell)) else (-2, A.tell))
  else (-1, A.tell)
theorem RInv.cls {s s1 : rS} {A : Ab} {P : Nat} (hI : RInv s A) (hB : PgB A.pgs) (hP : P < A.pgs.length) (hk0 : pgK A.pgs P = 0) (hO : OnA fGd s s1) : RInv (stA 2 P 1 s1) (A.wPgs (A.pgs.set P (0, true, pgE A.pgs P, pgH A.pgs P))) := by
  have h1 : RInv s1 A := hI.k0 (hO.keep (fun f hf => by simp only [fGd, Bool.or_eq_true] at hf; rcases hf with hf | hf <;> (have := Nat.eq_of_beq_eq_true hf; subst this; rfl))) (by rw [hO.1])
  have hg := h1.1.2.2 P hP
  have same : ∀ p, SameTb s1 (stA 2 P 1 s1) p := fun p => ⟨rfl, rfl, fun _ _ => ⟨rfl, rfl, rfl, rfl, rfl⟩, fun _ _ => ⟨rfl, rfl, rfl, rfl⟩⟩
  exact h1.pg (fun c hc => rfl) (fun f hf => gAf (by omega)) (h1.1.upd hB hP rfl (hg.1.trans hk0) (gA_eq _ _ _ _) (hg.2.2.same (same P) (hB P hP).1 (hB P hP).2.1) (fun p hp hpp => ⟨rfl, gA_nj hpp rfl, same p⟩))
theorem RInv.bad {s s1 : rS} {A : Ab} {a b c : Nat} (hI : RInv s A) (hO : OnA fGd s s1) : RInv (stI 24 (s1.1 24 + 1) (stA 23 2 c (stA 23 1 b (stA 23 0 a s1)))) (A.wBrk (a, b, c)).tell := by
  have h1 : RInv s1 A := hI.k0 (hO.keep (fun f hf => by simp only [fGd, Bool.or_eq_true] at hf; rcases hf with hf | hf <;> (have := Nat.eq_of_beq_eq_true hf; subst this; rfl))) (by rw [hO.1])
  obtain ⟨a1, a2, a3, a4, a5, a6, a7, a8, a9, a10, a11⟩ := h1
  refine ⟨a1, a2, a3, a4, a5, a6, a7, a8, ⟨?_, ?_, ?_⟩, ?_, a11⟩
  · repeat (first | with_reducible exact gA_eq _ _ _ _ | (with_reducible apply gA_ne; decide) | with_reducible apply gA_I | with_reducible apply gA_O | (with_reducible apply gA_nj; omega) | with_reducible rfl | exact gA_eq _ _ _ _)
  · repeat (first | with_reducible exact gA_eq _ _ _ _ | (with_reducible apply gA_ne; decide) | with_reducible apply gA_I | with_reducible apply gA_O | (with_reducible apply gA_nj; omega) | with_reducible rfl | exact gA_eq _ _ _ _)
  · repeat (first | with_reducible exact gA_eq _ _ _ _ | (with_reducible apply gA_ne; decide) | with_reducible apply gA_I | with_reducible apply gA_O | (with_reducible apply gA_nj; omega) | with_reducible rfl | exact gA_eq _ _ _ _)
  · rw [gI_eq, a10]; rfl
theorem Seg.app {f : Nat → Nat} {a x : Nat} {l : List Nat} (h : Seg f a l) : Seg (updN f (a + l.length) x) a (l ++ [x]) := by
  intro j hj
  rw [List.length_append, List.length_singleton] at hj
  rw [getD_app9]
  by_cases e : j = l.length
  · subst e; simp [updN]
  · rw [if_pos (by omega), updN, if_neg (by omega)]
    exact h j (by omega)
theorem RInv.addB {s : rS} {A : Ab} {l : List Nat} {x : Nat} (hI : RInv s (A.wBys l)) (hl : l.length < 1000) : RInv (stI 14 (l.length + 1) (stA 15 l.length x s)) (A.wBys (l ++ [x])) := by
  obtain ⟨a1, a2, a3, a4, a5, a6, a7, a8, a9, a10, a11⟩ := hI
  refine ⟨a1, ⟨?_, ?_, ?_⟩, a3, a4, a5, a6, a7, a8, a9, a10, a11⟩
  · show _ = (l ++ [x]).length
    rw [gI_eq, List.length_append]; rfl
  · show (l ++ [x]).length ≤ 1000
    rw [List.length_append, List.length_singleton]; omega
  · have := Seg.app (x := x) a2.2.2
    rw [Nat.zero_add] at this
    exact this
theorem RInv.addU {s : rS} {A : Ab} {l : List Nat} {x : Nat} (hI : RInv s (A.wUns l)) (hl : l.length < 1000) : RInv (stI 16 (l.length + 1) (stA 17 l.length x s)) (A.wUns (l ++ [x])) := by
  obtain ⟨a1, a2, a3, a4, a5, a6, a7, a8, a9, a10, a11⟩ := hI
  refine ⟨a1, a2, ⟨?_, ?_, ?_⟩, a4, a5, a6, a7, a8, a9, a10, a11⟩
  · show _ = (l ++ [x]).length
    rw [gI_eq, List.length_append]; rfl
  · show (l ++ [x]).length ≤ 1000
    rw [List.length_append, List.length_singleton]; omega
  · have := Seg.app (x := x) a3.2.2
    rw [Nat.zero_add] at this
    exact this
theorem lsbm (b : BitVec 64) (n m : Nat) (h : n + m ≤ 64) : (b.sshiftRight n &&& BitVec.ofNat 64 (2 ^ m - 1)).toNat = b.toNat / 2 ^ n % 2 ^ m := by
  apply Nat.eq_of_testBit_eq
  intro i
  rw [BitVec.testBit_toNat, BitVec.getLsbD_and, Nat.testBit_mod_two_pow, Nat.testBit_div_two_pow, BitVec.testBit_toNat, BitVec.getLsbD_ofNat, Nat.testBit_two_pow_sub_one, BitVec.getLsbD_sshiftRight]
  by_cases hi : i < m
  · simp only [show ¬ 64 ≤ i by omega, show n + i < 64 by omega, hi, show i < 64 by omega, decide_true, decide_false, Bool.not_false, Bool.true_and, Bool.and_true, if_true, Nat.add_comm i n]
  · simp [hi]
theorem wsh {w : Int64} {m k : Nat} (hm0 : 0 < m) (hm : m ≤ 16) (h : m * k + m ≤ 64) : (mLop 3 (mLsh 1 w (nI (m * k))) (Int64.ofInt (2 ^ m - 1 : Nat))).toInt32 = nI (byW w m k) := by
  have h2 : 2 ^ m ≤ 2 ^ 16 := Nat.pow_le_pow_right (by decide) hm
  have h3 : byW w m k < 2 ^ m := Nat.mod_lt _ (Nat.two_pow_pos m)
  apply Int32.toBitVec_inj.mp
  apply BitVec.eq_of_toNat_eq
  rw [pk_tn (by omega)]
  have e1 : ∀ j, j < 64 → (((nI j).toInt64 &&& 63).toBitVec.smod 64).toNat = j := by decide +kernel
  have e2 : (mLop 3 (mLsh 1 w (nI (m * k))) (Int64.ofInt (2 ^ m - 1 : Nat))).toBitVec = w.toBitVec.sshiftRight (m * k) &&& BitVec.ofNat 64 (2 ^ m - 1) := by
    show (w >>> ((nI (m * k)).toInt64 &&& 63) &&& Int64.ofInt (2 ^ m - 1 : Nat)).toBitVec = _
    rw [Int64.toBitVec_and, Int64.toBitVec_shiftRight, BitVec.sshiftRight', e1 (m * k) (by omega)]
    congr 1
  rw [Int64.toBitVec_toInt32, e2, BitVec.signExtend_eq_setWidth_of_le _ (by decide), BitVec.toNat_setWidth, lsbm _ _ _ h]
  exact Nat.mod_eq_of_lt (by have : byW w m k < 2 ^ 32 := by omega
                             exact this)
def dnI : Nat → Int32
  | 0 => -1
  | m + 1 => nI m
set_option maxRecDepth 10000 in
theorem r_close {d r : Nat} {h h0 : mH} {s : rS} {A : Ab} {p : Int32} {Q : mP} (hR : Rf r h0 s h) (hI : RInv s A) (hB : PgB A.pgs) (hK : ∀ P, pgK A.pgs P < 2 ^ 31)  (q : ∀ h' s', Rf r h0 s' h' → RInv s' (sp_close A p).2 → Q (some (.int (sp_close A p).1)) h') : mWP (d + 4) 198 [.ref r, .int p] h Q := by
  have hG := hI.1
  have hG2 := hG.2.1
  refine z_in [some (.ref r), some (.int p), none, none] (by rfl) rfl rfl rfl ?_
  refine z_aload 1 rfl rfl rfl ?_
  refine z_iload 2 rfl rfl rfl ?_
  refine z_cv1 5 rfl rfl hR.1 rfl (Nat.le_refl _) (Nat.le_refl _) ?_
  refine r_fixed hR hG hK ?_
  refine z_istore 6 rfl rfl rfl rfl ?_
  refine z_iload 7 rfl rfl rfl ?_
  first | refine z_ieq 10 rfl rfl (fun hc7 => ?_) (fun hc7 => ?_)
  · obtain ⟨hp, hk0, hcl⟩ := fxA_0 hc7
    obtain ⟨P, hP, rfl, hp1, hp2⟩ := ix_of hp
    rw [hp2] at hk0 hcl
    obtain ⟨hg1, hg2, hT⟩ := hG.2.2 P hP
    have hW := hB P hP
    refine z_aload 17 rfl rfl rfl ?_
    refine z_iload 18 rfl rfl rfl ?_
    refine z_cv1 21 rfl rfl hR.1 rfl (Nat.le_refl _) (Nat.le_refl _) ?_
    refine r_isGood hR hT hW (fun h s1 hR hO hbr => ?_)
    rcases hgd : gdA (pgE A.pgs P) (pgH A.pgs P) with _ | ⟨a, b, c⟩
    · simp only [Option.isNone]
      refine z_beq 24 rfl rfl (fun h9 => absurd h9 (by decide)) (fun _ => ?_)
      refine z_aload 25 rfl rfl rfl ?_
      refine y_ga 28 hR rfl rfl rfl ?_
      refine z_iload 29 rfl rfl rfl ?_
      refine z_push 30 (nI 1) rfl rfl rfl ?_
      refine y_bs (f := 2) 31 hR rfl rfl rfl rfl (by omega) (by decide) ?_
      intro h hR
      refine z_push 32 (nI 0) rfl rfl rfl ?_
      refine z_ireti rfl (Nat.le_refl _) (Nat.le_refl _) ?_
      have e9 : sp_close A (nI P) = (0, A.wPgs (A.pgs.set P (0, true, pgE A.pgs P, pgH A.pgs P))) := by
        rw [sp_close, if_pos hc7, hp2, hgd]
      rw [e9] at q
      exact q h _ hR (hI.cls hB hP hk0 hO)
    · simp only [Option.isNone]
      obtain ⟨hb1, hb2, hb3⟩ := hbr a b c hgd
      refine z_beq 24 rfl rfl (fun _ => ?_) (fun h9 => absurd h9 (by decide))
      refine z_push 34 (nI 0) rfl rfl rfl ?_
      refine z_istore 35 rfl rfl rfl rfl ?_
      refine z_iload 36 rfl rfl rfl ?_
      refine z_push 37 (nI 3) rfl rfl rfl ?_
      refine z_nge 40 rfl rfl (by omega) (by omega) (fun h9 => absurd h9 (by omega)) (fun _ => ?_)
      refine z_aload 41 rfl rfl rfl ?_
      refine y_ga 44 hR rfl rfl rfl ?_
      refine z_iload 45 rfl rfl rfl ?_
      refine z_aload 46 rfl rfl rfl ?_
      refine y_ga 49 hR rfl rfl rfl ?_
      refine z_iload 50 rfl rfl rfl ?_
      refine y_al (f := 30) 51 _ hR rfl rfl rfl rfl (by omega) (by repeat (first | with_reducible exact hb1 | with_reducible exact hb2 | with_reducible exact hb3 | with_reducible exact gA_eq _ _ _ _ | (with_reducible apply gA_ne; decide) | with_reducible apply gA_I | with_reducible apply gA_O | (with_reducible apply gA_nj; omega) | with_reducible rfl)) ?_
      refine y_as (f := 23) 52 hR rfl rfl rfl rfl (by omega) ?_
      intro h hR
      refine z_iinc 55 (nI 1) rfl rfl rfl rfl (by decide) ?_
      refine z_goto rfl ?_
      refine z_iload 36 rfl rfl rfl ?_
      refine z_push 37 (nI 3) rfl rfl rfl ?_
      refine z_nge 40 rfl rfl (by omega) (by omega) (fun h9 => absurd h9 (by omega)) (fun _ => ?_)
      refine z_aload 41 rfl rfl rfl ?_
      refine y_ga 44 hR rfl rfl rfl ?_
      refine z_iload 45 rfl rfl rfl ?_
      refine z_aload 46 rfl rfl rfl ?_
      refine y_ga 49 hR rfl rfl rfl ?_
      refine z_iload 50 rfl rfl rfl ?_
      refine y_al (f := 30) 51 _ hR rfl rfl rfl rfl (by omega) (by repeat (first | with_reducible exact hb1 | with_reducible exact hb2 | with_reducible exact hb3 | with_reducible exact gA_eq _ _ _ _ | (with_reducible apply gA_ne; decide) | with_reducible apply gA_I | with_reducible apply gA_O | (with_reducible apply gA_nj; omega) | with_reducible rfl)) ?_
      refine y_as (f := 23) 52 hR rfl rfl rfl rfl (by omega) ?_
      intro h hR
      refine z_iinc 55 (nI 2) rfl rfl rfl rfl (by decide) ?_
      refine z_goto rfl ?_
      refine z_iload 36 rfl rfl rfl ?_
      refine z_push 37 (nI 3) rfl rfl rfl ?_
      refine z_nge 40 rfl rfl (by omega) (by omega) (fun h9 => absurd h9 (by omega)) (fun _ => ?_)
      refine z_aload 41 rfl rfl rfl ?_
      refine y_ga 44 hR rfl rfl rfl ?_
      refine z_iload 45 rfl rfl rfl ?_
      refine z_aload 46 rfl rfl rfl ?_
      refine y_ga 49 hR rfl rfl rfl ?_
      refine z_iload 50 rfl rfl rfl ?_
      refine y_al (f := 30) 51 _ hR rfl rfl rfl rfl (by omega) (by repeat (first | with_reducible exact hb1 | with_reducible exact hb2 | with_reducible exact hb3 | with_reducible exact gA_eq _ _ _ _ | (with_reducible apply gA_ne; decide) | with_reducible apply gA_I | with_reducible apply gA_O | (with_reducible apply gA_nj; omega) | with_reducible rfl)) ?_
      refine y_as (f := 23) 52 hR rfl rfl rfl rfl (by omega) ?_
      intro h hR
      refine z_iinc 55 (nI 3) rfl rfl rfl rfl (by decide) ?_
      refine z_goto rfl ?_
      refine z_iload 36 rfl rfl rfl ?_
      refine z_push 37 (nI 3) rfl rfl rfl ?_
      refine z_nge 40 rfl rfl (by omega) (by omega) (fun _ => ?_) (fun h9 => absurd h9 (by omega))
      refine z_aload 59 rfl rfl rfl ?_
      refine z_push 61 (-8) rfl rfl rfl ?_
      refine z_cv1 64 rfl rfl hR.1 rfl (Nat.le_refl _) (Nat.le_refl _) ?_
      refine r_tell hR (fun h9 => absurd h9 (by decide)) (fun _ h hR => ?_)
      refine z_ireti rfl (Nat.le_refl _) (Nat.le_refl _) ?_
      have e9 : sp_close A (nI P) = (-8, (A.wBrk (a, b, c)).tell) := by
        rw [sp_close, if_pos hc7, hp2, hgd]
      rw [e9] at q
      exact q h _ hR (hI.bad hO)
  · refine z_aload 11 rfl rfl rfl ?_
    refine z_iload 12 rfl rfl rfl ?_
    refine z_cv1 15 rfl rfl hR.1 rfl (Nat.le_refl _) (Nat.le_refl _) ?_
    refine r_tell hR (fun h9 => absurd h9 (by have := fxA_n hc7; omega)) (fun _ h hR => ?_)
    refine z_ireti rfl (Nat.le_refl _) (Nat.le_refl _) ?_
    have e9 : sp_close A p = (fxA A.pgs p, A.tell) := if_neg hc7
    rw [e9] at q
    exact q h _ hR hI.tell
set_option maxRecDepth 10000 in
theorem r_size {d r : Nat} {h h0 : mH} {s : rS} {A : Ab} {p w : Int32} {Q : mP} (hR : Rf r h0 s h) (hI : RInv s A) (hK : ∀ P, pgK A.pgs P < 2 ^ 31)  (q : ∀ h' s', Rf r h0 s' h' → RInv s' (sp_size A p w).2 → Q (some (.int (sp_size A p w).1)) h') : mWP (d + 3) 199 [.ref r, .int p, .int w] h Q := by
  have hG := hI.1
  have hG2 := hG.2.1
  refine z_in [some (.ref r), some (.int p), some (.int w)] (by rfl) rfl rfl rfl ?_
  refine z_aload 1 rfl rfl rfl ?_
  refine z_iload 2 rfl rfl rfl ?_
  refine z_cv1 5 rfl rfl hR.1 rfl (Nat.le_refl _) (Nat.le_refl _) ?_
  refine r_isPage hR hG.1 hG.2.1 ?_
  first | refine z_beq 8 rfl rfl (fun hc5 => ?_) (fun hc5 => ?_)
  · refine z_aload 18 rfl rfl rfl ?_
    refine z_push 19 (-1) rfl rfl rfl ?_
    refine z_cv1 22 rfl rfl hR.1 rfl (Nat.le_refl _) (Nat.le_refl _) ?_
    refine r_tell hR (fun h9 => absurd h9 (by decide)) (fun _ h hR => ?_)
    refine z_ireti rfl (Nat.le_refl _) (Nat.le_refl _) ?_
    have e9 : sp_size A p w = (-1, A.tell) := if_neg (fun h9 => by
      first | (rw [decide_eq_false_iff_not] at hc5; exact hc5 h9.1) | (rw [decide_eq_false_iff_not] at hc14; exact hc14 (by have := h9.2; omega)))
    rw [e9] at q
    exact q h _ hR hI.tell
  · rw [decide_eq_true_eq] at hc5
    obtain ⟨P, hP, rfl, hp1, hp2⟩ := ix_of hc5
    obtain ⟨hg1, hg2, hT⟩ := hG.2.2 P hP
    obtain ⟨hT1, hT2, hT3, hT4, hT5⟩ := id hT
    refine z_iload 9 rfl rfl rfl ?_
    refine z_push 10 (nI 0) rfl rfl rfl ?_
    refine z_push 11 (nI 3) rfl rfl rfl ?_
    refine z_cs3 14 rfl rfl rfl (Nat.le_refl _) (Nat.le_refl _) ?_
    refine r_in ?_
    rw [jIn_l (by omega) (by omega)]
    first | refine z_bne 17 rfl rfl (fun hc14 => ?_) (fun hc14 => ?_)
    · rw [decide_eq_true_eq] at hc14
      obtain ⟨W, hW9, rfl, hw1, hw2⟩ := ix_of (x := w) (n := 4) (by omega)
      have e9 : sp_size A (nI P) (nI W) = (if (nI W).toInt = 0 then nI (pgK A.pgs (nI P).toInt.toNat) else if (nI W).toInt = 1 then bI (pgC A.pgs (nI P).toInt.toNat) else if (nI W).toInt = 2 then nI (pgE A.pgs (nI P).toInt.toNat).length else nI (pgH A.pgs (nI P).toInt.toNat).length, A) := if_pos ⟨hc5, by omega⟩
      rw [hp2] at e9
      refine z_iload 24 rfl rfl rfl ?_
      first | refine z_zne 27 rfl rfl (by omega) (fun hc24 => ?_) (fun hc24 => ?_)
      · refine z_iload 37 rfl rfl rfl ?_
        refine z_push 38 (nI 1) rfl rfl rfl ?_
        refine z_nne 41 rfl rfl (by omega) (by omega) (fun hc38 => ?_) (fun hc38 => ?_)
        · refine z_iload 59 rfl rfl rfl ?_
          refine z_push 60 (nI 2) rfl rfl rfl ?_
          refine z_nne 63 rfl rfl (by omega) (by omega) (fun hc60 => ?_) (fun hc60 => ?_)
          · refine z_aload 73 rfl rfl rfl ?_
            refine y_ga 76 hR rfl rfl rfl ?_
            refine z_iload 77 rfl rfl rfl ?_
            refine y_al (f := 4) 78 _ hR rfl rfl rfl rfl (by omega) (by repeat (first | with_reducible exact hg1 | with_reducible exact hg2 | with_reducible exact hT2 | with_reducible exact hT3 | with_reducible exact gA_eq _ _ _ _ | (with_reducible apply gA_ne; decide) | with_reducible apply gA_I | with_reducible apply gA_O | (with_reducible apply gA_nj; omega) | with_reducible rfl)) ?_
            refine z_ireti rfl (Nat.le_refl _) (Nat.le_refl _) ?_
            rw [if_neg (by omega), if_neg (by omega), if_neg (by omega)] at e9
            rw [e9] at q
            exact q h _ hR hI
          · refine z_aload 64 rfl rfl rfl ?_
            refine y_ga 67 hR rfl rfl rfl ?_
            refine z_iload 68 rfl rfl rfl ?_
            refine y_al (f := 3) 69 _ hR rfl rfl rfl rfl (by omega) (by repeat (first | with_reducible exact hg1 | with_reducible exact hg2 | with_reducible exact hT2 | with_reducible exact hT3 | with_reducible exact gA_eq _ _ _ _ | (with_reducible apply gA_ne; decide) | with_reducible apply gA_I | with_reducible apply gA_O | (with_reducible apply gA_nj; omega) | with_reducible rfl)) ?_
            refine z_goto rfl ?_
            refine z_ireti rfl (Nat.le_refl _) (Nat.le_refl _) ?_
            rw [if_neg (by omega), if_neg (by omega), if_pos (by omega)] at e9
            rw [e9] at q
            exact q h _ hR hI
        · refine z_aload 42 rfl rfl rfl ?_
          refine y_ga 45 hR rfl rfl rfl ?_
          refine z_iload 46 rfl rfl rfl ?_
          refine y_bb (f := 2) 47 _ hR rfl rfl rfl rfl (by omega) (by repeat (first | with_reducible exact hg1 | with_reducible exact hg2 | with_reducible exact hT2 | with_reducible exact hT3 | with_reducible exact gA_eq _ _ _ _ | (with_reducible apply gA_ne; decide) | with_reducible apply gA_I | with_reducible apply gA_O | (with_reducible apply gA_nj; omega) | with_reducible rfl)) ?_
          first | refine z_beq 50 rfl rfl (fun hc47 => ?_) (fun hc47 => ?_)
          · refine z_push 55 (nI 0) rfl rfl rfl ?_
            refine z_goto rfl ?_
            refine z_ireti rfl (Nat.le_refl _) (Nat.le_refl _) ?_
            rw [if_neg (by omega), if_pos (by omega)] at e9
            rw [hc47] at e9
            rw [e9] at q
            exact q h _ hR hI
          · refine z_push 51 (nI 1) rfl rfl rfl ?_
            refine z_goto rfl ?_
            refine z_ireti rfl (Nat.le_refl _) (Nat.le_refl _) ?_
            rw [if_neg (by omega), if_pos (by omega)] at e9
            rw [hc47] at e9
            rw [e9] at q
            exact q h _ hR hI
      · refine z_aload 28 rfl rfl rfl ?_
        refine y_ga 31 hR rfl rfl rfl ?_
        refine z_iload 32 rfl rfl rfl ?_
        refine y_al (f := 1) 33 _ hR rfl rfl rfl rfl (by omega) (by repeat (first | with_reducible exact hg1 | with_reducible exact hg2 | with_reducible exact hT2 | with_reducible exact hT3 | with_reducible exact gA_eq _ _ _ _ | (with_reducible apply gA_ne; decide) | with_reducible apply gA_I | with_reducible apply gA_O | (with_reducible apply gA_nj; omega) | with_reducible rfl)) ?_
        refine z_goto rfl ?_
        refine z_ireti rfl (Nat.le_refl _) (Nat.le_refl _) ?_
        rw [if_pos (by omega)] at e9
        rw [e9] at q
        exact q h _ hR hI
    · refine z_aload 18 rfl rfl rfl ?_
      refine z_push 19 (-1) rfl rfl rfl ?_
      refine z_cv1 22 rfl rfl hR.1 rfl (Nat.le_refl _) (Nat.le_refl _) ?_
      refine r_tell hR (fun h9 => absurd h9 (by decide)) (fun _ h hR => ?_)
      refine z_ireti rfl (Nat.le_refl _) (Nat.le_refl _) ?_
      have e9 : sp_size A (nI P) w = (-1, A.tell) := if_neg (fun h9 => by
        first | (rw [decide_eq_false_iff_not] at hc5; exact hc5 h9.1) | (rw [decide_eq_false_iff_not] at hc14; exact hc14 (by have := h9.2; omega)))
      rw [e9] at q
      exact q h _ hR hI.tell
set_option maxRecDepth 10000 in
theorem r_told {d r : Nat} {h h0 : mH} {s : rS} {A : Ab} {w : Int32} {Q : mP} (hR : Rf r h0 s h) (hI : RInv s A)  (q : ∀ h' s', Rf r h0 s' h' → RInv s' (sp_told A w).2 → Q (some (.int (sp_told A w).1)) h') : mWP (d + 2) 260 [.ref r, .int w] h Q := by
  have f0 : s.1 0 = A.pgs.length := hI.1.1
  have f14 : s.1 14 = A.bys.length := hI.2.1.1
  have f16 : s.1 16 = A.uns.length := hI.2.2.1.1
  have f18 : s.1 18 = A.res.2.length := hI.2.2.2.1.1
  have f19 : s.1 19 = A.res.1 := hI.2.2.2.1.2.2.1
  have f22 : s.1 22 = A.plc := hI.2.2.2.2.2.2.2.1
  have f24 : s.1 24 = A.fnd := hI.2.2.2.2.2.2.2.2.2.1
  have f25 : s.1 25 = A.fbs.length := hI.2.2.2.2.2.1.1
  have f48 : s.1 48 = 0 := hI.2.2.2.2.2.2.2.2.2.2
  have l0 : A.pgs.length ≤ 10 := hI.1.2.1
  have l14 : A.bys.length ≤ 1000 := hI.2.1.2.1
  have l16 : A.uns.length ≤ 1000 := hI.2.2.1.2.1
  have l18 : A.res.2.length ≤ 6000 := hI.2.2.2.1.2.1
  have l25 : A.fbs.length ≤ 40 := hI.2.2.2.2.2.1.2.1
  obtain ⟨hB1, hB2, hB3⟩ := hI.2.2.2.2.2.2.2.2.1
  refine z_in [some (.ref r), some (.int w)] (by rfl) rfl rfl rfl ?_
  refine z_iload 1 rfl rfl rfl ?_
  by_cases hsw : (0 : Int) ≤ (w).toInt ∧ (w).toInt < 11
  · obtain ⟨j9, hj9, hx9⟩ : ∃ j9 : Nat, j9 < 11 ∧ (w).toInt = 0 + (j9 : Int) := ⟨((w).toInt - 0).toNat, by omega, by omega⟩
    have h9 : j9 = 0 ∨ j9 = 1 ∨ j9 = 2 ∨ j9 = 3 ∨ j9 = 4 ∨ j9 = 5 ∨ j9 = 6 ∨ j9 = 7 ∨ j9 = 8 ∨ j9 = 9 ∨ j9 = 10 := by omega
    rcases h9 with rfl | rfl | rfl | rfl | rfl | rfl | rfl | rfl | rfl | rfl | rfl
    · refine z_swIn 60 rfl 0 (by omega) rfl ?_
      refine z_aload 61 rfl rfl rfl ?_
      refine y_gi 64 _ hR rfl rfl rfl rfl rfl (by repeat (first | with_reducible exact gI_eq _ _ _ | (with_reducible apply gI_ne; decide) | with_reducible apply gI_A | with_reducible apply gI_O | with_reducible exact hB1 | with_reducible exact hB2 | with_reducible exact hB3 | with_reducible exact f0 | with_reducible exact f14 | with_reducible exact f16 | with_reducible exact f18 | with_reducible exact f19 | with_reducible exact f22 | with_reducible exact f24 | with_reducible exact f25 | with_reducible exact f48 | with_reducible rfl)) ?_
      refine z_ireti rfl (Nat.le_refl _) (Nat.le_refl _) ?_
      have e9 : sp_told A w = (nI ([A.plc, A.brk.1, A.brk.2.1, A.brk.2.2, A.pgs.length, A.bys.length, A.uns.length, A.res.2.length, A.res.1, A.fbs.length, A.fnd].getD w.toInt.toNat 0), A) := if_pos (by omega)
      rw [e9, show w.toInt.toNat = 0 from by omega] at q
      exact q h _ hR hI
    · refine z_swIn 65 rfl 1 (by omega) rfl ?_
      obtain rfl : w = nI 1 := by rw [← Int32.toInt_inj, hx9, nI_toInt (by omega)]; rfl
      refine z_aload 66 rfl rfl rfl ?_
      refine y_ga 69 hR rfl rfl rfl ?_
      refine z_iload 70 rfl rfl rfl ?_
      refine z_push 71 (nI 1) rfl rfl rfl ?_
      refine z_bop 72 _ rfl rfl (by first | with_reducible exact zb_1 (by omega) | exact zd_1 _ _) ?_
      refine y_al (f := 23) 73 _ hR rfl rfl rfl rfl (by omega) (by repeat (first | with_reducible exact hB1 | with_reducible exact hB2 | with_reducible exact hB3 | with_reducible exact f0 | with_reducible exact f14 | with_reducible exact f16 | with_reducible exact f18 | with_reducible exact f19 | with_reducible exact f22 | with_reducible exact f24 | with_reducible exact f25 | with_reducible exact f48 | with_reducible exact gA_eq _ _ _ _ | (with_reducible apply gA_ne; decide) | with_reducible apply gA_I | with_reducible apply gA_O | (with_reducible apply gA_nj; omega) | with_reducible rfl)) ?_
      refine z_ireti rfl (Nat.le_refl _) (Nat.le_refl _) ?_
      have e9 : sp_told A (nI 1) = (nI ([A.plc, A.brk.1, A.brk.2.1, A.brk.2.2, A.pgs.length, A.bys.length, A.uns.length, A.res.2.length, A.res.1, A.fbs.length, A.fnd].getD (nI 1).toInt.toNat 0), A) := if_pos (by omega)
      rw [e9, show (nI 1).toInt.toNat = 1 from by omega] at q
      exact q h _ hR hI
    · refine z_swIn 65 rfl 2 (by omega) rfl ?_
      obtain rfl : w = nI 2 := by rw [← Int32.toInt_inj, hx9, nI_toInt (by omega)]; rfl
      refine z_aload 66 rfl rfl rfl ?_
      refine y_ga 69 hR rfl rfl rfl ?_
      refine z_iload 70 rfl rfl rfl ?_
      refine z_push 71 (nI 1) rfl rfl rfl ?_
      refine z_bop 72 _ rfl rfl (by first | with_reducible exact zb_1 (by omega) | exact zd_1 _ _) ?_
      refine y_al (f := 23) 73 _ hR rfl rfl rfl rfl (by omega) (by repeat (first | with_reducible exact hB1 | with_reducible exact hB2 | with_reducible exact hB3 | with_reducible exact f0 | with_reducible exact f14 | with_reducible exact f16 | with_reducible exact f18 | with_reducible exact f19 | with_reducible exact f22 | with_reducible exact f24 | with_reducible exact f25 | with_reducible exact f48 | with_reducible exact gA_eq _ _ _ _ | (with_reducible apply gA_ne; decide) | with_reducible apply gA_I | with_reducible apply gA_O | (with_reducible apply gA_nj; omega) | with_reducible rfl)) ?_
      refine z_ireti rfl (Nat.le_refl _) (Nat.le_refl _) ?_
      have e9 : sp_told A (nI 2) = (nI ([A.plc, A.brk.1, A.brk.2.1, A.brk.2.2, A.pgs.length, A.bys.length, A.uns.length, A.res.2.length, A.res.1, A.fbs.length, A.fnd].getD (nI 2).toInt.toNat 0), A) := if_pos (by omega)
      rw [e9, show (nI 2).toInt.toNat = 2 from by omega] at q
      exact q h _ hR hI
    · refine z_swIn 65 rfl 3 (by omega) rfl ?_
      obtain rfl : w = nI 3 := by rw [← Int32.toInt_inj, hx9, nI_toInt (by omega)]; rfl
      refine z_aload 66 rfl rfl rfl ?_
      refine y_ga 69 hR rfl rfl rfl ?_
      refine z_iload 70 rfl rfl rfl ?_
      refine z_push 71 (nI 1) rfl rfl rfl ?_
      refine z_bop 72 _ rfl rfl (by first | with_reducible exact zb_1 (by omega) | exact zd_1 _ _) ?_
      refine y_al (f := 23) 73 _ hR rfl rfl rfl rfl (by omega) (by repeat (first | with_reducible exact hB1 | with_reducible exact hB2 | with_reducible exact hB3 | with_reducible exact f0 | with_reducible exact f14 | with_reducible exact f16 | with_reducible exact f18 | with_reducible exact f19 | with_reducible exact f22 | with_reducible exact f24 | with_reducible exact f25 | with_reducible exact f48 | with_reducible exact gA_eq _ _ _ _ | (with_reducible apply gA_ne; decide) | with_reducible apply gA_I | with_reducible apply gA_O | (with_reducible apply gA_nj; omega) | with_reducible rfl)) ?_
      refine z_ireti rfl (Nat.le_refl _) (Nat.le_refl _) ?_
      have e9 : sp_told A (nI 3) = (nI ([A.plc, A.brk.1, A.brk.2.1, A.brk.2.2, A.pgs.length, A.bys.length, A.uns.length, A.res.2.length, A.res.1, A.fbs.length, A.fnd].getD (nI 3).toInt.toNat 0), A) := if_pos (by omega)
      rw [e9, show (nI 3).toInt.toNat = 3 from by omega] at q
      exact q h _ hR hI
    · refine z_swIn 74 rfl 4 (by omega) rfl ?_
      refine z_aload 75 rfl rfl rfl ?_
      refine y_gi 78 _ hR rfl rfl rfl rfl rfl (by repeat (first | with_reducible exact gI_eq _ _ _ | (with_reducible apply gI_ne; decide) | with_reducible apply gI_A | with_reducible apply gI_O | with_reducible exact hB1 | with_reducible exact hB2 | with_reducible exact hB3 | with_reducible exact f0 | with_reducible exact f14 | with_reducible exact f16 | with_reducible exact f18 | with_reducible exact f19 | with_reducible exact f22 | with_reducible exact f24 | with_reducible exact f25 | with_reducible exact f48 | with_reducible rfl)) ?_
      refine z_ireti rfl (Nat.le_refl _) (Nat.le_refl _) ?_
      have e9 : sp_told A w = (nI ([A.plc, A.brk.1, A.brk.2.1, A.brk.2.2, A.pgs.length, A.bys.length, A.uns.length, A.res.2.length, A.res.1, A.fbs.length, A.fnd].getD w.toInt.toNat 0), A) := if_pos (by omega)
      rw [e9, show w.toInt.toNat = 4 from by omega] at q
      exact q h _ hR hI
    · refine z_swIn 79 rfl 5 (by omega) rfl ?_
      refine z_aload 80 rfl rfl rfl ?_
      refine y_gi 83 _ hR rfl rfl rfl rfl rfl (by repeat (first | with_reducible exact gI_eq _ _ _ | (with_reducible apply gI_ne; decide) | with_reducible apply gI_A | with_reducible apply gI_O | with_reducible exact hB1 | with_reducible exact hB2 | with_reducible exact hB3 | with_reducible exact f0 | with_reducible exact f14 | with_reducible exact f16 | with_reducible exact f18 | with_reducible exact f19 | with_reducible exact f22 | with_reducible exact f24 | with_reducible exact f25 | with_reducible exact f48 | with_reducible rfl)) ?_
      refine z_ireti rfl (Nat.le_refl _) (Nat.le_refl _) ?_
      have e9 : sp_told A w = (nI ([A.plc, A.brk.1, A.brk.2.1, A.brk.2.2, A.pgs.length, A.bys.length, A.uns.length, A.res.2.length, A.res.1, A.fbs.length, A.fnd].getD w.toInt.toNat 0), A) := if_pos (by omega)
      rw [e9, show w.toInt.toNat = 5 from by omega] at q
      exact q h _ hR hI
    · refine z_swIn 84 rfl 6 (by omega) rfl ?_
      refine z_aload 85 rfl rfl rfl ?_
      refine y_gi 88 _ hR rfl rfl rfl rfl rfl (by repeat (first | with_reducible exact gI_eq _ _ _ | (with_reducible apply gI_ne; decide) | with_reducible apply gI_A | with_reducible apply gI_O | with_reducible exact hB1 | with_reducible exact hB2 | with_reducible exact hB3 | with_reducible exact f0 | with_reducible exact f14 | with_reducible exact f16 | with_reducible exact f18 | with_reducible exact f19 | with_reducible exact f22 | with_reducible exact f24 | with_reducible exact f25 | with_reducible exact f48 | with_reducible rfl)) ?_
      refine z_ireti rfl (Nat.le_refl _) (Nat.le_refl _) ?_
      have e9 : sp_told A w = (nI ([A.plc, A.brk.1, A.brk.2.1, A.brk.2.2, A.pgs.length, A.bys.length, A.uns.length, A.res.2.length, A.res.1, A.fbs.length, A.fnd].getD w.toInt.toNat 0), A) := if_pos (by omega)
      rw [e9, show w.toInt.toNat = 6 from by omega] at q
      exact q h _ hR hI
    · refine z_swIn 89 rfl 7 (by omega) rfl ?_
      refine z_aload 90 rfl rfl rfl ?_
      refine y_gi 93 _ hR rfl rfl rfl rfl rfl (by repeat (first | with_reducible exact gI_eq _ _ _ | (with_reducible apply gI_ne; decide) | with_reducible apply gI_A | with_reducible apply gI_O | with_reducible exact hB1 | with_reducible exact hB2 | with_reducible exact hB3 | with_reducible exact f0 | with_reducible exact f14 | with_reducible exact f16 | with_reducible exact f18 | with_reducible exact f19 | with_reducible exact f22 | with_reducible exact f24 | with_reducible exact f25 | with_reducible exact f48 | with_reducible rfl)) ?_
      refine z_ireti rfl (Nat.le_refl _) (Nat.le_refl _) ?_
      have e9 : sp_told A w = (nI ([A.plc, A.brk.1, A.brk.2.1, A.brk.2.2, A.pgs.length, A.bys.length, A.uns.length, A.res.2.length, A.res.1, A.fbs.length, A.fnd].getD w.toInt.toNat 0), A) := if_pos (by omega)
      rw [e9, show w.toInt.toNat = 7 from by omega] at q
      exact q h _ hR hI
    · refine z_swIn 94 rfl 8 (by omega) rfl ?_
      refine z_aload 95 rfl rfl rfl ?_
      refine y_gi 98 _ hR rfl rfl rfl rfl rfl (by repeat (first | with_reducible exact gI_eq _ _ _ | (with_reducible apply gI_ne; decide) | with_reducible apply gI_A | with_reducible apply gI_O | with_reducible exact hB1 | with_reducible exact hB2 | with_reducible exact hB3 | with_reducible exact f0 | with_reducible exact f14 | with_reducible exact f16 | with_reducible exact f18 | with_reducible exact f19 | with_reducible exact f22 | with_reducible exact f24 | with_reducible exact f25 | with_reducible exact f48 | with_reducible rfl)) ?_
      refine z_ireti rfl (Nat.le_refl _) (Nat.le_refl _) ?_
      have e9 : sp_told A w = (nI ([A.plc, A.brk.1, A.brk.2.1, A.brk.2.2, A.pgs.length, A.bys.length, A.uns.length, A.res.2.length, A.res.1, A.fbs.length, A.fnd].getD w.toInt.toNat 0), A) := if_pos (by omega)
      rw [e9, show w.toInt.toNat = 8 from by omega] at q
      exact q h _ hR hI
    · refine z_swIn 99 rfl 9 (by omega) rfl ?_
      refine z_aload 100 rfl rfl rfl ?_
      refine y_gi 103 _ hR rfl rfl rfl rfl rfl (by repeat (first | with_reducible exact gI_eq _ _ _ | (with_reducible apply gI_ne; decide) | with_reducible apply gI_A | with_reducible apply gI_O | with_reducible exact hB1 | with_reducible exact hB2 | with_reducible exact hB3 | with_reducible exact f0 | with_reducible exact f14 | with_reducible exact f16 | with_reducible exact f18 | with_reducible exact f19 | with_reducible exact f22 | with_reducible exact f24 | with_reducible exact f25 | with_reducible exact f48 | with_reducible rfl)) ?_
      refine z_ireti rfl (Nat.le_refl _) (Nat.le_refl _) ?_
      have e9 : sp_told A w = (nI ([A.plc, A.brk.1, A.brk.2.1, A.brk.2.2, A.pgs.length, A.bys.length, A.uns.length, A.res.2.length, A.res.1, A.fbs.length, A.fnd].getD w.toInt.toNat 0), A) := if_pos (by omega)
      rw [e9, show w.toInt.toNat = 9 from by omega] at q
      exact q h _ hR hI
    · refine z_swIn 104 rfl 10 (by omega) rfl ?_
      refine z_aload 105 rfl rfl rfl ?_
      refine y_gi 108 _ hR rfl rfl rfl rfl rfl (by repeat (first | with_reducible exact gI_eq _ _ _ | (with_reducible apply gI_ne; decide) | with_reducible apply gI_A | with_reducible apply gI_O | with_reducible exact hB1 | with_reducible exact hB2 | with_reducible exact hB3 | with_reducible exact f0 | with_reducible exact f14 | with_reducible exact f16 | with_reducible exact f18 | with_reducible exact f19 | with_reducible exact f22 | with_reducible exact f24 | with_reducible exact f25 | with_reducible exact f48 | with_reducible rfl)) ?_
      refine z_ireti rfl (Nat.le_refl _) (Nat.le_refl _) ?_
      have e9 : sp_told A w = (nI ([A.plc, A.brk.1, A.brk.2.1, A.brk.2.2, A.pgs.length, A.bys.length, A.uns.length, A.res.2.length, A.res.1, A.fbs.length, A.fnd].getD w.toInt.toNat 0), A) := if_pos (by omega)
      rw [e9, show w.toInt.toNat = 10 from by omega] at q
      exact q h _ hR hI
  · refine z_swOut rfl (by simp only [List.length]; omega) ?_
    refine z_aload 110 rfl rfl rfl ?_
    refine z_push 111 (-1) rfl rfl rfl ?_
    refine z_cv1 114 rfl rfl hR.1 rfl (Nat.le_refl _) (Nat.le_refl _) ?_
    refine r_tell hR (fun h9 => absurd h9 (by decide)) (fun _ h hR => ?_)
    refine z_ireti rfl (Nat.le_refl _) (Nat.le_refl _) ?_
    have e9 : sp_told A w = (-1, A.tell) := if_neg (by omega)
    rw [e9] at q
    exact q h _ hR hI.tell
set_option maxRecDepth 10000 in
theorem r_sign {d r : Nat} {h h0 : mH} {s : rS} {A : Ab} {w x : Int32} {Q : mP} (hR : Rf r h0 s h) (hI : RInv s A)  (q : ∀ h' s', Rf r h0 s' h' → RInv s' (sp_sign A w x).2 → Q (some (.int (sp_sign A w x).1)) h') : mWP (d + 3) 233 [.ref r, .int w, .int x] h Q := by
  obtain ⟨hS1, hS2⟩ := hI.2.2.2.2.1
  refine z_in [some (.ref r), some (.int w), some (.int x), none] (by rfl) rfl rfl rfl ?_
  refine z_iload 1 rfl rfl rfl ?_
  refine z_push 2 (nI 0) rfl rfl rfl ?_
  refine z_push 3 (nI 1) rfl rfl rfl ?_
  refine z_cs3 6 rfl rfl rfl (Nat.le_refl _) (Nat.le_refl _) ?_
  refine r_in ?_
  rw [jIn_l (by omega) (by omega)]
  first | refine z_beq 9 rfl rfl (fun hc6 => ?_) (fun hc6 => ?_)
  · refine z_aload 17 rfl rfl rfl ?_
    refine z_push 18 (-1) rfl rfl rfl ?_
    refine z_cv1 21 rfl rfl hR.1 rfl (Nat.le_refl _) (Nat.le_refl _) ?_
    refine r_tell hR (fun h9 => absurd h9 (by decide)) (fun _ h hR => ?_)
    refine z_ireti rfl (Nat.le_refl _) (Nat.le_refl _) ?_
    have e9 : sp_sign A w x = (-1, A.tell) := if_neg (fun h9 => by
      first | (rw [decide_eq_false_iff_not] at hc6; exact hc6 (by have := h9.1; omega)) | (have h10 := h9.2; rw [hjp, hc13] at h10; exact absurd h10 (by decide)))
    rw [e9] at q
    exact q h _ hR hI.tell
  · refine z_iload 10 rfl rfl rfl ?_
    refine z_cs1 13 rfl rfl rfl (Nat.le_refl _) (Nat.le_refl _) ?_
    refine r_isPoint ?_
    generalize hjp : jPoint _ = jp
    first | refine z_bne 16 rfl rfl (fun hc13 => ?_) (fun hc13 => ?_)
    · rw [decide_eq_true_eq] at hc6
      obtain ⟨t, ht, rfl, ht2⟩ := jPoint_n (hjp.trans hc13)
      have htl := nPt_lt ht
      obtain ⟨W, hW9, rfl, hw1, hw2⟩ := ix_of (x := w) (n := 2) (by omega)
      have hWW : W = 0 ∨ W = 1 := by omega
      refine z_aload 23 rfl rfl rfl ?_
      rcases hWW with rfl | rfl
      · refine y_ga 26 hR rfl rfl rfl ?_
        refine z_iload 27 rfl rfl rfl ?_
        refine y_al (f := 21) 28 _ hR rfl rfl rfl rfl (by omega) (by repeat (first | with_reducible exact hS1 | with_reducible exact hS2 | with_reducible exact gA_eq _ _ _ _ | (with_reducible apply gA_ne; decide) | with_reducible apply gA_I | with_reducible apply gA_O | (with_reducible apply gA_nj; omega) | with_reducible rfl)) ?_
        refine z_istore 29 rfl rfl rfl rfl ?_
        refine z_aload 30 rfl rfl rfl ?_
        refine y_ga 33 hR rfl rfl rfl ?_
        refine z_iload 34 rfl rfl rfl ?_
        refine z_iload 35 rfl rfl rfl ?_
        refine y_as (f := 21) 36 hR rfl rfl rfl rfl (by omega) ?_
        intro h hR
        refine z_iload 37 rfl rfl rfl ?_
        refine z_ireti rfl (Nat.le_refl _) (Nat.le_refl _) ?_
        have e9 : sp_sign A (nI 0) (nI t) = (nI A.sgn.1, A.wSgn (t, A.sgn.2)) := by
          rw [sp_sign, if_pos ⟨by omega, hjp.trans hc13⟩, if_pos (by omega), ht2]
        rw [e9] at q
        obtain ⟨a1, a2, a3, a4, a5, a6, a7, a8, a9, a10, a11⟩ := hI
        refine q h _ hR ⟨a1, a2, a3, a4, ⟨?_, ?_⟩, a6, a7, a8, a9, a10, a11⟩
        · exact gA_eq _ _ _ _
        · exact (gA_nj (by omega) rfl).trans a5.2
      · refine y_ga 26 hR rfl rfl rfl ?_
        refine z_iload 27 rfl rfl rfl ?_
        refine y_al (f := 21) 28 _ hR rfl rfl rfl rfl (by omega) (by repeat (first | with_reducible exact hS1 | with_reducible exact hS2 | with_reducible exact gA_eq _ _ _ _ | (with_reducible apply gA_ne; decide) | with_reducible apply gA_I | with_reducible apply gA_O | (with_reducible apply gA_nj; omega) | with_reducible rfl)) ?_
        refine z_istore 29 rfl rfl rfl rfl ?_
        refine z_aload 30 rfl rfl rfl ?_
        refine y_ga 33 hR rfl rfl rfl ?_
        refine z_iload 34 rfl rfl rfl ?_
        refine z_iload 35 rfl rfl rfl ?_
        refine y_as (f := 21) 36 hR rfl rfl rfl rfl (by omega) ?_
        intro h hR
        refine z_iload 37 rfl rfl rfl ?_
        refine z_ireti rfl (Nat.le_refl _) (Nat.le_refl _) ?_
        have e9 : sp_sign A (nI 1) (nI t) = (nI A.sgn.2, A.wSgn (A.sgn.1, t)) := by
          rw [sp_sign, if_pos ⟨by omega, hjp.trans hc13⟩, if_neg (by omega), ht2]
        rw [e9] at q
        obtain ⟨a1, a2, a3, a4, a5, a6, a7, a8, a9, a10, a11⟩ := hI
        refine q h _ hR ⟨a1, a2, a3, a4, ⟨?_, ?_⟩, a6, a7, a8, a9, a10, a11⟩
        · exact (gA_nj (by omega) rfl).trans a5.1
        · exact gA_eq _ _ _ _
    · refine z_aload 17 rfl rfl rfl ?_
      refine z_push 18 (-1) rfl rfl rfl ?_
      refine z_cv1 21 rfl rfl hR.1 rfl (Nat.le_refl _) (Nat.le_refl _) ?_
      refine r_tell hR (fun h9 => absurd h9 (by decide)) (fun _ h hR => ?_)
      refine z_ireti rfl (Nat.le_refl _) (Nat.le_refl _) ?_
      have e9 : sp_sign A w x = (-1, A.tell) := if_neg (fun h9 => by
        first | (rw [decide_eq_false_iff_not] at hc6; exact hc6 (by have := h9.1; omega)) | (have h10 := h9.2; rw [hjp, hc13] at h10; exact absurd h10 (by decide)))
      rw [e9] at q
      exact q h _ hR hI.tell
set_option maxRecDepth 10000 in
theorem r_result {d r : Nat} {h h0 : mH} {s : rS} {A : Ab} {i : Int32} {Q : mP} (hR : Rf r h0 s h) (hI : RInv s A) (hZ : A.res.1 = 0 → A.res.2 = []) (hZ2 : A.res.1 < 3)  (q : ∀ h' s', Rf r h0 s' h' → RInv s' (sp_result A i).2 → Q (some (.int (sp_result A i).1)) h') : mWP (d + 2) 232 [.ref r, .int i] h Q := by
  obtain ⟨hr1, hr2, hr3, hr4'⟩ := hI.2.2.2.1
  have hr4 : ∀ j, j < A.res.2.length → s.2.2 20 j = A.res.2.getD j 0 := fun j hj => by have := hr4' j hj; rw [Nat.zero_add] at this; exact this
  have hin : jIn i (nI 0) (nI A.res.2.length - nI 1) = decide (0 ≤ i.toInt ∧ i.toInt < A.res.2.length) := by
    rw [jIn]; congr 1; rw [eq_iff_iff, nI_toInt (by omega), pk_sub_toInt (by omega) (by omega)]; omega
  refine z_in [some (.ref r), some (.int i)] (by rfl) rfl rfl rfl ?_
  refine z_iload 1 rfl rfl rfl ?_
  refine z_push 2 (nI 0) rfl rfl rfl ?_
  refine z_aload 3 rfl rfl rfl ?_
  refine y_gi 6 _ hR rfl rfl rfl rfl rfl (by repeat (first | with_reducible exact gI_eq _ _ _ | (with_reducible apply gI_ne; decide) | with_reducible apply gI_A | with_reducible apply gI_O | with_reducible exact hr1 | with_reducible exact hr3 | with_reducible exact hr4 _ (by omega) | with_reducible rfl)) ?_
  refine z_push 7 (nI 1) rfl rfl rfl ?_
  refine z_bop 8 _ rfl rfl (zd_1 _ _) ?_
  refine z_cs3 11 rfl rfl rfl (Nat.le_refl _) (Nat.le_refl _) ?_
  refine r_in ?_
  first | refine z_beq 14 rfl rfl (fun hc11 => ?_) (fun hc11 => ?_)
  · refine z_aload 31 rfl rfl rfl ?_
    refine z_push 33 (-2) rfl rfl rfl ?_
    refine z_cv1 36 rfl rfl hR.1 rfl (Nat.le_refl _) (Nat.le_refl _) ?_
    refine r_tell hR (fun h9 => absurd h9 (by decide)) (fun _ h hR => ?_)
    refine z_ireti rfl (Nat.le_refl _) (Nat.le_refl _) ?_
    have e9 : sp_result A i = (-2, A.tell) := if_neg (by rw [hin, decide_eq_false_iff_not] at hc11; exact hc11)
    rw [e9] at q
    exact q h _ hR hI.tell
  · rw [hin, decide_eq_true_eq] at hc11
    obtain ⟨I, hI9, rfl, hi1, hi2⟩ := ix_of hc11
    have hpos : 0 < A.res.1 := Nat.pos_of_ne_zero (fun h9 => by rw [hZ h9] at hI9; exact absurd hI9 (by simp))
    refine z_aload 15 rfl rfl rfl ?_
    refine y_gi 18 _ hR rfl rfl rfl rfl rfl (by repeat (first | with_reducible exact gI_eq _ _ _ | (with_reducible apply gI_ne; decide) | with_reducible apply gI_A | with_reducible apply gI_O | with_reducible exact hr1 | with_reducible exact hr3 | with_reducible exact hr4 _ (by omega) | with_reducible rfl)) ?_
    refine z_zle 21 rfl rfl (by omega) (fun h9 => absurd h9 (by omega)) (fun _ => ?_)
    refine z_aload 22 rfl rfl rfl ?_
    refine y_ga 25 hR rfl rfl rfl ?_
    refine z_iload 26 rfl rfl rfl ?_
    refine y_al (f := 20) 27 _ hR rfl rfl rfl rfl (by omega) (by repeat (first | with_reducible exact hr1 | with_reducible exact hr3 | with_reducible exact hr4 _ (by omega) | with_reducible exact gA_eq _ _ _ _ | (with_reducible apply gA_ne; decide) | with_reducible apply gA_I | with_reducible apply gA_O | (with_reducible apply gA_nj; omega) | with_reducible rfl)) ?_
    refine z_goto rfl ?_
    refine z_ireti rfl (Nat.le_refl _) (Nat.le_refl _) ?_
    have e9 : sp_result A (nI I) = (nI (A.res.2.getD I 0), A) := by rw [sp_result, if_pos hc11, hi2]
    rw [e9] at q
    exact q h _ hR hI
set_option maxRecDepth 10000 in
theorem r_bytesIn {d r : Nat} {h h0 : mH} {s : rS} {A : Ab} {w : Int64} {n : Int32} {Q : mP} (hR : Rf r h0 s h) (hI : RInv s A)  (q : ∀ h' s', Rf r h0 s' h' → RInv s' (sp_bytesIn A w n).2 → Q (some (.int (sp_bytesIn A w n).1)) h') : mWP (d + 2) 207 [.ref r, .long w, .int n] h Q := by
  have f0 : s.1 0 = A.pgs.length := hI.1.1
  have f14 : s.1 14 = A.bys.length := hI.2.1.1
  have f16 : s.1 16 = A.uns.length := hI.2.2.1.1
  have f18 : s.1 18 = A.res.2.length := hI.2.2.2.1.1
  have f19 : s.1 19 = A.res.1 := hI.2.2.2.1.2.2.1
  have f22 : s.1 22 = A.plc := hI.2.2.2.2.2.2.2.1
  have f24 : s.1 24 = A.fnd := hI.2.2.2.2.2.2.2.2.2.1
  have f25 : s.1 25 = A.fbs.length := hI.2.2.2.2.2.1.1
  have f48 : s.1 48 = 0 := hI.2.2.2.2.2.2.2.2.2.2
  have l0 : A.pgs.length ≤ 10 := hI.1.2.1
  have l14 : A.bys.length ≤ 1000 := hI.2.1.2.1
  have l16 : A.uns.length ≤ 1000 := hI.2.2.1.2.1
  have l18 : A.res.2.length ≤ 6000 := hI.2.2.2.1.2.1
  have l25 : A.fbs.length ≤ 40 := hI.2.2.2.2.2.1.2.1
  refine z_in [some (.ref r), some (.long w), none, some (.int n), none] (by rfl) rfl rfl rfl ?_
  refine z_iload 1 rfl rfl rfl ?_
  refine z_push 2 (nI 1) rfl rfl rfl ?_
  refine z_push 4 (nI 8) rfl rfl rfl ?_
  refine z_cs3 7 rfl rfl rfl (Nat.le_refl _) (Nat.le_refl _) ?_
  refine r_in ?_
  rw [jIn_l (by omega) (by omega)]
  first | refine z_bne 10 rfl rfl (fun hc7 => ?_) (fun hc7 => ?_)
  · rw [decide_eq_true_eq] at hc7
    obtain ⟨N, hN, rfl, hn1, hn2⟩ := ix_of (x := n) (n := 9) (by omega)
    refine z_aload 17 rfl rfl rfl ?_
    refine y_gi 20 _ hR rfl rfl rfl rfl rfl (by repeat (first | with_reducible exact gI_eq _ _ _ | (with_reducible apply gI_ne; decide) | with_reducible apply gI_A | with_reducible apply gI_O | with_reducible exact f14 | with_reducible rfl)) ?_
    refine z_iload 21 rfl rfl rfl ?_
    refine z_bop 22 _ rfl rfl (by first | with_reducible exact zb_0 _ _ | exact zd_0 _ _) ?_
    refine z_push 25 (nI 1000) rfl rfl rfl ?_
    refine z_nle 28 rfl rfl (by omega) (by omega) (fun hc25 => ?_) (fun hc25 => ?_)
    · have e9 : sp_bytesIn A w (nI N) = (nI (A.bys.length + N), A.wBys (bAdd w 8 N A.bys)) := by
        rw [sp_bytesIn, if_pos (by omega), if_pos (by omega), hn2]
      have loop : ∀ m l s1 h, l.length + m ≤ 1000 → m ≤ 8 → bAdd w 8 N A.bys = bAdd w 8 m l → l.length + m = A.bys.length + N → Rf r h0 s1 h → RInv s1 (A.wBys l) → mZ (d + 1) tk_207 0 0 Q 40 [some (.ref r), some (.long w), none, some (.int (nI N)), some (.int (dnI m))] [] h 0 0 := by
        intro m
        induction m with
        | zero =>
          intro l s1 h h1 h2 hb hl hR hI1
          have f14 : s1.1 14 = l.length := hI1.2.1.1
          rw [show dnI 0 = -1 from rfl]
          refine z_iload 42 rfl rfl rfl ?_
          refine z_jlt 45 rfl rfl (fun _ => ?_) (fun h9 => absurd h9 (by decide))
          refine z_aload 83 rfl rfl rfl ?_
          refine y_gi 86 _ hR rfl rfl rfl rfl rfl (by repeat (first | with_reducible exact gI_eq _ _ _ | (with_reducible apply gI_ne; decide) | with_reducible apply gI_A | with_reducible apply gI_O | with_reducible exact f14 | with_reducible rfl)) ?_
          refine z_ireti rfl (Nat.le_refl _) (Nat.le_refl _) ?_
          rw [e9, hb] at q
          have hl2 : l.length = A.bys.length + N := by omega
          rw [← hl2] at q
          exact q h s1 hR hI1
        | succ m ih =>
          intro l s1 h h1 h2 hb hl hR hI1
          have f14 : s1.1 14 = l.length := hI1.2.1.1
          rw [show dnI (m + 1) = nI m from rfl]
          refine z_iload 42 rfl rfl rfl ?_
          refine z_zlt 45 rfl rfl (by omega) (fun h9 => absurd h9 (by omega)) (fun _ => ?_)
          refine z_aload 46 rfl rfl rfl ?_
          refine y_ga 49 hR rfl rfl rfl ?_
          refine z_aload 50 rfl rfl rfl ?_
          refine y_gi 53 _ hR rfl rfl rfl rfl rfl (by repeat (first | with_reducible exact gI_eq _ _ _ | (with_reducible apply gI_ne; decide) | with_reducible apply gI_A | with_reducible apply gI_O | with_reducible exact f14 | with_reducible rfl)) ?_
          refine z_lload 54 rfl rfl rfl ?_
          refine z_push 56 (nI 8) rfl rfl rfl ?_
          refine z_iload 58 rfl rfl rfl ?_
          refine z_bop 59 _ rfl rfl (by first | with_reducible exact zb_2 _ _ | exact zd_2 _ _) ?_
          refine z_lsh 60 _ rfl rfl rfl ?_
          refine z_pushl 63 (255) rfl rfl rfl ?_
          refine z_lop 64 _ rfl rfl rfl ?_
          refine z_l2i 65 rfl rfl ?_
          rw [show (mLop 3 (mLsh 1 w (nI (8 * m))) 255).toInt32 = nI (byW w 8 m) from wsh (by omega) (by omega) (by omega)]
          refine y_as (f := 15) 66 hR rfl rfl rfl rfl (by omega) ?_
          intro h hR
          refine z_aload 67 rfl rfl rfl ?_
          first | refine z_dup 68 rfl rfl ?_ | refine z_dupi 68 rfl rfl ?_
          refine y_gi 71 _ hR rfl rfl rfl rfl rfl (by repeat (first | with_reducible exact gI_eq _ _ _ | (with_reducible apply gI_ne; decide) | with_reducible apply gI_A | with_reducible apply gI_O | with_reducible exact f14 | with_reducible rfl)) ?_
          refine z_push 72 (nI 1) rfl rfl rfl ?_
          refine z_bop 73 _ rfl rfl (by first | with_reducible exact zb_0 _ _ | exact zd_0 _ _) ?_
          refine y_pi 76 hR rfl rfl rfl rfl rfl (mFi rfl) ?_
          intro h hR
          refine z_iinc 79 _ rfl rfl rfl rfl (show nI m + Int32.ofInt (-1) = dnI m from by cases m with | zero => rfl | succ m => exact pk_m1 m) ?_
          refine z_goto rfl ?_
          exact ih (l ++ [byW w 8 m]) _ h (by rw [List.length_append, List.length_singleton]; omega) (by omega) hb (by rw [List.length_append, List.length_singleton]; omega) hR (hI1.addB (by omega))
      refine z_iload 36 rfl rfl rfl ?_
      refine z_push 37 (nI 1) rfl rfl rfl ?_
      refine z_bop 38 _ rfl rfl (by first | with_reducible exact zb_1 (by omega) | exact zd_1 _ _) ?_
      refine z_istore 40 rfl rfl rfl rfl ?_
      rw [show nI (N - 1) = dnI N from by cases N with | zero => exact absurd hc7 (by omega) | succ N => rfl]
      exact loop N A.bys s h (by omega) (by omega) rfl rfl hR hI
    · refine z_aload 29 rfl rfl rfl ?_
      refine z_push 31 (-6) rfl rfl rfl ?_
      refine z_cv1 34 rfl rfl hR.1 rfl (Nat.le_refl _) (Nat.le_refl _) ?_
      refine r_tell hR (fun h9 => absurd h9 (by decide)) (fun _ h hR => ?_)
      refine z_ireti rfl (Nat.le_refl _) (Nat.le_refl _) ?_
      have e9 : sp_bytesIn A w (nI N) = (-6, A.tell) := by rw [sp_bytesIn, if_pos (by omega), if_neg (by omega)]
      rw [e9] at q
      exact q h _ hR hI.tell
  · refine z_aload 11 rfl rfl rfl ?_
    refine z_push 12 (-1) rfl rfl rfl ?_
    refine z_cv1 15 rfl rfl hR.1 rfl (Nat.le_refl _) (Nat.le_refl _) ?_
    refine r_tell hR (fun h9 => absurd h9 (by decide)) (fun _ h hR => ?_)
    refine z_ireti rfl (Nat.le_refl _) (Nat.le_refl _) ?_
    rw [decide_eq_false_iff_not] at hc7
    have e9 : sp_bytesIn A w n = (-1, A.tell) := if_neg (by omega)
    rw [e9] at q
    exact q h _ hR hI.tell
set_option maxRecDepth 10000 in
theorem r_unitsIn {d r : Nat} {h h0 : mH} {s : rS} {A : Ab} {w : Int64} {n : Int32} {Q : mP} (hR : Rf r h0 s h) (hI : RInv s A)  (q : ∀ h' s', Rf r h0 s' h' → RInv s' (sp_unitsIn A w n).2 → Q (some (.int (sp_unitsIn A w n).1)) h') : mWP (d + 2) 208 [.ref r, .long w, .int n] h Q := by
  have f0 : s.1 0 = A.pgs.length := hI.1.1
  have f14 : s.1 14 = A.bys.length := hI.2.1.1
  have f16 : s.1 16 = A.uns.length := hI.2.2.1.1
  have f18 : s.1 18 = A.res.2.length := hI.2.2.2.1.1
  have f19 : s.1 19 = A.res.1 := hI.2.2.2.1.2.2.1
  have f22 : s.1 22 = A.plc := hI.2.2.2.2.2.2.2.1
  have f24 : s.1 24 = A.fnd := hI.2.2.2.2.2.2.2.2.2.1
  have f25 : s.1 25 = A.fbs.length := hI.2.2.2.2.2.1.1
  have f48 : s.1 48 = 0 := hI.2.2.2.2.2.2.2.2.2.2
  have l0 : A.pgs.length ≤ 10 := hI.1.2.1
  have l14 : A.bys.length ≤ 1000 := hI.2.1.2.1
  have l16 : A.uns.length ≤ 1000 := hI.2.2.1.2.1
  have l18 : A.res.2.length ≤ 6000 := hI.2.2.2.1.2.1
  have l25 : A.fbs.length ≤ 40 := hI.2.2.2.2.2.1.2.1
  refine z_in [some (.ref r), some (.long w), none, some (.int n), none] (by rfl) rfl rfl rfl ?_
  refine z_iload 1 rfl rfl rfl ?_
  refine z_push 2 (nI 1) rfl rfl rfl ?_
  refine z_push 3 (nI 4) rfl rfl rfl ?_
  refine z_cs3 6 rfl rfl rfl (Nat.le_refl _) (Nat.le_refl _) ?_
  refine r_in ?_
  rw [jIn_l (by omega) (by omega)]
  first | refine z_bne 9 rfl rfl (fun hc6 => ?_) (fun hc6 => ?_)
  · rw [decide_eq_true_eq] at hc6
    obtain ⟨N, hN, rfl, hn1, hn2⟩ := ix_of (x := n) (n := 9) (by omega)
    refine z_aload 16 rfl rfl rfl ?_
    refine y_gi 19 _ hR rfl rfl rfl rfl rfl (by repeat (first | with_reducible exact gI_eq _ _ _ | (with_reducible apply gI_ne; decide) | with_reducible apply gI_A | with_reducible apply gI_O | with_reducible exact f16 | with_reducible rfl)) ?_
    refine z_iload 20 rfl rfl rfl ?_
    refine z_bop 21 _ rfl rfl (by first | with_reducible exact zb_0 _ _ | exact zd_0 _ _) ?_
    refine z_push 24 (nI 1000) rfl rfl rfl ?_
    refine z_nle 27 rfl rfl (by omega) (by omega) (fun hc24 => ?_) (fun hc24 => ?_)
    · have e9 : sp_unitsIn A w (nI N) = (nI (A.uns.length + N), A.wUns (bAdd w 16 N A.uns)) := by
        rw [sp_unitsIn, if_pos (by omega), if_pos (by omega), hn2]
      have loop : ∀ m l s1 h, l.length + m ≤ 1000 → m ≤ 4 → bAdd w 16 N A.uns = bAdd w 16 m l → l.length + m = A.uns.length + N → Rf r h0 s1 h → RInv s1 (A.wUns l) → mZ (d + 1) tk_208 0 0 Q 39 [some (.ref r), some (.long w), none, some (.int (nI N)), some (.int (dnI m))] [] h 0 0 := by
        intro m
        induction m with
        | zero =>
          intro l s1 h h1 h2 hb hl hR hI1
          have f16 : s1.1 16 = l.length := hI1.2.2.1.1
          rw [show dnI 0 = -1 from rfl]
          refine z_iload 41 rfl rfl rfl ?_
          refine z_jlt 44 rfl rfl (fun _ => ?_) (fun h9 => absurd h9 (by decide))
          refine z_aload 82 rfl rfl rfl ?_
          refine y_gi 85 _ hR rfl rfl rfl rfl rfl (by repeat (first | with_reducible exact gI_eq _ _ _ | (with_reducible apply gI_ne; decide) | with_reducible apply gI_A | with_reducible apply gI_O | with_reducible exact f16 | with_reducible rfl)) ?_
          refine z_ireti rfl (Nat.le_refl _) (Nat.le_refl _) ?_
          rw [e9, hb] at q
          have hl2 : l.length = A.uns.length + N := by omega
          rw [← hl2] at q
          exact q h s1 hR hI1
        | succ m ih =>
          intro l s1 h h1 h2 hb hl hR hI1
          have f16 : s1.1 16 = l.length := hI1.2.2.1.1
          rw [show dnI (m + 1) = nI m from rfl]
          refine z_iload 41 rfl rfl rfl ?_
          refine z_zlt 44 rfl rfl (by omega) (fun h9 => absurd h9 (by omega)) (fun _ => ?_)
          refine z_aload 45 rfl rfl rfl ?_
          refine y_ga 48 hR rfl rfl rfl ?_
          refine z_aload 49 rfl rfl rfl ?_
          refine y_gi 52 _ hR rfl rfl rfl rfl rfl (by repeat (first | with_reducible exact gI_eq _ _ _ | (with_reducible apply gI_ne; decide) | with_reducible apply gI_A | with_reducible apply gI_O | with_reducible exact f16 | with_reducible rfl)) ?_
          refine z_lload 53 rfl rfl rfl ?_
          refine z_push 55 (nI 16) rfl rfl rfl ?_
          refine z_iload 57 rfl rfl rfl ?_
          refine z_bop 58 _ rfl rfl (by first | with_reducible exact zb_2 _ _ | exact zd_2 _ _) ?_
          refine z_lsh 59 _ rfl rfl rfl ?_
          refine z_pushl 62 (65535) rfl rfl rfl ?_
          refine z_lop 63 _ rfl rfl rfl ?_
          refine z_l2i 64 rfl rfl ?_
          rw [show (mLop 3 (mLsh 1 w (nI (16 * m))) 65535).toInt32 = nI (byW w 16 m) from wsh (by omega) (by omega) (by omega)]
          refine y_as (f := 17) 65 hR rfl rfl rfl rfl (by omega) ?_
          intro h hR
          refine z_aload 66 rfl rfl rfl ?_
          first | refine z_dup 67 rfl rfl ?_ | refine z_dupi 67 rfl rfl ?_
          refine y_gi 70 _ hR rfl rfl rfl rfl rfl (by repeat (first | with_reducible exact gI_eq _ _ _ | (with_reducible apply gI_ne; decide) | with_reducible apply gI_A | with_reducible apply gI_O | with_reducible exact f16 | with_reducible rfl)) ?_
          refine z_push 71 (nI 1) rfl rfl rfl ?_
          refine z_bop 72 _ rfl rfl (by first | with_reducible exact zb_0 _ _ | exact zd_0 _ _) ?_
          refine y_pi 75 hR rfl rfl rfl rfl rfl (mFi rfl) ?_
          intro h hR
          refine z_iinc 78 _ rfl rfl rfl rfl (show nI m + Int32.ofInt (-1) = dnI m from by cases m with | zero => rfl | succ m => exact pk_m1 m) ?_
          refine z_goto rfl ?_
          exact ih (l ++ [byW w 16 m]) _ h (by rw [List.length_append, List.length_singleton]; omega) (by omega) hb (by rw [List.length_append, List.length_singleton]; omega) hR (hI1.addU (by omega))
      refine z_iload 35 rfl rfl rfl ?_
      refine z_push 36 (nI 1) rfl rfl rfl ?_
      refine z_bop 37 _ rfl rfl (by first | with_reducible exact zb_1 (by omega) | exact zd_1 _ _) ?_
      refine z_istore 39 rfl rfl rfl rfl ?_
      rw [show nI (N - 1) = dnI N from by cases N with | zero => exact absurd hc6 (by omega) | succ N => rfl]
      exact loop N A.uns s h (by omega) (by omega) rfl rfl hR hI
    · refine z_aload 28 rfl rfl rfl ?_
      refine z_push 30 (-6) rfl rfl rfl ?_
      refine z_cv1 33 rfl rfl hR.1 rfl (Nat.le_refl _) (Nat.le_refl _) ?_
      refine r_tell hR (fun h9 => absurd h9 (by decide)) (fun _ h hR => ?_)
      refine z_ireti rfl (Nat.le_refl _) (Nat.le_refl _) ?_
      have e9 : sp_unitsIn A w (nI N) = (-6, A.tell) := by rw [sp_unitsIn, if_pos (by omega), if_neg (by omega)]
      rw [e9] at q
      exact q h _ hR hI.tell
  · refine z_aload 10 rfl rfl rfl ?_
    refine z_push 11 (-1) rfl rfl rfl ?_
    refine z_cv1 14 rfl rfl hR.1 rfl (Nat.le_refl _) (Nat.le_refl _) ?_
    refine r_tell hR (fun h9 => absurd h9 (by decide)) (fun _ h hR => ?_)
    refine z_ireti rfl (Nat.le_refl _) (Nat.le_refl _) ?_
    rw [decide_eq_false_iff_not] at hc6
    have e9 : sp_unitsIn A w n = (-1, A.tell) := if_neg (by omega)
    rw [e9] at q
    exact q h _ hR hI.tell
