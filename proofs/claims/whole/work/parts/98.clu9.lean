/-! the class: sums, tables as bytes -/
theorem byL_btD {n v : Nat} : ∀ (m i : Nat), i + m = n → byF n v m i = btD v m
  | 0, _, _ => rfl
  | m + 1, i, h => by
    rw [byF, btD, byL_btD m (i + 1) (by omega), bt, show n - 1 - i = m by omega]
theorem byL_b {n v : Nat} : byL n v = btD v n := byL_btD n 0 (by omega)
theorem sm_step {a b q : Nat} : (a % q + b) % q = (a + b) % q := by rw [Nat.mod_add_mod]
set_option maxRecDepth 100000 in
theorem c_checkSum {d : Nat} {h : mH} {r n k : Nat} {bs : List Nat} {Q : mP} (hw : RwAt h r n bs) (hn : n < 2 ^ 31) (hb : ∀ j, bs.getD j 0 < 256) (hk : k ≤ bs.length) (hk6 : k ≤ 6000)  (q : Q (some (.int (nI (smN bs k % 65521)))) h) : mWP (d + 1) 170 [.ref r, .int (nI k)] h Q := by
  obtain ⟨w1, w2, f, w3, w4⟩ := id hw
  have loop : ∀ m9 i, k < i + m9 → i ≤ k → mZ d tk_170 0 0 Q 4 [some (.ref r), some (.int (nI k)), some (.int (nI (smN bs i % 65521))), some (.int (nI i))] [] h 0 0 := by
    intro m9
    induction m9 with
    | zero => intro i h1 h2; omega
    | succ m9 ih =>
      intro i h1 h2
      have hb1 := hb i
      have hm : smN bs i % 65521 < 65521 := Nat.mod_lt _ (by decide)
      have hmul : (i + 1) * bs.getD i 0 ≤ 6000 * 255 ∨ k ≤ i := by
        by_cases e : i < k
        · exact Or.inl (Nat.mul_le_mul (by omega) (by omega))
        · exact Or.inr (by omega)
      refine z_iload 5 rfl rfl rfl ?_
      refine z_iload 6 rfl rfl rfl ?_
      refine z_nge 9 rfl rfl (by omega) (by omega) (fun hc6 => ?_) (fun hc6 => ?_)
      · refine z_iload 41 rfl rfl rfl ?_
        refine z_ireti rfl (Nat.le_refl _) (Nat.le_refl _) ?_
        obtain rfl : i = k := by omega
        exact q
      · refine z_iload 10 rfl rfl rfl ?_
        refine z_aload 11 rfl rfl rfl ?_
        refine z_get 14 rfl rfl (by first | exact w1 | exact w3 | fail "lk") rfl ?_
        refine z_nge 17 rfl rfl (by omega) (by omega) (fun h9 => absurd h9 (by omega)) (fun _ => ?_)
        refine z_iload 18 rfl rfl rfl ?_
        refine z_iload 19 rfl rfl rfl ?_
        refine z_push 20 (nI 1) rfl rfl rfl ?_
        refine z_bop 21 _ rfl rfl (by first | with_reducible exact zb_0 _ _ | exact zd_0 _ _) ?_
        refine z_aload 22 rfl rfl rfl ?_
        refine z_get 25 rfl rfl (by first | exact w1 | exact w3 | fail "lk") rfl ?_
        refine z_iload 26 rfl rfl rfl ?_
        refine z_ald 27 rfl rfl (by first | exact w1 | exact w3 | fail "lk") rfl (by omega) (by omega) ?_
        rw [w4 i (by omega)]
        refine z_bop 28 _ rfl rfl (zb_2 _ _) ?_
        refine z_bop 29 _ rfl rfl (by first | with_reducible exact zb_0 _ _ | exact zd_0 _ _) ?_
        refine z_push 32 (nI 65521) rfl rfl rfl ?_
        refine z_irem 33 _ rfl rfl (by decide) (pk_rem (by omega) (by decide) (by decide)) ?_
        refine z_istore 34 rfl rfl rfl rfl ?_
        refine z_iinc 37 _ rfl rfl rfl rfl (by first | with_reducible exact zi_1 _ | rfl) ?_
        refine z_goto rfl ?_
        rw [sm_step]
        exact ih (i + 1) (by omega) (by omega)
  refine z_in [some (.ref r), some (.int (nI k)), none, none] (by rfl) rfl rfl rfl ?_
  refine z_push 1 (nI 0) rfl rfl rfl ?_
  refine z_istore 2 rfl rfl rfl rfl ?_
  refine z_push 3 (nI 0) rfl rfl rfl ?_
  refine z_istore 4 rfl rfl rfl rfl ?_
  exact loop (k + 1) 0 (by omega) (by omega)
theorem EntAt.e {h h' : mH} {e n c : Nat} {S T N P F : Nat → Int32} (a : EntAt h e n S T N P F c) (f : Eqv e (e + 6) h h') : EntAt h' e n S T N P F c := by
  obtain ⟨a1, a2, a3, a4, a5, a6⟩ := a
  exact ⟨(f e (by omega) (by omega)).trans a1, (f _ (by omega) (by omega)).trans a2, (f _ (by omega) (by omega)).trans a3, (f _ (by omega) (by omega)).trans a4, (f _ (by omega) (by omega)).trans a5, (f _ (by omega) (by omega)).trans a6⟩
theorem ShAt.e {h h' : mH} {e n c : Nat} {S V G K : Nat → Int32} (a : ShAt h e n S V G K c) (f : Eqv e (e + 5) h h') : ShAt h' e n S V G K c := by
  obtain ⟨a1, a2, a3, a4, a5⟩ := a
  exact ⟨(f e (by omega) (by omega)).trans a1, (f _ (by omega) (by omega)).trans a2, (f _ (by omega) (by omega)).trans a3, (f _ (by omega) (by omega)).trans a4, (f _ (by omega) (by omega)).trans a5⟩
theorem enBs_ln9 {E : List En} {H : List Sh} (hW : TbW E H) : ∀ i, i ≤ E.length → (enBs E i).length ≤ 9 * i
  | 0, _ => Nat.le_refl _
  | i + 1, h => by
    have h1 := enBs_ln9 hW i (by omega)
    have h2 := (hW.2.2.1 i (by omega)).2.2.1
    rw [enBs, List.length_append]
    have : (enB E i).length = 6 + enN E i := by
      unfold enB
      simp only [List.length_append, btD_len, List.length_singleton]
      omega
    omega
theorem shBs_ln9 {H : List Sh} : ∀ i, (shBs H i).length = 4 * i
  | 0 => rfl
  | i + 1 => by
    rw [shBs, List.length_append, shBs_ln9 i]
    show 4 * i + 4 = 4 * (i + 1)
    omega
set_option maxRecDepth 100000 in
theorem c_En_writeTo {d : Nat} {h0 : mH} {e r n : Nat} {l : List Nat} {E : List En} {H : List Sh} {Q : mP} (hEA : EnA h0 e 100 E) (hW : TbW E H) (hw : RwAt h0 r n l) (hn : n < 2 ^ 31) (hl : l.length + 1 + 9 * E.length ≤ n) (her : e + 6 ≤ r ∨ r + 2 ≤ e)  (q : ∀ h', RwAt h' r n (l ++ [E.length] ++ enBs E E.length) → Fr r (r + 2) h0 h' → Q none h') : mWP (d + 2) 6 [.ref e, .ref r] h0 Q := by
  obtain ⟨hE0, s9, t9, n9, p9, f9, hE, hEF⟩ := id hEA
  have loop : ∀ m9 i h, E.length < i + m9 → i ≤ E.length → EnA h e 100 E → RwAt h r n (l ++ [E.length] ++ enBs E i) → Fr r (r + 2) h0 h → mZ (d + 1) tk_6 0 0 Q 11 [some (.ref e), some (.ref r), some (.int (nI i))] [] h 0 0 := by
    intro m9
    induction m9 with
    | zero => intro i h h1 h2; omega
    | succ m9 ih =>
      intro i h h1 h2 hEA hw hF
      obtain ⟨hE0, s9, t9, n9, p9, f9, hE, hEF⟩ := id hEA
      have hbl := enBs_ln9 hW i h2
      have hll : (l ++ [E.length] ++ enBs E i).length = l.length + 1 + (enBs E i).length := by rw [List.length_append, List.length_append]; rfl
      refine z_iload 12 rfl rfl rfl ?_
      refine z_aload 13 rfl rfl rfl ?_
      refine z_get 16 rfl rfl (by first | exact hE.1 | exact hE.2.1 | exact hE.2.2.1 | exact hE.2.2.2.1 | exact hE.2.2.2.2.1 | exact hE.2.2.2.2.2 | exact hw.1 | exact hw1.1 | exact hw2.1 | exact hw3.1 | exact hw4.1 | exact hE1.1 | exact hE1.2.1 | exact hE1.2.2.1 | exact hE1.2.2.2.1 | exact hE1.2.2.2.2.1 | exact hE1.2.2.2.2.2 | exact hE2.1 | exact hE2.2.1 | exact hE2.2.2.2.1 | exact hE2.2.2.1 | exact hE2.2.2.2.2.1 | exact hE2.2.2.2.2.2 | exact hE3.1 | exact hE3.2.2.2.2.1 | exact hE3.2.2.2.2.2 | exact hE4.1 | exact hE4.2.2.2.2.2 | fail "lk") rfl ?_
      refine z_nge 19 rfl rfl (by omega) (by omega) (fun hc16 => ?_) (fun hc16 => ?_)
      · refine z_vret rfl (Nat.le_refl _) (Nat.le_refl _) ?_
        obtain rfl : i = E.length := by omega
        exact q h hw hF
      · obtain ⟨u1, u2, u3, u4, u5⟩ := hEF i (by omega)
        obtain ⟨v1, v2, v3, v4, v5⟩ := hW.2.2.1 i (by omega)
        have v7 := hW.tx (show i < E.length by omega)
        have v8 := nPt_lt v5
        refine z_aload 20 rfl rfl rfl ?_
        refine z_aload 21 rfl rfl rfl ?_
        refine z_get 24 rfl rfl (by first | exact hE.1 | exact hE.2.1 | exact hE.2.2.1 | exact hE.2.2.2.1 | exact hE.2.2.2.2.1 | exact hE.2.2.2.2.2 | exact hw.1 | exact hw1.1 | exact hw2.1 | exact hw3.1 | exact hw4.1 | exact hE1.1 | exact hE1.2.1 | exact hE1.2.2.1 | exact hE1.2.2.2.1 | exact hE1.2.2.2.2.1 | exact hE1.2.2.2.2.2 | exact hE2.1 | exact hE2.2.1 | exact hE2.2.2.2.1 | exact hE2.2.2.1 | exact hE2.2.2.2.2.1 | exact hE2.2.2.2.2.2 | exact hE3.1 | exact hE3.2.2.2.2.1 | exact hE3.2.2.2.2.2 | exact hE4.1 | exact hE4.2.2.2.2.2 | fail "lk") rfl ?_
        refine z_iload 25 rfl rfl rfl ?_
        refine z_ald 26 rfl rfl (by first | exact hE.1 | exact hE.2.1 | exact hE.2.2.1 | exact hE.2.2.2.1 | exact hE.2.2.2.2.1 | exact hE.2.2.2.2.2 | exact hw.1 | exact hw1.1 | exact hw2.1 | exact hw3.1 | exact hw4.1 | exact hE1.1 | exact hE1.2.1 | exact hE1.2.2.1 | exact hE1.2.2.2.1 | exact hE1.2.2.2.2.1 | exact hE1.2.2.2.2.2 | exact hE2.1 | exact hE2.2.1 | exact hE2.2.2.2.1 | exact hE2.2.2.1 | exact hE2.2.2.2.2.1 | exact hE2.2.2.2.2.2 | exact hE3.1 | exact hE3.2.2.2.2.1 | exact hE3.2.2.2.2.2 | exact hE4.1 | exact hE4.2.2.2.2.2 | fail "lk") rfl (by omega) (by omega) ?_
        simp only [u1]
        refine z_cv1 29 rfl rfl (by first | exact hE.1 | exact hE.2.1 | exact hE.2.2.1 | exact hE.2.2.2.1 | exact hE.2.2.2.2.1 | exact hE.2.2.2.2.2 | exact hw.1 | exact hw1.1 | exact hw2.1 | exact hw3.1 | exact hw4.1 | exact hE1.1 | exact hE1.2.1 | exact hE1.2.2.1 | exact hE1.2.2.2.1 | exact hE1.2.2.2.2.1 | exact hE1.2.2.2.2.2 | exact hE2.1 | exact hE2.2.1 | exact hE2.2.2.2.1 | exact hE2.2.2.1 | exact hE2.2.2.2.2.1 | exact hE2.2.2.2.2.2 | exact hE3.1 | exact hE3.2.2.2.2.1 | exact hE3.2.2.2.2.2 | exact hE4.1 | exact hE4.2.2.2.2.2 | fail "lk") rfl (Nat.le_refl _) (Nat.le_refl _) ?_
        refine w_addN hw hn (by omega) (fun h1 hw1 hF1 => ?_)
        have hE1 : EntAt h1 e 100 _ _ _ _ _ _ := EntAt.e hE (hF1.eqv (by omega))
        refine z_pop 30 rfl rfl ?_
        refine z_aload 31 rfl rfl rfl ?_
        refine z_aload 32 rfl rfl rfl ?_
        refine z_get 35 rfl rfl (by first | exact hE.1 | exact hE.2.1 | exact hE.2.2.1 | exact hE.2.2.2.1 | exact hE.2.2.2.2.1 | exact hE.2.2.2.2.2 | exact hw.1 | exact hw1.1 | exact hw2.1 | exact hw3.1 | exact hw4.1 | exact hE1.1 | exact hE1.2.1 | exact hE1.2.2.1 | exact hE1.2.2.2.1 | exact hE1.2.2.2.2.1 | exact hE1.2.2.2.2.2 | exact hE2.1 | exact hE2.2.1 | exact hE2.2.2.2.1 | exact hE2.2.2.1 | exact hE2.2.2.2.2.1 | exact hE2.2.2.2.2.2 | exact hE3.1 | exact hE3.2.2.2.2.1 | exact hE3.2.2.2.2.2 | exact hE4.1 | exact hE4.2.2.2.2.2 | fail "lk") rfl ?_
        refine z_iload 36 rfl rfl rfl ?_
        refine z_ald 37 rfl rfl (by first | exact hE.1 | exact hE.2.1 | exact hE.2.2.1 | exact hE.2.2.2.1 | exact hE.2.2.2.2.1 | exact hE.2.2.2.2.2 | exact hw.1 | exact hw1.1 | exact hw2.1 | exact hw3.1 | exact hw4.1 | exact hE1.1 | exact hE1.2.1 | exact hE1.2.2.1 | exact hE1.2.2.2.1 | exact hE1.2.2.2.2.1 | exact hE1.2.2.2.2.2 | exact hE2.1 | exact hE2.2.1 | exact hE2.2.2.2.1 | exact hE2.2.2.1 | exact hE2.2.2.2.2.1 | exact hE2.2.2.2.2.2 | exact hE3.1 | exact hE3.2.2.2.2.1 | exact hE3.2.2.2.2.2 | exact hE4.1 | exact hE4.2.2.2.2.2 | fail "lk") rfl (by omega) (by omega) ?_
        simp only [u3]
        refine z_cv1 40 rfl rfl (by first | exact hE.1 | exact hE.2.1 | exact hE.2.2.1 | exact hE.2.2.2.1 | exact hE.2.2.2.2.1 | exact hE.2.2.2.2.2 | exact hw.1 | exact hw1.1 | exact hw2.1 | exact hw3.1 | exact hw4.1 | exact hE1.1 | exact hE1.2.1 | exact hE1.2.2.1 | exact hE1.2.2.2.1 | exact hE1.2.2.2.2.1 | exact hE1.2.2.2.2.2 | exact hE2.1 | exact hE2.2.1 | exact hE2.2.2.2.1 | exact hE2.2.2.1 | exact hE2.2.2.2.2.1 | exact hE2.2.2.2.2.2 | exact hE3.1 | exact hE3.2.2.2.2.1 | exact hE3.2.2.2.2.2 | exact hE4.1 | exact hE4.2.2.2.2.2 | fail "lk") rfl (Nat.le_refl _) (Nat.le_refl _) ?_
        refine w_addN hw1 hn (by rw [List.length_append, hll]; show _ + 1 < n; omega) (fun h2 hw2 hF2 => ?_)
        have hE2 : EntAt h2 e 100 _ _ _ _ _ _ := EntAt.e hE1 (hF2.eqv (by omega))
        refine z_pop 41 rfl rfl ?_
        refine z_aload 42 rfl rfl rfl ?_
        refine z_aload 43 rfl rfl rfl ?_
        refine z_get 46 rfl rfl (by first | exact hE.1 | exact hE.2.1 | exact hE.2.2.1 | exact hE.2.2.2.1 | exact hE.2.2.2.2.1 | exact hE.2.2.2.2.2 | exact hw.1 | exact hw1.1 | exact hw2.1 | exact hw3.1 | exact hw4.1 | exact hE1.1 | exact hE1.2.1 | exact hE1.2.2.1 | exact hE1.2.2.2.1 | exact hE1.2.2.2.2.1 | exact hE1.2.2.2.2.2 | exact hE2.1 | exact hE2.2.1 | exact hE2.2.2.2.1 | exact hE2.2.2.1 | exact hE2.2.2.2.2.1 | exact hE2.2.2.2.2.2 | exact hE3.1 | exact hE3.2.2.2.2.1 | exact hE3.2.2.2.2.2 | exact hE4.1 | exact hE4.2.2.2.2.2 | fail "lk") rfl ?_
        refine z_iload 47 rfl rfl rfl ?_
        refine z_ald 48 rfl rfl (by first | exact hE.1 | exact hE.2.1 | exact hE.2.2.1 | exact hE.2.2.2.1 | exact hE.2.2.2.2.1 | exact hE.2.2.2.2.2 | exact hw.1 | exact hw1.1 | exact hw2.1 | exact hw3.1 | exact hw4.1 | exact hE1.1 | exact hE1.2.1 | exact hE1.2.2.1 | exact hE1.2.2.2.1 | exact hE1.2.2.2.2.1 | exact hE1.2.2.2.2.2 | exact hE2.1 | exact hE2.2.1 | exact hE2.2.2.2.1 | exact hE2.2.2.1 | exact hE2.2.2.2.2.1 | exact hE2.2.2.2.2.2 | exact hE3.1 | exact hE3.2.2.2.2.1 | exact hE3.2.2.2.2.2 | exact hE4.1 | exact hE4.2.2.2.2.2 | fail "lk") rfl (by omega) (by omega) ?_
        refine z_aload 49 rfl rfl rfl ?_
        refine z_get 52 rfl rfl (by first | exact hE.1 | exact hE.2.1 | exact hE.2.2.1 | exact hE.2.2.2.1 | exact hE.2.2.2.2.1 | exact hE.2.2.2.2.2 | exact hw.1 | exact hw1.1 | exact hw2.1 | exact hw3.1 | exact hw4.1 | exact hE1.1 | exact hE1.2.1 | exact hE1.2.2.1 | exact hE1.2.2.2.1 | exact hE1.2.2.2.2.1 | exact hE1.2.2.2.2.2 | exact hE2.1 | exact hE2.2.1 | exact hE2.2.2.2.1 | exact hE2.2.2.1 | exact hE2.2.2.2.2.1 | exact hE2.2.2.2.2.2 | exact hE3.1 | exact hE3.2.2.2.2.1 | exact hE3.2.2.2.2.2 | exact hE4.1 | exact hE4.2.2.2.2.2 | fail "lk") rfl ?_
        refine z_iload 53 rfl rfl rfl ?_
        refine z_ald 54 rfl rfl (by first | exact hE.1 | exact hE.2.1 | exact hE.2.2.1 | exact hE.2.2.2.1 | exact hE.2.2.2.2.1 | exact hE.2.2.2.2.2 | exact hw.1 | exact hw1.1 | exact hw2.1 | exact hw3.1 | exact hw4.1 | exact hE1.1 | exact hE1.2.1 | exact hE1.2.2.1 | exact hE1.2.2.2.1 | exact hE1.2.2.2.2.1 | exact hE1.2.2.2.2.2 | exact hE2.1 | exact hE2.2.1 | exact hE2.2.2.2.1 | exact hE2.2.2.1 | exact hE2.2.2.2.2.1 | exact hE2.2.2.2.2.2 | exact hE3.1 | exact hE3.2.2.2.2.1 | exact hE3.2.2.2.2.2 | exact hE4.1 | exact hE4.2.2.2.2.2 | fail "lk") rfl (by omega) (by omega) ?_
        simp only [u2, u3]
        refine z_cv2 57 rfl rfl (by first | exact hE.1 | exact hE.2.1 | exact hE.2.2.1 | exact hE.2.2.2.1 | exact hE.2.2.2.2.1 | exact hE.2.2.2.2.2 | exact hw.1 | exact hw1.1 | exact hw2.1 | exact hw3.1 | exact hw4.1 | exact hE1.1 | exact hE1.2.1 | exact hE1.2.2.1 | exact hE1.2.2.2.1 | exact hE1.2.2.2.2.1 | exact hE1.2.2.2.2.2 | exact hE2.1 | exact hE2.2.1 | exact hE2.2.2.2.1 | exact hE2.2.2.1 | exact hE2.2.2.2.2.1 | exact hE2.2.2.2.2.2 | exact hE3.1 | exact hE3.2.2.2.2.1 | exact hE3.2.2.2.2.2 | exact hE4.1 | exact hE4.2.2.2.2.2 | fail "lk") rfl (Nat.le_refl _) (Nat.le_refl _) ?_
        refine w_addNumber hw2 hn (by omega) (by omega) (by rw [List.length_append, List.length_append, hll]; show _ + 1 + 1 + _ ≤ n; omega) (fun h3 hw3 hF3 => ?_)
        have hE3 : EntAt h3 e 100 _ _ _ _ _ _ := EntAt.e hE2 (hF3.eqv (by omega))
        refine z_aload 58 rfl rfl rfl ?_
        refine z_aload 59 rfl rfl rfl ?_
        refine z_get 62 rfl rfl (by first | exact hE.1 | exact hE.2.1 | exact hE.2.2.1 | exact hE.2.2.2.1 | exact hE.2.2.2.2.1 | exact hE.2.2.2.2.2 | exact hw.1 | exact hw1.1 | exact hw2.1 | exact hw3.1 | exact hw4.1 | exact hE1.1 | exact hE1.2.1 | exact hE1.2.2.1 | exact hE1.2.2.2.1 | exact hE1.2.2.2.2.1 | exact hE1.2.2.2.2.2 | exact hE2.1 | exact hE2.2.1 | exact hE2.2.2.2.1 | exact hE2.2.2.1 | exact hE2.2.2.2.2.1 | exact hE2.2.2.2.2.2 | exact hE3.1 | exact hE3.2.2.2.2.1 | exact hE3.2.2.2.2.2 | exact hE4.1 | exact hE4.2.2.2.2.2 | fail "lk") rfl ?_
        refine z_iload 63 rfl rfl rfl ?_
        refine z_ald 64 rfl rfl (by first | exact hE.1 | exact hE.2.1 | exact hE.2.2.1 | exact hE.2.2.2.1 | exact hE.2.2.2.2.1 | exact hE.2.2.2.2.2 | exact hw.1 | exact hw1.1 | exact hw2.1 | exact hw3.1 | exact hw4.1 | exact hE1.1 | exact hE1.2.1 | exact hE1.2.2.1 | exact hE1.2.2.2.1 | exact hE1.2.2.2.2.1 | exact hE1.2.2.2.2.2 | exact hE2.1 | exact hE2.2.1 | exact hE2.2.2.2.1 | exact hE2.2.2.1 | exact hE2.2.2.2.2.1 | exact hE2.2.2.2.2.2 | exact hE3.1 | exact hE3.2.2.2.2.1 | exact hE3.2.2.2.2.2 | exact hE4.1 | exact hE4.2.2.2.2.2 | fail "lk") rfl (by omega) (by omega) ?_
        simp only [u4]
        refine z_push 65 (nI 3) rfl rfl rfl ?_
        refine z_cv2 68 rfl rfl (by first | exact hE.1 | exact hE.2.1 | exact hE.2.2.1 | exact hE.2.2.2.1 | exact hE.2.2.2.2.1 | exact hE.2.2.2.2.2 | exact hw.1 | exact hw1.1 | exact hw2.1 | exact hw3.1 | exact hw4.1 | exact hE1.1 | exact hE1.2.1 | exact hE1.2.2.1 | exact hE1.2.2.2.1 | exact hE1.2.2.2.2.1 | exact hE1.2.2.2.2.2 | exact hE2.1 | exact hE2.2.1 | exact hE2.2.2.2.1 | exact hE2.2.2.1 | exact hE2.2.2.2.2.1 | exact hE2.2.2.2.2.2 | exact hE3.1 | exact hE3.2.2.2.2.1 | exact hE3.2.2.2.2.2 | exact hE4.1 | exact hE4.2.2.2.2.2 | fail "lk") rfl (Nat.le_refl _) (Nat.le_refl _) ?_
        refine w_addNumber hw3 hn (by omega) (by omega) (by rw [List.length_append, List.length_append, List.length_append, hll, byL_len]; show _ + 1 + 1 + _ + 3 ≤ n; omega) (fun h4 hw4 hF4 => ?_)
        have hE4 : EntAt h4 e 100 _ _ _ _ _ _ := EntAt.e hE3 (hF4.eqv (by omega))
        refine z_aload 69 rfl rfl rfl ?_
        refine z_aload 70 rfl rfl rfl ?_
        refine z_get 73 rfl rfl (by first | exact hE.1 | exact hE.2.1 | exact hE.2.2.1 | exact hE.2.2.2.1 | exact hE.2.2.2.2.1 | exact hE.2.2.2.2.2 | exact hw.1 | exact hw1.1 | exact hw2.1 | exact hw3.1 | exact hw4.1 | exact hE1.1 | exact hE1.2.1 | exact hE1.2.2.1 | exact hE1.2.2.2.1 | exact hE1.2.2.2.2.1 | exact hE1.2.2.2.2.2 | exact hE2.1 | exact hE2.2.1 | exact hE2.2.2.2.1 | exact hE2.2.2.1 | exact hE2.2.2.2.2.1 | exact hE2.2.2.2.2.2 | exact hE3.1 | exact hE3.2.2.2.2.1 | exact hE3.2.2.2.2.2 | exact hE4.1 | exact hE4.2.2.2.2.2 | fail "lk") rfl ?_
        refine z_iload 74 rfl rfl rfl ?_
        refine z_bld 75 rfl rfl (by first | exact hE.1 | exact hE.2.1 | exact hE.2.2.1 | exact hE.2.2.2.1 | exact hE.2.2.2.2.1 | exact hE.2.2.2.2.2 | exact hw.1 | exact hw1.1 | exact hw2.1 | exact hw3.1 | exact hw4.1 | exact hE1.1 | exact hE1.2.1 | exact hE1.2.2.1 | exact hE1.2.2.2.1 | exact hE1.2.2.2.2.1 | exact hE1.2.2.2.2.2 | exact hE2.1 | exact hE2.2.1 | exact hE2.2.2.2.1 | exact hE2.2.2.1 | exact hE2.2.2.2.2.1 | exact hE2.2.2.2.2.2 | exact hE3.1 | exact hE3.2.2.2.2.1 | exact hE3.2.2.2.2.2 | exact hE4.1 | exact hE4.2.2.2.2.2 | fail "lk") rfl (by omega) (by omega) ?_
        first | refine z_beq 78 rfl rfl (fun hc75 => ?_) (fun hc75 => ?_)
        · refine z_push 83 (nI 0) rfl rfl rfl ?_
          refine z_cv1 86 rfl rfl (by first | exact hE.1 | exact hE.2.1 | exact hE.2.2.1 | exact hE.2.2.2.1 | exact hE.2.2.2.2.1 | exact hE.2.2.2.2.2 | exact hw.1 | exact hw1.1 | exact hw2.1 | exact hw3.1 | exact hw4.1 | exact hE1.1 | exact hE1.2.1 | exact hE1.2.2.1 | exact hE1.2.2.2.1 | exact hE1.2.2.2.2.1 | exact hE1.2.2.2.2.2 | exact hE2.1 | exact hE2.2.1 | exact hE2.2.2.2.1 | exact hE2.2.2.1 | exact hE2.2.2.2.2.1 | exact hE2.2.2.2.2.2 | exact hE3.1 | exact hE3.2.2.2.2.1 | exact hE3.2.2.2.2.2 | exact hE4.1 | exact hE4.2.2.2.2.2 | fail "lk") rfl (Nat.le_refl _) (Nat.le_refl _) ?_
          refine w_addN (x := 0) hw4 hn (by rw [List.length_append, List.length_append, List.length_append, List.length_append, hll, byL_len, byL_len]; show _ + 1 + 1 + _ + 3 < n; omega) (fun h5 hw5 hF5 => ?_)
          refine z_pop 87 rfl rfl ?_
          refine z_iinc 90 _ rfl rfl rfl rfl (by first | with_reducible exact zi_1 _ | rfl) ?_
          refine z_goto rfl ?_
          refine ih (i + 1) h5 (by omega) (by omega) ⟨hE0, s9, t9, n9, p9, f9, EntAt.e hE4 (hF5.eqv (by omega)), hEF⟩ ?_ ⟨hF5.1.trans (hF4.1.trans (hF3.1.trans (hF2.1.trans (hF1.1.trans hF.1)))), fun x hx => (hF5.2 x hx).trans ((hF4.2 x hx).trans ((hF3.2 x hx).trans ((hF2.2 x hx).trans ((hF1.2 x hx).trans (hF.2 x hx)))))⟩
          have e9 : l ++ [E.length] ++ enBs E (i + 1) = l ++ [E.length] ++ enBs E i ++ [enS E i] ++ [enN E i] ++ byL (enN E i) (enT E i) ++ byL 3 (enP E i) ++ [0] := by
            rw [enBs, enB, byL_b, byL_b, show b2 (enF E i) = 0 from by rw [← u5, hc75]; rfl]
            simp only [List.append_assoc]
          rw [e9]
          exact hw5
        · refine z_push 79 (nI 1) rfl rfl rfl ?_
          refine z_goto rfl ?_
          refine z_cv1 86 rfl rfl (by first | exact hE.1 | exact hE.2.1 | exact hE.2.2.1 | exact hE.2.2.2.1 | exact hE.2.2.2.2.1 | exact hE.2.2.2.2.2 | exact hw.1 | exact hw1.1 | exact hw2.1 | exact hw3.1 | exact hw4.1 | exact hE1.1 | exact hE1.2.1 | exact hE1.2.2.1 | exact hE1.2.2.2.1 | exact hE1.2.2.2.2.1 | exact hE1.2.2.2.2.2 | exact hE2.1 | exact hE2.2.1 | exact hE2.2.2.2.1 | exact hE2.2.2.1 | exact hE2.2.2.2.2.1 | exact hE2.2.2.2.2.2 | exact hE3.1 | exact hE3.2.2.2.2.1 | exact hE3.2.2.2.2.2 | exact hE4.1 | exact hE4.2.2.2.2.2 | fail "lk") rfl (Nat.le_refl _) (Nat.le_refl _) ?_
          refine w_addN (x := 1) hw4 hn (by rw [List.length_append, List.length_append, List.length_append, List.length_append, hll, byL_len, byL_len]; show _ + 1 + 1 + _ + 3 < n; omega) (fun h5 hw5 hF5 => ?_)
          refine z_pop 87 rfl rfl ?_
          refine z_iinc 90 _ rfl rfl rfl rfl (by first | with_reducible exact zi_1 _ | rfl) ?_
          refine z_goto rfl ?_
          refine ih (i + 1) h5 (by omega) (by omega) ⟨hE0, s9, t9, n9, p9, f9, EntAt.e hE4 (hF5.eqv (by omega)), hEF⟩ ?_ ⟨hF5.1.trans (hF4.1.trans (hF3.1.trans (hF2.1.trans (hF1.1.trans hF.1)))), fun x hx => (hF5.2 x hx).trans ((hF4.2 x hx).trans ((hF3.2 x hx).trans ((hF2.2 x hx).trans ((hF1.2 x hx).trans (hF.2 x hx)))))⟩
          have e9 : l ++ [E.length] ++ enBs E (i + 1) = l ++ [E.length] ++ enBs E i ++ [enS E i] ++ [enN E i] ++ byL (enN E i) (enT E i) ++ byL 3 (enP E i) ++ [1] := by
            rw [enBs, enB, byL_b, byL_b, show b2 (enF E i) = 1 from by rw [← u5, hc75]; rfl]
            simp only [List.append_assoc]
          rw [e9]
          exact hw5
  refine z_in [some (.ref e), some (.ref r), none] (by rfl) rfl rfl rfl ?_
  refine z_aload 1 rfl rfl rfl ?_
  refine z_aload 2 rfl rfl rfl ?_
  refine z_get 5 rfl rfl (by first | exact hE.1 | exact hw.1 | fail "lk") rfl ?_
  refine z_cv1 8 rfl rfl (by first | exact hE.1 | exact hw.1 | fail "lk") rfl (Nat.le_refl _) (Nat.le_refl _) ?_
  refine w_addN hw hn (by omega) (fun h1 hw1 hF1 => ?_)
  refine z_pop 9 rfl rfl ?_
  refine z_push 10 (nI 0) rfl rfl rfl ?_
  refine z_istore 11 rfl rfl rfl rfl ?_
  exact loop (E.length + 1) 0 h1 (by omega) (by omega) (hEA.e (hF1.eqv (by omega))) (by rw [enBs, List.append_nil]; exact hw1) hF1
set_option maxRecDepth 100000 in
theorem c_Sh_writeTo {d : Nat} {h0 : mH} {e r n : Nat} {l : List Nat} {H : List Sh} {Q : mP} (hSA : ShA h0 e 10 H) (hw : RwAt h0 r n l) (hn : n < 2 ^ 31) (hl : l.length + 1 + 4 * H.length ≤ n) (her : e + 5 ≤ r ∨ r + 2 ≤ e)  (q : ∀ h', RwAt h' r n (l ++ [H.length] ++ shBs H H.length) → Fr r (r + 2) h0 h' → Q none h') : mWP (d + 2) 98 [.ref e, .ref r] h0 Q := by
  obtain ⟨hH0, sS, vS, gS9, kS, hS, hSF⟩ := id hSA
  have loop : ∀ m9 i h, H.length < i + m9 → i ≤ H.length → ShA h e 10 H → RwAt h r n (l ++ [H.length] ++ shBs H i) → Fr r (r + 2) h0 h → mZ (d + 1) tk_98 0 0 Q 11 [some (.ref e), some (.ref r), some (.int (nI i))] [] h 0 0 := by
    intro m9
    induction m9 with
    | zero => intro i h h1 h2; omega
    | succ m9 ih =>
      intro i h h1 h2 hSA hw hF
      obtain ⟨hH0, sS, vS, gS9, kS, hS, hSF⟩ := id hSA
      have hll : (l ++ [H.length] ++ shBs H i).length = l.length + 1 + 4 * i := by rw [List.length_append, List.length_append, shBs_ln9]; rfl
      refine z_iload 12 rfl rfl rfl ?_
      refine z_aload 13 rfl rfl rfl ?_
      refine z_get 16 rfl rfl (by first | exact hS.1 | exact hS.2.1 | exact hS.2.2.1 | exact hS.2.2.2.1 | exact hS.2.2.2.2 | exact hS1.1 | exact hS1.2.1 | exact hS1.2.2.1 | exact hS1.2.2.2.1 | exact hS1.2.2.2.2 | exact hS2.1 | exact hS2.2.1 | exact hS2.2.2.1 | exact hS2.2.2.2.1 | exact hS2.2.2.2.2 | exact hS3.1 | exact hS3.2.1 | exact hS3.2.2.1 | exact hS3.2.2.2.1 | exact hS3.2.2.2.2 | exact hw.1 | exact hw1.1 | exact hw2.1 | exact hw3.1 | fail "lk") rfl ?_
      refine z_nge 19 rfl rfl (by omega) (by omega) (fun hc16 => ?_) (fun hc16 => ?_)
      · refine z_vret rfl (Nat.le_refl _) (Nat.le_refl _) ?_
        obtain rfl : i = H.length := by omega
        exact q h hw hF
      · obtain ⟨u1, u2, u3, u4⟩ := hSF i (by omega)
        refine z_aload 20 rfl rfl rfl ?_
        refine z_aload 21 rfl rfl rfl ?_
        refine z_get 24 rfl rfl (by first | exact hS.1 | exact hS.2.1 | exact hS.2.2.1 | exact hS.2.2.2.1 | exact hS.2.2.2.2 | exact hS1.1 | exact hS1.2.1 | exact hS1.2.2.1 | exact hS1.2.2.2.1 | exact hS1.2.2.2.2 | exact hS2.1 | exact hS2.2.1 | exact hS2.2.2.1 | exact hS2.2.2.2.1 | exact hS2.2.2.2.2 | exact hS3.1 | exact hS3.2.1 | exact hS3.2.2.1 | exact hS3.2.2.2.1 | exact hS3.2.2.2.2 | exact hw.1 | exact hw1.1 | exact hw2.1 | exact hw3.1 | fail "lk") rfl ?_
        refine z_iload 25 rfl rfl rfl ?_
        refine z_ald 26 rfl rfl (by first | exact hS.1 | exact hS.2.1 | exact hS.2.2.1 | exact hS.2.2.2.1 | exact hS.2.2.2.2 | exact hS1.1 | exact hS1.2.1 | exact hS1.2.2.1 | exact hS1.2.2.2.1 | exact hS1.2.2.2.2 | exact hS2.1 | exact hS2.2.1 | exact hS2.2.2.1 | exact hS2.2.2.2.1 | exact hS2.2.2.2.2 | exact hS3.1 | exact hS3.2.1 | exact hS3.2.2.1 | exact hS3.2.2.2.1 | exact hS3.2.2.2.2 | exact hw.1 | exact hw1.1 | exact hw2.1 | exact hw3.1 | fail "lk") rfl (by omega) (by omega) ?_
        simp only [u1]
        refine z_cv1 29 rfl rfl (by first | exact hS.1 | exact hS.2.1 | exact hS.2.2.1 | exact hS.2.2.2.1 | exact hS.2.2.2.2 | exact hS1.1 | exact hS1.2.1 | exact hS1.2.2.1 | exact hS1.2.2.2.1 | exact hS1.2.2.2.2 | exact hS2.1 | exact hS2.2.1 | exact hS2.2.2.1 | exact hS2.2.2.2.1 | exact hS2.2.2.2.2 | exact hS3.1 | exact hS3.2.1 | exact hS3.2.2.1 | exact hS3.2.2.2.1 | exact hS3.2.2.2.2 | exact hw.1 | exact hw1.1 | exact hw2.1 | exact hw3.1 | fail "lk") rfl (Nat.le_refl _) (Nat.le_refl _) ?_
        refine w_addN hw hn (by omega) (fun h1 hw1 hF1 => ?_)
        have hS1 : ShAt h1 e 10 _ _ _ _ _ := ShAt.e hS (hF1.eqv (by omega))
        refine z_pop 30 rfl rfl ?_
        refine z_aload 31 rfl rfl rfl ?_
        refine z_aload 32 rfl rfl rfl ?_
        refine z_get 35 rfl rfl (by first | exact hS.1 | exact hS.2.1 | exact hS.2.2.1 | exact hS.2.2.2.1 | exact hS.2.2.2.2 | exact hS1.1 | exact hS1.2.1 | exact hS1.2.2.1 | exact hS1.2.2.2.1 | exact hS1.2.2.2.2 | exact hS2.1 | exact hS2.2.1 | exact hS2.2.2.1 | exact hS2.2.2.2.1 | exact hS2.2.2.2.2 | exact hS3.1 | exact hS3.2.1 | exact hS3.2.2.1 | exact hS3.2.2.2.1 | exact hS3.2.2.2.2 | exact hw.1 | exact hw1.1 | exact hw2.1 | exact hw3.1 | fail "lk") rfl ?_
        refine z_iload 36 rfl rfl rfl ?_
        refine z_ald 37 rfl rfl (by first | exact hS.1 | exact hS.2.1 | exact hS.2.2.1 | exact hS.2.2.2.1 | exact hS.2.2.2.2 | exact hS1.1 | exact hS1.2.1 | exact hS1.2.2.1 | exact hS1.2.2.2.1 | exact hS1.2.2.2.2 | exact hS2.1 | exact hS2.2.1 | exact hS2.2.2.1 | exact hS2.2.2.2.1 | exact hS2.2.2.2.2 | exact hS3.1 | exact hS3.2.1 | exact hS3.2.2.1 | exact hS3.2.2.2.1 | exact hS3.2.2.2.2 | exact hw.1 | exact hw1.1 | exact hw2.1 | exact hw3.1 | fail "lk") rfl (by omega) (by omega) ?_
        simp only [u2]
        refine z_cv1 40 rfl rfl (by first | exact hS.1 | exact hS.2.1 | exact hS.2.2.1 | exact hS.2.2.2.1 | exact hS.2.2.2.2 | exact hS1.1 | exact hS1.2.1 | exact hS1.2.2.1 | exact hS1.2.2.2.1 | exact hS1.2.2.2.2 | exact hS2.1 | exact hS2.2.1 | exact hS2.2.2.1 | exact hS2.2.2.2.1 | exact hS2.2.2.2.2 | exact hS3.1 | exact hS3.2.1 | exact hS3.2.2.1 | exact hS3.2.2.2.1 | exact hS3.2.2.2.2 | exact hw.1 | exact hw1.1 | exact hw2.1 | exact hw3.1 | fail "lk") rfl (Nat.le_refl _) (Nat.le_refl _) ?_
        refine w_addN hw1 hn (by rw [List.length_append, hll]; show _ + 1 < n; omega) (fun h2 hw2 hF2 => ?_)
        have hS2 : ShAt h2 e 10 _ _ _ _ _ := ShAt.e hS1 (hF2.eqv (by omega))
        refine z_pop 41 rfl rfl ?_
        refine z_aload 42 rfl rfl rfl ?_
        refine z_aload 43 rfl rfl rfl ?_
        refine z_get 46 rfl rfl (by first | exact hS.1 | exact hS.2.1 | exact hS.2.2.1 | exact hS.2.2.2.1 | exact hS.2.2.2.2 | exact hS1.1 | exact hS1.2.1 | exact hS1.2.2.1 | exact hS1.2.2.2.1 | exact hS1.2.2.2.2 | exact hS2.1 | exact hS2.2.1 | exact hS2.2.2.1 | exact hS2.2.2.2.1 | exact hS2.2.2.2.2 | exact hS3.1 | exact hS3.2.1 | exact hS3.2.2.1 | exact hS3.2.2.2.1 | exact hS3.2.2.2.2 | exact hw.1 | exact hw1.1 | exact hw2.1 | exact hw3.1 | fail "lk") rfl ?_
        refine z_iload 47 rfl rfl rfl ?_
        refine z_ald 48 rfl rfl (by first | exact hS.1 | exact hS.2.1 | exact hS.2.2.1 | exact hS.2.2.2.1 | exact hS.2.2.2.2 | exact hS1.1 | exact hS1.2.1 | exact hS1.2.2.1 | exact hS1.2.2.2.1 | exact hS1.2.2.2.2 | exact hS2.1 | exact hS2.2.1 | exact hS2.2.2.1 | exact hS2.2.2.2.1 | exact hS2.2.2.2.2 | exact hS3.1 | exact hS3.2.1 | exact hS3.2.2.1 | exact hS3.2.2.2.1 | exact hS3.2.2.2.2 | exact hw.1 | exact hw1.1 | exact hw2.1 | exact hw3.1 | fail "lk") rfl (by omega) (by omega) ?_
        simp only [u3]
        refine z_cv1 51 rfl rfl (by first | exact hS.1 | exact hS.2.1 | exact hS.2.2.1 | exact hS.2.2.2.1 | exact hS.2.2.2.2 | exact hS1.1 | exact hS1.2.1 | exact hS1.2.2.1 | exact hS1.2.2.2.1 | exact hS1.2.2.2.2 | exact hS2.1 | exact hS2.2.1 | exact hS2.2.2.1 | exact hS2.2.2.2.1 | exact hS2.2.2.2.2 | exact hS3.1 | exact hS3.2.1 | exact hS3.2.2.1 | exact hS3.2.2.2.1 | exact hS3.2.2.2.2 | exact hw.1 | exact hw1.1 | exact hw2.1 | exact hw3.1 | fail "lk") rfl (Nat.le_refl _) (Nat.le_refl _) ?_
        refine w_addN hw2 hn (by rw [List.length_append, List.length_append, hll]; show _ + 1 + 1 < n; omega) (fun h3 hw3 hF3 => ?_)
        have hS3 : ShAt h3 e 10 _ _ _ _ _ := ShAt.e hS2 (hF3.eqv (by omega))
        refine z_pop 52 rfl rfl ?_
        refine z_aload 53 rfl rfl rfl ?_
        refine z_aload 54 rfl rfl rfl ?_
        refine z_get 57 rfl rfl (by first | exact hS.1 | exact hS.2.1 | exact hS.2.2.1 | exact hS.2.2.2.1 | exact hS.2.2.2.2 | exact hS1.1 | exact hS1.2.1 | exact hS1.2.2.1 | exact hS1.2.2.2.1 | exact hS1.2.2.2.2 | exact hS2.1 | exact hS2.2.1 | exact hS2.2.2.1 | exact hS2.2.2.2.1 | exact hS2.2.2.2.2 | exact hS3.1 | exact hS3.2.1 | exact hS3.2.2.1 | exact hS3.2.2.2.1 | exact hS3.2.2.2.2 | exact hw.1 | exact hw1.1 | exact hw2.1 | exact hw3.1 | fail "lk") rfl ?_
        refine z_iload 58 rfl rfl rfl ?_
        refine z_bld 59 rfl rfl (by first | exact hS.1 | exact hS.2.1 | exact hS.2.2.1 | exact hS.2.2.2.1 | exact hS.2.2.2.2 | exact hS1.1 | exact hS1.2.1 | exact hS1.2.2.1 | exact hS1.2.2.2.1 | exact hS1.2.2.2.2 | exact hS2.1 | exact hS2.2.1 | exact hS2.2.2.1 | exact hS2.2.2.2.1 | exact hS2.2.2.2.2 | exact hS3.1 | exact hS3.2.1 | exact hS3.2.2.1 | exact hS3.2.2.2.1 | exact hS3.2.2.2.2 | exact hw.1 | exact hw1.1 | exact hw2.1 | exact hw3.1 | fail "lk") rfl (by omega) (by omega) ?_
        first | refine z_beq 62 rfl rfl (fun hc59 => ?_) (fun hc59 => ?_)
        · refine z_push 67 (nI 0) rfl rfl rfl ?_
          refine z_cv1 70 rfl rfl (by first | exact hS.1 | exact hS.2.1 | exact hS.2.2.1 | exact hS.2.2.2.1 | exact hS.2.2.2.2 | exact hS1.1 | exact hS1.2.1 | exact hS1.2.2.1 | exact hS1.2.2.2.1 | exact hS1.2.2.2.2 | exact hS2.1 | exact hS2.2.1 | exact hS2.2.2.1 | exact hS2.2.2.2.1 | exact hS2.2.2.2.2 | exact hS3.1 | exact hS3.2.1 | exact hS3.2.2.1 | exact hS3.2.2.2.1 | exact hS3.2.2.2.2 | exact hw.1 | exact hw1.1 | exact hw2.1 | exact hw3.1 | fail "lk") rfl (Nat.le_refl _) (Nat.le_refl _) ?_
          refine w_addN (x := 0) hw3 hn (by rw [List.length_append, List.length_append, List.length_append, hll]; show _ + 1 + 1 + 1 < n; omega) (fun h4 hw4 hF4 => ?_)
          refine z_pop 71 rfl rfl ?_
          refine z_iinc 74 _ rfl rfl rfl rfl (by first | with_reducible exact zi_1 _ | rfl) ?_
          refine z_goto rfl ?_
          refine ih (i + 1) h4 (by omega) (by omega) ⟨hH0, sS, vS, gS9, kS, ShAt.e hS3 (hF4.eqv (by omega)), hSF⟩ ?_ ⟨hF4.1.trans (hF3.1.trans (hF2.1.trans (hF1.1.trans hF.1))), fun x hx => (hF4.2 x hx).trans ((hF3.2 x hx).trans ((hF2.2 x hx).trans ((hF1.2 x hx).trans (hF.2 x hx))))⟩
          have e9 : l ++ [H.length] ++ shBs H (i + 1) = l ++ [H.length] ++ shBs H i ++ [shS H i] ++ [shV H i] ++ [shG H i] ++ [0] := by
            rw [shBs, shB, show b2 (shK H i) = 0 from by rw [← u4, hc59]; rfl]
            simp only [List.append_assoc]
          rw [e9]
          exact hw4
        · refine z_push 63 (nI 1) rfl rfl rfl ?_
          refine z_goto rfl ?_
          refine z_cv1 70 rfl rfl (by first | exact hS.1 | exact hS.2.1 | exact hS.2.2.1 | exact hS.2.2.2.1 | exact hS.2.2.2.2 | exact hS1.1 | exact hS1.2.1 | exact hS1.2.2.1 | exact hS1.2.2.2.1 | exact hS1.2.2.2.2 | exact hS2.1 | exact hS2.2.1 | exact hS2.2.2.1 | exact hS2.2.2.2.1 | exact hS2.2.2.2.2 | exact hS3.1 | exact hS3.2.1 | exact hS3.2.2.1 | exact hS3.2.2.2.1 | exact hS3.2.2.2.2 | exact hw.1 | exact hw1.1 | exact hw2.1 | exact hw3.1 | fail "lk") rfl (Nat.le_refl _) (Nat.le_refl _) ?_
          refine w_addN (x := 1) hw3 hn (by rw [List.length_append, List.length_append, List.length_append, hll]; show _ + 1 + 1 + 1 < n; omega) (fun h4 hw4 hF4 => ?_)
          refine z_pop 71 rfl rfl ?_
          refine z_iinc 74 _ rfl rfl rfl rfl (by first | with_reducible exact zi_1 _ | rfl) ?_
          refine z_goto rfl ?_
          refine ih (i + 1) h4 (by omega) (by omega) ⟨hH0, sS, vS, gS9, kS, ShAt.e hS3 (hF4.eqv (by omega)), hSF⟩ ?_ ⟨hF4.1.trans (hF3.1.trans (hF2.1.trans (hF1.1.trans hF.1))), fun x hx => (hF4.2 x hx).trans ((hF3.2 x hx).trans ((hF2.2 x hx).trans ((hF1.2 x hx).trans (hF.2 x hx))))⟩
          have e9 : l ++ [H.length] ++ shBs H (i + 1) = l ++ [H.length] ++ shBs H i ++ [shS H i] ++ [shV H i] ++ [shG H i] ++ [1] := by
            rw [shBs, shB, show b2 (shK H i) = 1 from by rw [← u4, hc59]; rfl]
            simp only [List.append_assoc]
          rw [e9]
          exact hw4
  refine z_in [some (.ref e), some (.ref r), none] (by rfl) rfl rfl rfl ?_
  refine z_aload 1 rfl rfl rfl ?_
  refine z_aload 2 rfl rfl rfl ?_
  refine z_get 5 rfl rfl (by first | exact hS.1 | exact hw.1 | fail "lk") rfl ?_
  refine z_cv1 8 rfl rfl (by first | exact hS.1 | exact hw.1 | fail "lk") rfl (Nat.le_refl _) (Nat.le_refl _) ?_
  refine w_addN hw hn (by omega) (fun h1 hw1 hF1 => ?_)
  refine z_pop 9 rfl rfl ?_
  refine z_push 10 (nI 0) rfl rfl rfl ?_
  refine z_istore 11 rfl rfl rfl rfl ?_
  exact loop (H.length + 1) 0 h1 (by omega) (by omega) (hSA.e (hF1.eqv (by omega))) (by rw [shBs, List.append_nil]; exact hw1) hF1
