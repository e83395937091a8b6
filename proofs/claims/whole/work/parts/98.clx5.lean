/-! the class: rows in and out -/
set_option maxRecDepth 10000 in
theorem c_emptied {d : Nat} {h : mH} {r n : Nat} {l : List Nat} {Q : mP} (hw : RwAt h r n l)  (q : ∀ h', RwAt h' r n [] → Fr r (r + 2) h h' → Q (some (.int (nI l.length))) h') : mWP (d + 2) 159 [.ref r] h Q := by
  refine z_in [some (.ref r), none] (by rfl) rfl rfl rfl ?_
  refine z_aload 1 rfl rfl rfl ?_
  refine z_get 4 rfl rfl hw.1 rfl ?_
  refine z_istore 5 rfl rfl rfl rfl ?_
  refine z_aload 6 rfl rfl rfl ?_
  refine z_cv0 9 rfl rfl hw.1 rfl (Nat.le_refl _) (Nat.le_refl _) ?_
  refine w_clear hw (fun h1 hw1 hF1 => ?_)
  refine z_iload 10 rfl rfl rfl ?_
  refine z_ireti rfl (Nat.le_refl _) (Nat.le_refl _) ?_
  exact q h1 hw1 hF1
set_option maxRecDepth 100000 in
theorem c_resultTo {d : Nat} {h : mH} {A : Ab} {pad : Nat → Nat} {sp : Option Nat} {res wrk : Nat} {r k : Nat} {l : List Nat} {Q : mP} (hC : CI h A pad sp res wrk) (hZ2 : A.res.1 < 3) (hk : k < 3) (hw : RwAt h r 1000 l) (hr : r = 3 ∨ r = 5)  (q2 : A.res.1 ≠ k → Q (some (.int (-2))) h) (q6 : A.res.1 = k → 1000 < A.res.2.length → Q (some (.int (-6))) h) (q1 : A.res.1 = k → A.res.2.length ≤ 1000 → ∀ h', RwAt h' r 1000 A.res.2 → Fr r (r + 2) h h' → Q (some (.int (nI A.res.2.length))) h') : mWP (d + 2) 160 [.ref 1, .ref r, .int (nI k)] h Q := by
  obtain ⟨c1, cr, cp, cb, cu, cq, cs, ck, cru, cm⟩ := id hC
  obtain ⟨cp0, ⟨pf, cp1, cp2⟩, cp3, cp4, cp5⟩ := id cp
  have cq9 := cq.2.1
  refine z_in [some (.ref 1), some (.ref r), some (.int (nI k))] (by rfl) rfl rfl rfl ?_
  refine z_aload 1 rfl rfl rfl ?_
  refine z_get 4 rfl rfl (by first | exact c1 | exact hw.1 | exact cq.1 | exact (hF1.2 1 (by omega)).trans c1 | exact hw2.1 | exact hw1.1 | fail "lk") rfl ?_
  refine z_iload 5 rfl rfl rfl ?_
  refine z_neq 8 rfl rfl (by omega) (by omega) (fun hc5 => ?_) (fun hc5 => ?_)
  · refine z_aload 12 rfl rfl rfl ?_
    refine z_get 15 rfl rfl (by first | exact c1 | exact hw.1 | exact cq.1 | exact (hF1.2 1 (by omega)).trans c1 | exact hw2.1 | exact hw1.1 | fail "lk") rfl ?_
    refine z_get 18 rfl rfl (by first | exact c1 | exact hw.1 | exact cq.1 | exact (hF1.2 1 (by omega)).trans c1 | exact hw2.1 | exact hw1.1 | fail "lk") rfl ?_
    refine z_push 21 (nI 1000) rfl rfl rfl ?_
    refine z_nle 24 rfl rfl (by omega) (by omega) (fun hc21 => ?_) (fun hc21 => ?_)
    · refine z_aload 28 rfl rfl rfl ?_
      refine z_cv0 31 rfl rfl (by first | exact c1 | exact hw.1 | exact cq.1 | exact (hF1.2 1 (by omega)).trans c1 | exact hw2.1 | exact hw1.1 | fail "lk") rfl (Nat.le_refl _) (Nat.le_refl _) ?_
      refine w_clear hw (fun h1 hw1 hF1 => ?_)
      refine z_aload 32 rfl rfl rfl ?_
      refine z_aload 33 rfl rfl rfl ?_
      refine z_get 36 rfl rfl (by first | exact c1 | exact hw.1 | exact cq.1 | exact (hF1.2 1 (by omega)).trans c1 | exact hw2.1 | exact hw1.1 | fail "lk") rfl ?_
      refine z_cv1 39 rfl rfl (by first | exact c1 | exact hw.1 | exact cq.1 | exact (hF1.2 1 (by omega)).trans c1 | exact hw2.1 | exact hw1.1 | fail "lk") rfl (Nat.le_refl _) (Nat.le_refl _) ?_
      refine w_addAll hw1 (cq.e (fun x x1 x2 => hF1.2 x (by omega))) (by decide) (by decide) (fun _ h2 hw2 hF2 => ?_) (fun h9 => absurd h9 (by rw [List.length_nil]; omega))
      rw [List.nil_append] at hw2
      refine z_pop 40 rfl rfl ?_
      refine z_aload 41 rfl rfl rfl ?_
      refine z_get 44 rfl rfl (by first | exact c1 | exact hw.1 | exact cq.1 | exact (hF1.2 1 (by omega)).trans c1 | exact hw2.1 | exact hw1.1 | fail "lk") rfl ?_
      refine z_ireti rfl (Nat.le_refl _) (Nat.le_refl _) ?_
      exact q1 hc5 (by omega) h2 hw2 ⟨hF2.1.trans hF1.1, fun x hx => (hF2.2 x hx).trans (hF1.2 x hx)⟩
    · refine z_push 26 (-6) rfl rfl rfl ?_
      refine z_ireti rfl (Nat.le_refl _) (Nat.le_refl _) ?_
      exact q6 hc5 (by omega)
  · refine z_push 10 (-2) rfl rfl rfl ?_
    refine z_ireti rfl (Nat.le_refl _) (Nat.le_refl _) ?_
    exact q2 hc5
set_option maxRecDepth 100000 in
theorem c_xfill {d : Nat} {h : mH} {A : Ab} {pad : Nat → Nat} {sp : Option Nat} {res wrk : Nat} {w : Int32} {Q : mP} (hC : CI h A pad sp res wrk) (hZ2 : A.res.1 < 3)  (q : ∀ h', CInv h' (sp_fill A w).2 → KpX h h' → Q (some (.int (sp_fill A w).1)) h') : mWP (d + 3) 118 [.ref 1, .int w] h Q := by
  obtain ⟨c1, cr, cp, cb, cu, cq, cs, ck, cru, cm⟩ := id hC
  obtain ⟨cp0, ⟨pf, cp1, cp2⟩, cp3, cp4, cp5⟩ := id cp
  have cq9 := cq.2.1
  have cb9 := cb.2.1
  have cu9 := cu.2.1
  refine z_in [some (.ref 1), some (.int w)] (by rfl) rfl rfl rfl ?_
  refine z_iload 1 rfl rfl rfl ?_
  by_cases hsw : (0 : Int) ≤ (w).toInt ∧ (w).toInt < 4
  · obtain ⟨j9, hj9, hx9⟩ : ∃ j9 : Nat, j9 < 4 ∧ (w).toInt = 0 + (j9 : Int) := ⟨((w).toInt - 0).toNat, by omega, by omega⟩
    have h9 : j9 = 0 ∨ j9 = 1 ∨ j9 = 2 ∨ j9 = 3 := by omega
    rcases h9 with rfl | rfl | rfl | rfl
    · refine z_swIn 32 rfl 0 (by omega) rfl ?_
      refine z_aload 33 rfl rfl rfl ?_
      refine z_get 36 rfl rfl (by first | exact c1 | exact (hF2.2 1 (by omega)).trans c1 | fail "lk") rfl ?_
      refine z_cs1 39 rfl rfl rfl (Nat.le_refl _) (Nat.le_refl _) ?_
      refine c_emptied cb (fun h1 hw1 hF1 => ?_)
      refine z_ireti rfl (Nat.le_refl _) (Nat.le_refl _) ?_
      have e9 : sp_fill A w = (nI A.bys.length, A.wBys []) := by
        rw [sp_fill, if_pos (by omega), if_pos (by omega)]
      rw [e9] at q
      exact q h1 (hC.by hw1 (fun x hx => hF1.2 x (by omega)) hF1.1).inv (KpX.of hF1 (by decide) (by decide))
    · refine z_swIn 40 rfl 1 (by omega) rfl ?_
      refine z_aload 41 rfl rfl rfl ?_
      refine z_get 44 rfl rfl (by first | exact c1 | exact (hF2.2 1 (by omega)).trans c1 | fail "lk") rfl ?_
      refine z_cs1 47 rfl rfl rfl (Nat.le_refl _) (Nat.le_refl _) ?_
      refine c_emptied cu (fun h1 hw1 hF1 => ?_)
      refine z_ireti rfl (Nat.le_refl _) (Nat.le_refl _) ?_
      have e9 : sp_fill A w = (nI A.uns.length, A.wUns []) := by
        rw [sp_fill, if_pos (by omega), if_neg (by omega), if_pos (by omega)]
      rw [e9] at q
      exact q h1 (hC.un hw1 (fun x hx => hF1.2 x (by omega)) hF1.1).inv (KpX.of hF1 (by decide) (by decide))
    · refine z_swIn 48 rfl 2 (by omega) rfl ?_
      refine z_aload 49 rfl rfl rfl ?_
      refine z_aload 50 rfl rfl rfl ?_
      refine z_aload 51 rfl rfl rfl ?_
      refine z_get 54 rfl rfl (by first | exact c1 | exact (hF2.2 1 (by omega)).trans c1 | fail "lk") rfl ?_
      refine z_push 55 (nI 2) rfl rfl rfl ?_
      refine z_cv2 58 rfl rfl (by first | exact c1 | exact (hF2.2 1 (by omega)).trans c1 | fail "lk") rfl (Nat.le_refl _) (Nat.le_refl _) ?_
      refine c_resultTo hC hZ2 (by decide) cb (by omega) (fun hn => ?_) (fun hy hn => ?_) (fun hy hn h2 hw2 hF2 => ?_)
      · skip
        refine z_cv1 61 rfl rfl (by first | exact c1 | exact (hF2.2 1 (by omega)).trans c1 | fail "lk") rfl (Nat.le_refl _) (Nat.le_refl _) ?_
        refine c_ansN hC (by decide) (fun h1 hC1 hX1 => ?_)
        refine z_ireti rfl (Nat.le_refl _) (Nat.le_refl _) ?_
        have e9 : sp_fill A w = (-2, A.tell) := by
          rw [sp_fill, if_pos (by omega), if_neg (by omega), if_neg (by omega), if_pos (by omega), if_neg hn]
        rw [e9] at q
        exact q h1 hC1.inv hX1
      · skip
        refine z_cv1 61 rfl rfl (by first | exact c1 | exact (hF2.2 1 (by omega)).trans c1 | fail "lk") rfl (Nat.le_refl _) (Nat.le_refl _) ?_
        refine c_ansN hC (by decide) (fun h1 hC1 hX1 => ?_)
        refine z_ireti rfl (Nat.le_refl _) (Nat.le_refl _) ?_
        have e9 : sp_fill A w = (-6, A.tell) := by
          rw [sp_fill, if_pos (by omega), if_neg (by omega), if_neg (by omega), if_pos (by omega), if_pos hy, if_neg (by omega)]
        rw [e9] at q
        exact q h1 hC1.inv hX1
      · skip
        refine z_cv1 61 rfl rfl (by first | exact c1 | exact (hF2.2 1 (by omega)).trans c1 | fail "lk") rfl (Nat.le_refl _) (Nat.le_refl _) ?_
        have hC2 := hC.by hw2 (fun x hx => hF2.2 x (by omega)) hF2.1
        refine c_ansP hC2 (by rw [nI_toInt (by omega)]; omega) ?_
        refine z_ireti rfl (Nat.le_refl _) (Nat.le_refl _) ?_
        have e9 : sp_fill A w = (nI A.res.2.length, A.wBys A.res.2) := by
          rw [sp_fill, if_pos (by omega), if_neg (by omega), if_neg (by omega), if_pos (by omega), if_pos hy, if_pos hn]
        rw [e9] at q
        exact q h2 hC2.inv (KpX.of hF2 (by decide) (by decide))
    · refine z_swIn 62 rfl 3 (by omega) rfl ?_
      refine z_aload 63 rfl rfl rfl ?_
      refine z_aload 64 rfl rfl rfl ?_
      refine z_aload 65 rfl rfl rfl ?_
      refine z_get 68 rfl rfl (by first | exact c1 | exact (hF2.2 1 (by omega)).trans c1 | fail "lk") rfl ?_
      refine z_push 69 (nI 1) rfl rfl rfl ?_
      refine z_cv2 72 rfl rfl (by first | exact c1 | exact (hF2.2 1 (by omega)).trans c1 | fail "lk") rfl (Nat.le_refl _) (Nat.le_refl _) ?_
      refine c_resultTo hC hZ2 (by decide) cu (by omega) (fun hn => ?_) (fun hy hn => ?_) (fun hy hn h2 hw2 hF2 => ?_)
      · skip
        refine z_cv1 75 rfl rfl (by first | exact c1 | exact (hF2.2 1 (by omega)).trans c1 | fail "lk") rfl (Nat.le_refl _) (Nat.le_refl _) ?_
        refine c_ansN hC (by decide) (fun h1 hC1 hX1 => ?_)
        refine z_ireti rfl (Nat.le_refl _) (Nat.le_refl _) ?_
        have e9 : sp_fill A w = (-2, A.tell) := by
          rw [sp_fill, if_pos (by omega), if_neg (by omega), if_neg (by omega), if_neg (by omega), if_neg hn]
        rw [e9] at q
        exact q h1 hC1.inv hX1
      · skip
        refine z_cv1 75 rfl rfl (by first | exact c1 | exact (hF2.2 1 (by omega)).trans c1 | fail "lk") rfl (Nat.le_refl _) (Nat.le_refl _) ?_
        refine c_ansN hC (by decide) (fun h1 hC1 hX1 => ?_)
        refine z_ireti rfl (Nat.le_refl _) (Nat.le_refl _) ?_
        have e9 : sp_fill A w = (-6, A.tell) := by
          rw [sp_fill, if_pos (by omega), if_neg (by omega), if_neg (by omega), if_neg (by omega), if_pos hy, if_neg (by omega)]
        rw [e9] at q
        exact q h1 hC1.inv hX1
      · skip
        refine z_cv1 75 rfl rfl (by first | exact c1 | exact (hF2.2 1 (by omega)).trans c1 | fail "lk") rfl (Nat.le_refl _) (Nat.le_refl _) ?_
        have hC2 := hC.un hw2 (fun x hx => hF2.2 x (by omega)) hF2.1
        refine c_ansP hC2 (by rw [nI_toInt (by omega)]; omega) ?_
        refine z_ireti rfl (Nat.le_refl _) (Nat.le_refl _) ?_
        have e9 : sp_fill A w = (nI A.res.2.length, A.wUns A.res.2) := by
          rw [sp_fill, if_pos (by omega), if_neg (by omega), if_neg (by omega), if_neg (by omega), if_pos hy, if_pos hn]
        rw [e9] at q
        exact q h2 hC2.inv (KpX.of hF2 (by decide) (by decide))
  · refine z_swOut rfl (by simp only [List.length]; omega) ?_
    refine z_aload 77 rfl rfl rfl ?_
    refine z_push 78 (-1) rfl rfl rfl ?_
    refine z_cv1 81 rfl rfl (by first | exact c1 | exact (hF2.2 1 (by omega)).trans c1 | fail "lk") rfl (Nat.le_refl _) (Nat.le_refl _) ?_
    refine c_ansN hC (by decide) (fun h1 hC1 hX1 => ?_)
    refine z_ireti rfl (Nat.le_refl _) (Nat.le_refl _) ?_
    have e9 : sp_fill A w = (-1, A.tell) := if_neg (by omega)
    rw [e9] at q
    exact q h1 hC1.inv hX1
theorem wshI {w : Int64} {m k : Nat} (hm : m = 8 ∨ m = 16) (hk : m * k < 64) (hk2 : k < 8) : mBop 3 (mLsh 2 w (nI (m * k))).toInt32 (nI (2 ^ m - 1)) = nI (byW w m k) := by
  have h2 : 2 ^ m ≤ 2 ^ 16 := Nat.pow_le_pow_right (by decide) (by omega)
  have h3 : byW w m k < 2 ^ m := Nat.mod_lt _ (Nat.two_pow_pos m)
  apply Int32.toBitVec_inj.mp
  apply BitVec.eq_of_toNat_eq
  rw [pk_tn (by omega)]
  have e0 : ∀ j, j < 64 → ((nI j).toInt64.toUInt64 &&& Int64.toUInt64 63).toNat = j := by decide +kernel
  have e2 : (mLsh 2 w (nI (m * k))).toBitVec.toNat = w.toBitVec.toNat / 2 ^ (m * k) := by
    show (w.toUInt64 >>> ((nI (m * k)).toInt64.toUInt64 &&& Int64.toUInt64 63)).toNat = _
    rw [UInt64.toNat_shiftRight, e0 _ (by omega), Nat.mod_eq_of_lt (by omega), Nat.shiftRight_eq_div_pow]
    rfl
  show ((mLsh 2 w (nI (m * k))).toInt32 &&& nI (2 ^ m - 1)).toBitVec.toNat = _
  rw [Int32.toBitVec_and, BitVec.toNat_and, Int64.toBitVec_toInt32, BitVec.signExtend_eq_setWidth_of_le _ (by decide), BitVec.toNat_setWidth, e2, pk_tn (by omega), Nat.and_two_pow_sub_one_eq_mod, Nat.mod_mod_of_dvd _ (Nat.pow_dvd_pow 2 (by omega))]
  rfl
set_option maxRecDepth 100000 in
theorem c_bytesIn {d : Nat} {h0 : mH} {A : Ab} {pad : Nat → Nat} {sp : Option Nat} {res wrk : Nat} {w : Int64} {n : Int32} {Q : mP} (hC : CI h0 A pad sp res wrk)  (q : ∀ h', CInv h' (sp_bytesIn A w n).2 → KpX h0 h' → Q (some (.int (sp_bytesIn A w n).1)) h') : mWP (d + 2) 116 [.ref 1, .long w, .int n] h0 Q := by
  obtain ⟨c1, cr, cp, cb, cu, cq, cs, ck, cru, cm⟩ := id hC
  obtain ⟨cp0, ⟨pf, cp1, cp2⟩, cp3, cp4, cp5⟩ := id cp
  have cl9 := cb.2.1
  refine z_in [some (.ref 1), some (.long w), none, some (.int n), none] (by rfl) rfl rfl rfl ?_
  refine z_iload 1 rfl rfl rfl ?_
  refine z_push 2 (nI 1) rfl rfl rfl ?_
  refine z_klt 5 rfl rfl (by omega) (fun hc2 => ?_) (fun hc2 => ?_)
  · refine z_aload 12 rfl rfl rfl ?_
    refine z_push 13 (-1) rfl rfl rfl ?_
    refine z_cv1 16 rfl rfl (by first | exact c1 | exact cb.1 | fail "lk") rfl (Nat.le_refl _) (Nat.le_refl _) ?_
    refine c_ansN hC (by decide) (fun h1 hC1 hX1 => ?_)
    refine z_ireti rfl (Nat.le_refl _) (Nat.le_refl _) ?_
    have e9 : sp_bytesIn A w n = (-1, A.tell) := if_neg (by omega)
    rw [e9] at q
    exact q h1 hC1.inv hX1
  · refine z_iload 6 rfl rfl rfl ?_
    refine z_push 8 (nI 8) rfl rfl rfl ?_
    refine z_kle 11 rfl rfl (by omega) (fun hc8 => ?_) (fun hc8 => ?_)
    · obtain ⟨N, hN, rfl, hn1, hn2⟩ := ix_of (x := n) (n := 9) (by omega)
      refine z_aload 18 rfl rfl rfl ?_
      refine z_get 21 rfl rfl (by first | exact c1 | exact cb.1 | fail "lk") rfl ?_
      refine z_get 24 rfl rfl (by first | exact c1 | exact cb.1 | fail "lk") rfl ?_
      refine z_iload 25 rfl rfl rfl ?_
      refine z_bop 26 _ rfl rfl (by first | with_reducible exact zb_0 _ _ | exact zd_0 _ _) ?_
      refine z_push 29 (nI 1000) rfl rfl rfl ?_
      refine z_nle 32 rfl rfl (by omega) (by omega) (fun hc29 => ?_) (fun hc29 => ?_)
      · have e9 : sp_bytesIn A w (nI N) = (nI (A.bys.length + N), A.wBys (bAdd w 8 N A.bys)) := by
          rw [sp_bytesIn, if_pos (by omega), if_pos (by omega), hn2]
        have loop : ∀ m l h, l.length + m ≤ 1000 → m ≤ 8 → bAdd w 8 N A.bys = bAdd w 8 m l → l.length + m = A.bys.length + N → RwAt h 3 1000 l → Fr 3 5 h0 h → mZ (d + 1) tk_116 0 0 Q 44 [some (.ref 1), some (.long w), none, some (.int (nI N)), some (.int (dnI m))] [] h 0 0 := by
          intro m
          induction m with
          | zero =>
            intro l h h1 h2 hb hl hw hF
            rw [show dnI 0 = -1 from rfl]
            refine z_iload 46 rfl rfl rfl ?_
            refine z_jlt 49 rfl rfl (fun _ => ?_) (fun h9 => absurd h9 (by decide))
            refine z_aload 76 rfl rfl rfl ?_
            refine z_get 79 rfl rfl (by first | exact c1 | exact cb.1 | exact (hF.2 1 (by omega)).trans c1 | exact hw.1 | fail "lk") rfl ?_
            refine z_get 82 rfl rfl (by first | exact c1 | exact cb.1 | exact (hF.2 1 (by omega)).trans c1 | exact hw.1 | fail "lk") rfl ?_
            refine z_ireti rfl (Nat.le_refl _) (Nat.le_refl _) ?_
            rw [e9, hb] at q
            have hl2 : l.length = A.bys.length + N := by omega
            rw [← hl2] at q
            exact q h (hC.by hw (fun x hx => hF.2 x (by omega)) hF.1).inv (KpX.of hF (by decide) (by decide))
          | succ m ih =>
            intro l h h1 h2 hb hl hw hF
            rw [show dnI (m + 1) = nI m from rfl]
            refine z_iload 46 rfl rfl rfl ?_
            refine z_zlt 49 rfl rfl (by omega) (fun h9 => absurd h9 (by omega)) (fun _ => ?_)
            refine z_aload 50 rfl rfl rfl ?_
            refine z_get 53 rfl rfl (by first | exact c1 | exact cb.1 | exact (hF.2 1 (by omega)).trans c1 | exact hw.1 | fail "lk") rfl ?_
            refine z_lload 54 rfl rfl rfl ?_
            refine z_push 56 (nI 8) rfl rfl rfl ?_
            refine z_iload 58 rfl rfl rfl ?_
            refine z_bop 59 _ rfl rfl (zb_2 _ _) ?_
            refine z_lsh 60 _ rfl rfl rfl ?_
            refine z_l2i 61 rfl rfl ?_
            refine z_push 64 (nI 255) rfl rfl rfl ?_
            refine z_bop 65 _ rfl rfl rfl ?_
            rw [show mBop 3 (mLsh 2 w (nI (8 * m))).toInt32 (nI 255) = nI (byW w 8 m) from wshI (by omega) (by omega) (by omega)]
            refine z_cv1 68 rfl rfl (by first | exact c1 | exact cb.1 | exact (hF.2 1 (by omega)).trans c1 | exact hw.1 | fail "lk") rfl (Nat.le_refl _) (Nat.le_refl _) ?_
            refine w_addN hw (by decide) (by omega) (fun h2 hw2 hF2 => ?_)
            refine z_pop 69 rfl rfl ?_
            refine z_iinc 72 _ rfl rfl rfl rfl (show nI m + Int32.ofInt (-1) = dnI m from by cases m with | zero => rfl | succ m => exact pk_m1 m) ?_
            refine z_goto rfl ?_
            exact ih (l ++ [byW w 8 m]) h2 (by rw [List.length_append, List.length_singleton]; omega) (by omega) hb (by rw [List.length_append, List.length_singleton]; omega) hw2 ⟨hF2.1.trans hF.1, fun x hx => (hF2.2 x hx).trans (hF.2 x hx)⟩
        refine z_iload 40 rfl rfl rfl ?_
        refine z_push 41 (nI 1) rfl rfl rfl ?_
        refine z_bop 42 _ rfl rfl (by first | with_reducible exact zb_1 (by omega) | exact zd_1 _ _) ?_
        refine z_istore 44 rfl rfl rfl rfl ?_
        rw [show nI (N - 1) = dnI N from by cases N with | zero => exact absurd hn1 (by omega) | succ N => rfl]
        exact loop N A.bys h0 (by omega) (by omega) rfl rfl cb Fr.rfl
      · refine z_aload 33 rfl rfl rfl ?_
        refine z_push 35 (-6) rfl rfl rfl ?_
        refine z_cv1 38 rfl rfl (by first | exact c1 | exact cb.1 | fail "lk") rfl (Nat.le_refl _) (Nat.le_refl _) ?_
        refine c_ansN hC (by decide) (fun h1 hC1 hX1 => ?_)
        refine z_ireti rfl (Nat.le_refl _) (Nat.le_refl _) ?_
        have e9 : sp_bytesIn A w (nI N) = (-6, A.tell) := by rw [sp_bytesIn, if_pos (by omega), if_neg (by omega)]
        rw [e9] at q
        exact q h1 hC1.inv hX1
    · refine z_aload 12 rfl rfl rfl ?_
      refine z_push 13 (-1) rfl rfl rfl ?_
      refine z_cv1 16 rfl rfl (by first | exact c1 | exact cb.1 | fail "lk") rfl (Nat.le_refl _) (Nat.le_refl _) ?_
      refine c_ansN hC (by decide) (fun h1 hC1 hX1 => ?_)
      refine z_ireti rfl (Nat.le_refl _) (Nat.le_refl _) ?_
      have e9 : sp_bytesIn A w n = (-1, A.tell) := if_neg (by omega)
      rw [e9] at q
      exact q h1 hC1.inv hX1
set_option maxRecDepth 100000 in
theorem c_unitsIn {d : Nat} {h0 : mH} {A : Ab} {pad : Nat → Nat} {sp : Option Nat} {res wrk : Nat} {w : Int64} {n : Int32} {Q : mP} (hC : CI h0 A pad sp res wrk)  (q : ∀ h', CInv h' (sp_unitsIn A w n).2 → KpX h0 h' → Q (some (.int (sp_unitsIn A w n).1)) h') : mWP (d + 2) 117 [.ref 1, .long w, .int n] h0 Q := by
  obtain ⟨c1, cr, cp, cb, cu, cq, cs, ck, cru, cm⟩ := id hC
  obtain ⟨cp0, ⟨pf, cp1, cp2⟩, cp3, cp4, cp5⟩ := id cp
  have cl9 := cu.2.1
  refine z_in [some (.ref 1), some (.long w), none, some (.int n), none] (by rfl) rfl rfl rfl ?_
  refine z_iload 1 rfl rfl rfl ?_
  refine z_push 2 (nI 1) rfl rfl rfl ?_
  refine z_klt 5 rfl rfl (by omega) (fun hc2 => ?_) (fun hc2 => ?_)
  · refine z_aload 11 rfl rfl rfl ?_
    refine z_push 12 (-1) rfl rfl rfl ?_
    refine z_cv1 15 rfl rfl (by first | exact c1 | exact cu.1 | fail "lk") rfl (Nat.le_refl _) (Nat.le_refl _) ?_
    refine c_ansN hC (by decide) (fun h1 hC1 hX1 => ?_)
    refine z_ireti rfl (Nat.le_refl _) (Nat.le_refl _) ?_
    have e9 : sp_unitsIn A w n = (-1, A.tell) := if_neg (by omega)
    rw [e9] at q
    exact q h1 hC1.inv hX1
  · refine z_iload 6 rfl rfl rfl ?_
    refine z_push 7 (nI 4) rfl rfl rfl ?_
    refine z_kle 10 rfl rfl (by omega) (fun hc7 => ?_) (fun hc7 => ?_)
    · obtain ⟨N, hN, rfl, hn1, hn2⟩ := ix_of (x := n) (n := 9) (by omega)
      refine z_aload 17 rfl rfl rfl ?_
      refine z_get 20 rfl rfl (by first | exact c1 | exact cu.1 | fail "lk") rfl ?_
      refine z_get 23 rfl rfl (by first | exact c1 | exact cu.1 | fail "lk") rfl ?_
      refine z_iload 24 rfl rfl rfl ?_
      refine z_bop 25 _ rfl rfl (by first | with_reducible exact zb_0 _ _ | exact zd_0 _ _) ?_
      refine z_push 28 (nI 1000) rfl rfl rfl ?_
      refine z_nle 31 rfl rfl (by omega) (by omega) (fun hc28 => ?_) (fun hc28 => ?_)
      · have e9 : sp_unitsIn A w (nI N) = (nI (A.uns.length + N), A.wUns (bAdd w 16 N A.uns)) := by
          rw [sp_unitsIn, if_pos (by omega), if_pos (by omega), hn2]
        have loop : ∀ m l h, l.length + m ≤ 1000 → m ≤ 4 → bAdd w 16 N A.uns = bAdd w 16 m l → l.length + m = A.uns.length + N → RwAt h 5 1000 l → Fr 5 7 h0 h → mZ (d + 1) tk_117 0 0 Q 43 [some (.ref 1), some (.long w), none, some (.int (nI N)), some (.int (dnI m))] [] h 0 0 := by
          intro m
          induction m with
          | zero =>
            intro l h h1 h2 hb hl hw hF
            rw [show dnI 0 = -1 from rfl]
            refine z_iload 45 rfl rfl rfl ?_
            refine z_jlt 48 rfl rfl (fun _ => ?_) (fun h9 => absurd h9 (by decide))
            refine z_aload 74 rfl rfl rfl ?_
            refine z_get 77 rfl rfl (by first | exact c1 | exact cu.1 | exact (hF.2 1 (by omega)).trans c1 | exact hw.1 | fail "lk") rfl ?_
            refine z_get 80 rfl rfl (by first | exact c1 | exact cu.1 | exact (hF.2 1 (by omega)).trans c1 | exact hw.1 | fail "lk") rfl ?_
            refine z_ireti rfl (Nat.le_refl _) (Nat.le_refl _) ?_
            rw [e9, hb] at q
            have hl2 : l.length = A.uns.length + N := by omega
            rw [← hl2] at q
            exact q h (hC.un hw (fun x hx => hF.2 x (by omega)) hF.1).inv (KpX.of hF (by decide) (by decide))
          | succ m ih =>
            intro l h h1 h2 hb hl hw hF
            rw [show dnI (m + 1) = nI m from rfl]
            refine z_iload 45 rfl rfl rfl ?_
            refine z_zlt 48 rfl rfl (by omega) (fun h9 => absurd h9 (by omega)) (fun _ => ?_)
            refine z_aload 49 rfl rfl rfl ?_
            refine z_get 52 rfl rfl (by first | exact c1 | exact cu.1 | exact (hF.2 1 (by omega)).trans c1 | exact hw.1 | fail "lk") rfl ?_
            refine z_lload 53 rfl rfl rfl ?_
            refine z_push 55 (nI 16) rfl rfl rfl ?_
            refine z_iload 57 rfl rfl rfl ?_
            refine z_bop 58 _ rfl rfl (zb_2 _ _) ?_
            refine z_lsh 59 _ rfl rfl rfl ?_
            refine z_l2i 60 rfl rfl ?_
            refine z_push 62 (nI 65535) rfl rfl rfl ?_
            refine z_bop 63 _ rfl rfl rfl ?_
            rw [show mBop 3 (mLsh 2 w (nI (16 * m))).toInt32 (nI 65535) = nI (byW w 16 m) from wshI (by omega) (by omega) (by omega)]
            refine z_cv1 66 rfl rfl (by first | exact c1 | exact cu.1 | exact (hF.2 1 (by omega)).trans c1 | exact hw.1 | fail "lk") rfl (Nat.le_refl _) (Nat.le_refl _) ?_
            refine w_addN hw (by decide) (by omega) (fun h2 hw2 hF2 => ?_)
            refine z_pop 67 rfl rfl ?_
            refine z_iinc 70 _ rfl rfl rfl rfl (show nI m + Int32.ofInt (-1) = dnI m from by cases m with | zero => rfl | succ m => exact pk_m1 m) ?_
            refine z_goto rfl ?_
            exact ih (l ++ [byW w 16 m]) h2 (by rw [List.length_append, List.length_singleton]; omega) (by omega) hb (by rw [List.length_append, List.length_singleton]; omega) hw2 ⟨hF2.1.trans hF.1, fun x hx => (hF2.2 x hx).trans (hF.2 x hx)⟩
        refine z_iload 39 rfl rfl rfl ?_
        refine z_push 40 (nI 1) rfl rfl rfl ?_
        refine z_bop 41 _ rfl rfl (by first | with_reducible exact zb_1 (by omega) | exact zd_1 _ _) ?_
        refine z_istore 43 rfl rfl rfl rfl ?_
        rw [show nI (N - 1) = dnI N from by cases N with | zero => exact absurd hn1 (by omega) | succ N => rfl]
        exact loop N A.uns h0 (by omega) (by omega) rfl rfl cu Fr.rfl
      · refine z_aload 32 rfl rfl rfl ?_
        refine z_push 34 (-6) rfl rfl rfl ?_
        refine z_cv1 37 rfl rfl (by first | exact c1 | exact cu.1 | fail "lk") rfl (Nat.le_refl _) (Nat.le_refl _) ?_
        refine c_ansN hC (by decide) (fun h1 hC1 hX1 => ?_)
        refine z_ireti rfl (Nat.le_refl _) (Nat.le_refl _) ?_
        have e9 : sp_unitsIn A w (nI N) = (-6, A.tell) := by rw [sp_unitsIn, if_pos (by omega), if_neg (by omega)]
        rw [e9] at q
        exact q h1 hC1.inv hX1
    · refine z_aload 11 rfl rfl rfl ?_
      refine z_push 12 (-1) rfl rfl rfl ?_
      refine z_cv1 15 rfl rfl (by first | exact c1 | exact cu.1 | fail "lk") rfl (Nat.le_refl _) (Nat.le_refl _) ?_
      refine c_ansN hC (by decide) (fun h1 hC1 hX1 => ?_)
      refine z_ireti rfl (Nat.le_refl _) (Nat.le_refl _) ?_
      have e9 : sp_unitsIn A w n = (-1, A.tell) := if_neg (by omega)
      rw [e9] at q
      exact q h1 hC1.inv hX1
