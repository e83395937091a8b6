/-! the class: machine, coverage, code -/
theorem cf_ct {α : Type} (g : Int32 → α) {l : List Pg} {p : Int32} {Y : α × Ab} {T : Ab} (h : ¬ cfI l p = 0) : (if 0 ≤ p.toInt ∧ p.toInt < l.length then (if pgC l p.toInt.toNat = true then Y else (g (-5), T)) else (g (-1), T)) = (g (cfI l p), T) := by
  unfold cfI at h ⊢
  by_cases e1 : 0 ≤ p.toInt ∧ p.toInt < l.length
  · rw [if_pos e1] at h ⊢
    rw [if_pos e1]
    by_cases e2 : pgC l p.toInt.toNat = true
    · rw [if_pos e2] at h; exact absurd rfl h
    · rw [if_neg e2, if_neg e2]
  · rw [if_neg e1, if_neg e1]
theorem cf_sp {l : List Pg} {p : Int32} {Y : Int32 × Ab} {T : Ab} (h : ¬ cfI l p = 0) : (if 0 ≤ p.toInt ∧ p.toInt < l.length then (if pgC l p.toInt.toNat = true then Y else (-5, T)) else (-1, T)) = (cfI l p, T) := cf_ct (fun x => x) h
theorem cf_0 {l : List Pg} {p : Int32} (h : cfI l p = 0) : (0 ≤ p.toInt ∧ p.toInt < l.length) ∧ pgC l p.toInt.toNat = true := by
  unfold cfI at h
  by_cases e1 : 0 ≤ p.toInt ∧ p.toInt < l.length
  · rw [if_pos e1] at h
    by_cases e2 : pgC l p.toInt.toNat = true
    · exact ⟨e1, e2⟩
    · rw [if_neg e2] at h; exact absurd h (by decide)
  · rw [if_neg e1] at h; exact absurd h (by decide)
theorem c_pointsWithinC {d : Nat} {h : mH} {p K f t : Nat} {E : List En} {H : List Sh} {Q : mP} (hP : PgC h p K E H) (hW : TbW E H) (hft : f ≤ t) (ht : t ≤ 1114111) (q : Q (some (.int (nI (cvC K E (t + 1 - f) f 0)))) h) : mWP (d + 2) 54 [.ref p, .int (nI f), .int (nI t)] h Q := by
  rcases hP with ⟨rfl, m, rc, hd, nx, od, T, N, A, S, a1, a2, a3, a4, a5, a6⟩ | ⟨hK, hK4, _, _, m, T, N, A, S, a1, a2⟩
  · exact c_pointsWithin a1.1 a1.2.1 a2 a5 (fun k hk => nPt_lt (hW.2.2.1 k hk).2.2.2.2) (fun k hk => (hW.2.2.1 k hk).2.2.2.2) hft ht q
  · exact c_pointsWithinK a1 hK hK4 hft ht q
set_option maxRecDepth 100000 in
theorem c_machine {d : Nat} {h : mH} {A : Ab} {pad : Nat → Nat} {sp : Option Nat} {res wrk : Nat} {dd w : Int32} {Q : mP} (hC : CI h A pad sp res wrk) (hmd : ∀ D m, A.mcs D = some m → m.2.2.2.2.2.2.2.1 ≤ 2)  (q : ∀ h', CInv h' (sp_machine A dd w).2 → KpX h h' → Q (some (.int (sp_machine A dd w).1)) h') : mWP (d + 2) 129 [.ref 1, .int dd, .int w] h Q := by
  obtain ⟨c1, cr, cp, cb, cu, cq, cs, ck, cru, cm⟩ := id hC
  obtain ⟨cp0, ⟨pf, cp1, cp2⟩, cp3, cp4, cp5⟩ := id cp
  obtain ⟨⟨mf, cm1, cm2⟩, cm3⟩ := id cm
  refine z_in [some (.ref 1), some (.int dd), some (.int w), none] (by rfl) rfl rfl rfl ?_
  refine z_iload 1 rfl rfl rfl ?_
  refine z_cs1 4 rfl rfl rfl (Nat.le_refl _) (Nat.le_refl _) ?_
  refine c_isMachine ?_
  first | refine z_bne 7 rfl rfl (fun hc4 => ?_) (fun hc4 => ?_)
  · obtain ⟨D, hD, rfl, hp1, hp2⟩ := jSt_ix hc4
    have cmD := cm3 D hD
    refine z_aload 14 rfl rfl rfl ?_
    refine z_get 17 rfl rfl (by first | exact c1 | exact cm1 | exact y1 | exact y5.1 | exact y6.1 | fail "lk") rfl ?_
    refine z_iload 18 rfl rfl rfl ?_
    refine z_qld 19 rfl rfl (by first | exact c1 | exact cm1 | exact y1 | exact y5.1 | exact y6.1 | fail "lk") (by decide) rfl (by omega) (by omega) (cm2 D hD) ?_
    rcases hmm : A.mcs D with _ | m
    · rw [hmm] at cmD
      obtain ⟨p9, wr9, rule9, sr9, pn9, sw9, ks9, fed9, pl9, fi9, y1, hx1⟩ := cmD
      refine z_astore 20 rfl rfl rfl rfl ?_
      refine z_aload 21 rfl rfl rfl ?_
      refine z_get 24 rfl rfl (by first | exact c1 | exact cm1 | exact y1 | exact y5.1 | exact y6.1 | fail "lk") rfl ?_
      refine z_push 25 (-1) rfl rfl rfl ?_
      refine z_cne 28 rfl rfl (fun h9 => absurd h9 (by decide)) (fun _ => ?_)
      refine z_aload 29 rfl rfl rfl ?_
      refine z_push 31 (-2) rfl rfl rfl ?_
      refine z_cv1 34 rfl rfl (by first | exact c1 | exact cm1 | exact y1 | exact y5.1 | exact y6.1 | fail "lk") rfl (Nat.le_refl _) (Nat.le_refl _) ?_
      refine c_ansN hC (by decide) (fun h1 hC1 hX1 => ?_)
      refine z_ireti rfl (Nat.le_refl _) (Nat.le_refl _) ?_
      have e9 : sp_machine A (nI D) w = (-2, A.tell) := by
        rw [sp_machine, if_pos (by omega), hp2, hmm]
      rw [e9] at q
      exact q h1 hC1.inv hX1
    · rw [hmm] at cmD
      obtain ⟨sr9, sw9, pl9, fi9, ⟨y1, y2, ⟨bl, y3⟩, y4, ⟨mal, y5⟩, l, u, y6⟩, hx2, hx3⟩ := cmD
      have hmd9 := hmd D m hmm
      refine z_astore 20 rfl rfl rfl rfl ?_
      refine z_aload 21 rfl rfl rfl ?_
      refine z_get 24 rfl rfl (by first | exact c1 | exact cm1 | exact y1 | exact y5.1 | exact y6.1 | fail "lk") rfl ?_
      refine z_push 25 (-1) rfl rfl rfl ?_
      refine z_cne 28 rfl rfl (fun _ => ?_) (fun h9 => absurd h9 (nI_nm1 (by omega)))
      refine z_iload 36 rfl rfl rfl ?_
      by_cases hsw : (0 : Int) ≤ (w).toInt ∧ (w).toInt < 5
      · obtain ⟨j9, hj9, hx9⟩ : ∃ j9 : Nat, j9 < 5 ∧ (w).toInt = 0 + (j9 : Int) := ⟨((w).toInt - 0).toNat, by omega, by omega⟩
        have h9 : j9 = 0 ∨ j9 = 1 ∨ j9 = 2 ∨ j9 = 3 ∨ j9 = 4 := by omega
        rcases h9 with rfl | rfl | rfl | rfl | rfl
        · refine z_swIn 72 rfl 0 (by omega) rfl ?_
          refine z_aload 73 rfl rfl rfl ?_
          refine z_get 76 rfl rfl (by first | exact c1 | exact cm1 | exact y1 | exact y5.1 | exact y6.1 | fail "lk") rfl ?_
          refine z_ireti rfl (Nat.le_refl _) (Nat.le_refl _) ?_
          have e9 : sp_machine A (nI D) w = (nI ([m.2.2.2.2.2.2.2.2.length, m.2.2.2.1, m.2.2.2.2.1, m.2.2.2.2.2.1.length, m.2.2.2.2.2.2.2.1].getD 0 0), A) := by
            rw [sp_machine, if_pos (by omega), hp2, hmm]
            simp only
            rw [if_pos (by omega), show w.toInt.toNat = 0 from by omega]
          rw [e9] at q
          exact q h hC.inv KpX.rfl
        · refine z_swIn 77 rfl 1 (by omega) rfl ?_
          refine z_aload 78 rfl rfl rfl ?_
          refine z_get 81 rfl rfl (by first | exact c1 | exact cm1 | exact y1 | exact y5.1 | exact y6.1 | fail "lk") rfl ?_
          first | refine z_beq 84 rfl rfl (fun hc81 => ?_) (fun hc81 => ?_)
          · refine z_aload 95 rfl rfl rfl ?_
            refine z_get 98 rfl rfl (by first | exact c1 | exact cm1 | exact y1 | exact y5.1 | exact y6.1 | fail "lk") rfl ?_
            refine z_get 101 rfl rfl (by first | exact c1 | exact cm1 | exact y1 | exact y5.1 | exact y6.1 | fail "lk") rfl ?_
            refine z_ireti rfl (Nat.le_refl _) (Nat.le_refl _) ?_
            have e9 : sp_machine A (nI D) w = (nI ([m.2.2.2.2.2.2.2.2.length, m.2.2.2.1, m.2.2.2.2.1, m.2.2.2.2.2.1.length, m.2.2.2.2.2.2.2.1].getD 1 0), A) := by
              rw [sp_machine, if_pos (by omega), hp2, hmm]
              simp only
              rw [if_pos (by omega), show w.toInt.toNat = 1 from by omega]
            rw [(hx3 hc81).1]
            rw [e9] at q
            exact q h hC.inv KpX.rfl
          · refine z_aload 85 rfl rfl rfl ?_
            refine z_get 88 rfl rfl (by first | exact c1 | exact cm1 | exact y1 | exact y5.1 | exact y6.1 | fail "lk") rfl ?_
            refine z_get 91 rfl rfl (by first | exact c1 | exact cm1 | exact y1 | exact y5.1 | exact y6.1 | fail "lk") rfl ?_
            refine z_goto rfl ?_
            refine z_ireti rfl (Nat.le_refl _) (Nat.le_refl _) ?_
            have e9 : sp_machine A (nI D) w = (nI ([m.2.2.2.2.2.2.2.2.length, m.2.2.2.1, m.2.2.2.2.1, m.2.2.2.2.2.1.length, m.2.2.2.2.2.2.2.1].getD 1 0), A) := by
              rw [sp_machine, if_pos (by omega), hp2, hmm]
              simp only
              rw [if_pos (by omega), show w.toInt.toNat = 1 from by omega]
            rw [(hx2 hc81).1]
            rw [e9] at q
            exact q h hC.inv KpX.rfl
        · refine z_swIn 102 rfl 2 (by omega) rfl ?_
          refine z_aload 103 rfl rfl rfl ?_
          refine z_get 106 rfl rfl (by first | exact c1 | exact cm1 | exact y1 | exact y5.1 | exact y6.1 | fail "lk") rfl ?_
          refine z_get 109 rfl rfl (by first | exact c1 | exact cm1 | exact y1 | exact y5.1 | exact y6.1 | fail "lk") rfl ?_
          refine z_ireti rfl (Nat.le_refl _) (Nat.le_refl _) ?_
          have e9 : sp_machine A (nI D) w = (nI ([m.2.2.2.2.2.2.2.2.length, m.2.2.2.1, m.2.2.2.2.1, m.2.2.2.2.2.1.length, m.2.2.2.2.2.2.2.1].getD 2 0), A) := by
            rw [sp_machine, if_pos (by omega), hp2, hmm]
            simp only
            rw [if_pos (by omega), show w.toInt.toNat = 2 from by omega]
          rw [e9] at q
          exact q h hC.inv KpX.rfl
        · refine z_swIn 110 rfl 3 (by omega) rfl ?_
          refine z_aload 111 rfl rfl rfl ?_
          refine z_get 114 rfl rfl (by first | exact c1 | exact cm1 | exact y1 | exact y5.1 | exact y6.1 | fail "lk") rfl ?_
          refine z_ireti rfl (Nat.le_refl _) (Nat.le_refl _) ?_
          have e9 : sp_machine A (nI D) w = (nI ([m.2.2.2.2.2.2.2.2.length, m.2.2.2.1, m.2.2.2.2.1, m.2.2.2.2.2.1.length, m.2.2.2.2.2.2.2.1].getD 3 0), A) := by
            rw [sp_machine, if_pos (by omega), hp2, hmm]
            simp only
            rw [if_pos (by omega), show w.toInt.toNat = 3 from by omega]
          rw [e9] at q
          exact q h hC.inv KpX.rfl
        · refine z_swIn 115 rfl 4 (by omega) rfl ?_
          refine z_aload 116 rfl rfl rfl ?_
          refine z_get 119 rfl rfl (by first | exact c1 | exact cm1 | exact y1 | exact y5.1 | exact y6.1 | fail "lk") rfl ?_
          refine z_ireti rfl (Nat.le_refl _) (Nat.le_refl _) ?_
          have e9 : sp_machine A (nI D) w = (nI ([m.2.2.2.2.2.2.2.2.length, m.2.2.2.1, m.2.2.2.2.1, m.2.2.2.2.2.1.length, m.2.2.2.2.2.2.2.1].getD 4 0), A) := by
            rw [sp_machine, if_pos (by omega), hp2, hmm]
            simp only
            rw [if_pos (by omega), show w.toInt.toNat = 4 from by omega]
          rw [e9] at q
          exact q h hC.inv KpX.rfl
      · refine z_swOut rfl (by simp only [List.length]; omega) ?_
        refine z_aload 121 rfl rfl rfl ?_
        refine z_push 122 (-1) rfl rfl rfl ?_
        refine z_cv1 125 rfl rfl (by first | exact c1 | exact cm1 | exact y1 | exact y5.1 | exact y6.1 | fail "lk") rfl (Nat.le_refl _) (Nat.le_refl _) ?_
        refine c_ansN hC (by decide) (fun h1 hC1 hX1 => ?_)
        refine z_ireti rfl (Nat.le_refl _) (Nat.le_refl _) ?_
        have e9 : sp_machine A (nI D) w = (-1, A.tell) := by
          rw [sp_machine, if_pos (by omega), hp2, hmm]
          simp only
          rw [if_neg (by omega)]
        rw [e9] at q
        exact q h1 hC1.inv hX1
  · refine z_aload 8 rfl rfl rfl ?_
    refine z_push 9 (-1) rfl rfl rfl ?_
    refine z_cv1 12 rfl rfl (by first | exact c1 | exact cm1 | exact y1 | exact y5.1 | exact y6.1 | fail "lk") rfl (Nat.le_refl _) (Nat.le_refl _) ?_
    refine c_ansN hC (by decide) (fun h1 hC1 hX1 => ?_)
    refine z_ireti rfl (Nat.le_refl _) (Nat.le_refl _) ?_
    have e9 : sp_machine A dd w = (-1, A.tell) := if_neg (by have h8 := of_decide_eq_false hc4; omega)
    rw [e9] at q
    exact q h1 hC1.inv hX1
set_option maxRecDepth 100000 in
theorem c_coverage {d : Nat} {h : mH} {A : Ab} {pad : Nat → Nat} {sp : Option Nat} {res wrk : Nat} {p f t : Int32} {Q : mP} (hC : CI h A pad sp res wrk) (hB : PgB A.pgs)  (q : ∀ h', CInv h' (sp_coverage A p f t).2 → KpX h h' → Q (some (.int (sp_coverage A p f t).1)) h') : mWP (d + 3) 130 [.ref 1, .int p, .int f, .int t] h Q := by
  obtain ⟨c1, cr, cp, cb, cu, cq, cs, ck, cru, cm⟩ := id hC
  obtain ⟨cp0, ⟨pf, cp1, cp2⟩, cp3, cp4, cp5⟩ := id cp
  refine z_in [some (.ref 1), some (.int p), some (.int f), some (.int t), none] (by rfl) rfl rfl rfl ?_
  refine z_aload 1 rfl rfl rfl ?_
  refine z_iload 2 rfl rfl rfl ?_
  refine z_cv1 5 rfl rfl (by first | exact c1 | exact cp1 | exact hpg | fail "lk") rfl (Nat.le_refl _) (Nat.le_refl _) ?_
  refine c_closedFinding hC ?_
  refine z_istore 7 rfl rfl rfl rfl ?_
  refine z_iload 9 rfl rfl rfl ?_
  first | refine z_ieq 12 rfl rfl (fun hc9 => ?_) (fun hc9 => ?_)
  · obtain ⟨hr, hcl⟩ := cf_0 hc9
    obtain ⟨P, hP, rfl, hp1, hp2⟩ := ixP cp0 (inR_t hr)
    rw [hp2] at hcl
    obtain ⟨m9, rc9, hpg⟩ := hC.pg hP
    refine z_iload 20 rfl rfl rfl ?_
    first | refine z_jlt 23 rfl rfl (fun hc20 => ?_) (fun hc20 => ?_)
    · refine z_aload 45 rfl rfl rfl ?_
      refine z_push 46 (-1) rfl rfl rfl ?_
      refine z_cv1 49 rfl rfl (by first | exact c1 | exact cp1 | exact hpg | fail "lk") rfl (Nat.le_refl _) (Nat.le_refl _) ?_
      refine c_ansN hC (by decide) (fun h1 hC1 hX1 => ?_)
      refine z_ireti rfl (Nat.le_refl _) (Nat.le_refl _) ?_
      have e9 : sp_coverage A (nI P) f t = (-1, A.tell) := by
        rw [sp_coverage, if_pos hr, hp2, if_pos hcl, if_neg (by omega)]
      rw [e9] at q
      exact q h1 hC1.inv hX1
    · refine z_iload 24 rfl rfl rfl ?_
      refine z_push 27 (nI 1114111) rfl rfl rfl ?_
      refine z_kgt 30 rfl rfl (by omega) (fun hc27 => ?_) (fun hc27 => ?_)
      · refine z_aload 45 rfl rfl rfl ?_
        refine z_push 46 (-1) rfl rfl rfl ?_
        refine z_cv1 49 rfl rfl (by first | exact c1 | exact cp1 | exact hpg | fail "lk") rfl (Nat.le_refl _) (Nat.le_refl _) ?_
        refine c_ansN hC (by decide) (fun h1 hC1 hX1 => ?_)
        refine z_ireti rfl (Nat.le_refl _) (Nat.le_refl _) ?_
        have e9 : sp_coverage A (nI P) f t = (-1, A.tell) := by
          rw [sp_coverage, if_pos hr, hp2, if_pos hcl, if_neg (by omega)]
        rw [e9] at q
        exact q h1 hC1.inv hX1
      · refine z_iload 31 rfl rfl rfl ?_
        refine z_iload 32 rfl rfl rfl ?_
        refine z_tlt 35 rfl rfl (fun hc32 => ?_) (fun hc32 => ?_)
        · refine z_aload 45 rfl rfl rfl ?_
          refine z_push 46 (-1) rfl rfl rfl ?_
          refine z_cv1 49 rfl rfl (by first | exact c1 | exact cp1 | exact hpg | fail "lk") rfl (Nat.le_refl _) (Nat.le_refl _) ?_
          refine c_ansN hC (by decide) (fun h1 hC1 hX1 => ?_)
          refine z_ireti rfl (Nat.le_refl _) (Nat.le_refl _) ?_
          have e9 : sp_coverage A (nI P) f t = (-1, A.tell) := by
            rw [sp_coverage, if_pos hr, hp2, if_pos hcl, if_neg (by omega)]
          rw [e9] at q
          exact q h1 hC1.inv hX1
        · obtain ⟨F9, hF9, rfl, hf1, hf2⟩ := ix_of (x := f) (n := 1114112) (by omega)
          obtain ⟨T9, hT9, rfl, ht1, ht2⟩ := ix_of (x := t) (n := 1114112) (by omega)
          refine z_iload 36 rfl rfl rfl ?_
          refine z_iload 37 rfl rfl rfl ?_
          refine z_bop 38 _ rfl rfl (by first | with_reducible exact zb_1 (by omega) | exact zd_1 _ _) ?_
          refine z_push 41 (nI 65536) rfl rfl rfl ?_
          refine z_nlt 44 rfl rfl (by omega) (by omega) (fun hc41 => ?_) (fun hc41 => ?_)
          · refine z_aload 51 rfl rfl rfl ?_
            refine z_get 54 rfl rfl (by first | exact c1 | exact cp1 | exact hpg | fail "lk") rfl ?_
            refine z_iload 55 rfl rfl rfl ?_
            refine z_qld 56 rfl rfl (by first | exact c1 | exact cp1 | exact hpg | fail "lk") (by decide) rfl (by omega) (by omega) (cp2 P hP) ?_
            refine z_iload 57 rfl rfl rfl ?_
            refine z_iload 58 rfl rfl rfl ?_
            refine z_cv2 61 rfl rfl (by first | exact c1 | exact cp1 | exact hpg | fail "lk") rfl (Nat.le_refl _) (Nat.le_refl _) ?_
            refine c_pointsWithinC (PgR.cl (by rw [← hcl]; exact (cp3 P hP).2.2)) (hB P hP) (by omega) (by omega) ?_
            refine z_ireti rfl (Nat.le_refl _) (Nat.le_refl _) ?_
            have e9 : sp_coverage A (nI P) (nI F9) (nI T9) = (nI (cvC (pgK A.pgs P) (pgE A.pgs P) (T9 + 1 - F9) F9 0), A) := by
              rw [sp_coverage, if_pos hr, hp2, if_pos hcl, if_pos (by omega), hf2, ht2]
            rw [e9] at q
            exact q h hC.inv KpX.rfl
          · refine z_aload 45 rfl rfl rfl ?_
            refine z_push 46 (-1) rfl rfl rfl ?_
            refine z_cv1 49 rfl rfl (by first | exact c1 | exact cp1 | exact hpg | fail "lk") rfl (Nat.le_refl _) (Nat.le_refl _) ?_
            refine c_ansN hC (by decide) (fun h1 hC1 hX1 => ?_)
            refine z_ireti rfl (Nat.le_refl _) (Nat.le_refl _) ?_
            have e9 : sp_coverage A (nI P) (nI F9) (nI T9) = (-1, A.tell) := by
              rw [sp_coverage, if_pos hr, hp2, if_pos hcl, if_neg (by omega)]
            rw [e9] at q
            exact q h1 hC1.inv hX1
  · refine z_aload 13 rfl rfl rfl ?_
    refine z_iload 15 rfl rfl rfl ?_
    refine z_cv1 18 rfl rfl (by first | exact c1 | exact cp1 | exact hpg | fail "lk") rfl (Nat.le_refl _) (Nat.le_refl _) ?_
    refine c_ansN hC (cfI_n hc9) (fun h1 hC1 hX1 => ?_)
    refine z_ireti rfl (Nat.le_refl _) (Nat.le_refl _) ?_
    have e9 : sp_coverage A p f t = (cfI A.pgs p, A.tell) := cf_sp hc9
    rw [e9] at q
    exact q h1 hC1.inv hX1
theorem c_slotOfC0 {d : Nat} {h : mH} {p x : Nat} {E : List En} {H : List Sh} {Q : mP} (hP : PgC0 h p E H) (hW : TbW E H) (hx : x < 1114112) (q : Q (some (.int (oI (ffd (pf2 E x) E.length 0)))) h) : mWP (d + 2) 50 [.ref p, .int (nI x)] h Q := by
  obtain ⟨m, rc, hd, nx, od, T, N, A, S, a1, a2, a3, a4, a5, a6⟩ := hP
  exact c_Pg_slotOf a1.1 a1.2.1 a2 a5 (fun k hk => nPt_lt (hW.2.2.1 k hk).2.2.2.2) hx q
theorem c_textAtC0 {d : Nat} {h : mH} {p k : Nat} {E : List En} {H : List Sh} {Q : mP} (hP : PgC0 h p E H) (hW : TbW E H) (hk : k < E.length) (q : Q (some (.long (LT (enN E k) (enT E k)))) h) : mWP (d + 1) 51 [.ref p, .int (nI k)] h Q := by
  obtain ⟨m, rc, hd, nx, od, T, N, A, S, a1, a2, a3, a4, a5, a6⟩ := hP
  have h1 := (hW.2.2.1 k hk).2.2.1
  have h2 := hW.tx hk
  exact c_Pg_textAt a1.1 a1.2.1 (by decide) hk (by omega) (by omega) q
set_option maxRecDepth 100000 in
theorem c_code {d : Nat} {h : mH} {A : Ab} {pad : Nat → Nat} {sp : Option Nat} {res wrk : Nat} {p x : Int32} {Q : mP} (hC : CI h A pad sp res wrk) (hKb : ∀ P, P < A.pgs.length → pgK A.pgs P < 4) (hB : PgB A.pgs)  (q : ∀ h', CInv h' (sp_code A p x).2 → KpX h h' → Q (some (.long (sp_code A p x).1)) h') : mWP (d + 3) 115 [.ref 1, .int p, .int x] h Q := by
  obtain ⟨c1, cr, cp, cb, cu, cq, cs, ck, cru, cm⟩ := id hC
  obtain ⟨cp0, ⟨pf, cp1, cp2⟩, cp3, cp4, cp5⟩ := id cp
  refine z_in [some (.ref 1), some (.int p), some (.int x), none, none, none] (by rfl) rfl rfl rfl ?_
  refine z_aload 1 rfl rfl rfl ?_
  refine z_iload 2 rfl rfl rfl ?_
  refine z_cv1 5 rfl rfl (by first | exact c1 | exact cp1 | exact hpg | fail "lk") rfl (Nat.le_refl _) (Nat.le_refl _) ?_
  refine c_closedFinding hC ?_
  refine z_istore 6 rfl rfl rfl rfl ?_
  refine z_iload 7 rfl rfl rfl ?_
  first | refine z_ieq 10 rfl rfl (fun hc7 => ?_) (fun hc7 => ?_)
  · obtain ⟨hr, hcl⟩ := cf_0 hc7
    obtain ⟨P, hP, rfl, hp1, hp2⟩ := ixP cp0 (inR_t hr)
    rw [hp2] at hcl
    obtain ⟨m9, rc9, hpg⟩ := hC.pg hP
    have hK4 := hKb P hP
    have hPC : PgC h (pad P) (pgK A.pgs P) (pgE A.pgs P) (pgH A.pgs P) := PgR.cl (by rw [← hcl]; exact (cp3 P hP).2.2)
    refine z_iload 18 rfl rfl rfl ?_
    refine z_cs1 21 rfl rfl rfl (Nat.le_refl _) (Nat.le_refl _) ?_
    refine c_isPoint ?_
    generalize hjp : jPoint _ = jp
    first | refine z_bne 24 rfl rfl (fun hc21 => ?_) (fun hc21 => ?_)
    · obtain ⟨t, ht, rfl, ht2⟩ := jPoint_n (hjp.trans hc21)
      have htl := nPt_lt ht
      refine z_aload 32 rfl rfl rfl ?_
      refine z_get 35 rfl rfl (by first | exact c1 | exact cp1 | exact hpg | fail "lk") rfl ?_
      refine z_iload 36 rfl rfl rfl ?_
      refine z_qld 37 rfl rfl (by first | exact c1 | exact cp1 | exact hpg | fail "lk") (by decide) rfl (by omega) (by omega) (cp2 P hP) ?_
      refine z_astore 39 rfl rfl rfl rfl ?_
      refine z_aload 41 rfl rfl rfl ?_
      refine z_get 44 rfl rfl (by first | exact c1 | exact cp1 | exact hpg | fail "lk") rfl ?_
      first | refine z_zeq 47 rfl rfl (by omega) (fun hc44 => ?_) (fun hc44 => ?_)
      · have hP0 : PgC0 h (pad P) (pgE A.pgs P) (pgH A.pgs P) := hPC.elim (fun h9 => h9.2) (fun h9 => absurd hc44 h9.1)
        refine z_aload 59 rfl rfl rfl ?_
        refine z_iload 60 rfl rfl rfl ?_
        refine z_cv1 63 rfl rfl (by first | exact c1 | exact cp1 | exact hpg | fail "lk") rfl (Nat.le_refl _) (Nat.le_refl _) ?_
        refine c_slotOfC0 hP0 (hB P hP) (by omega) ?_
        rcases hff : ffd (pf2 (pgE A.pgs P) t) (pgE A.pgs P).length 0 with _ | k9
        · simp only [oI]
          refine z_istore 65 rfl rfl rfl rfl ?_
          refine z_iload 67 rfl rfl rfl ?_
          refine z_jge 70 rfl rfl (fun h9 => absurd h9 (by decide)) (fun _ => ?_)
          refine z_aload 71 rfl rfl rfl ?_
          refine z_push 73 (-2) rfl rfl rfl ?_
          refine z_cv1 76 rfl rfl (by first | exact c1 | exact cp1 | exact hpg | fail "lk") rfl (Nat.le_refl _) (Nat.le_refl _) ?_
          refine c_ansN hC (by decide) (fun h1 hC1 hX1 => ?_)
          refine z_i2l 77 rfl rfl ?_
          refine z_goto rfl ?_
          refine z_lret rfl (Nat.le_refl _) (Nat.le_refl _) ?_
          have hfn : fnd (pgK A.pgs P) (pgE A.pgs P) t = none := by rw [fnd, if_pos hc44, hff]; rfl
          have e9 : sp_code A (nI P) (nI t) = (Int32.toInt64 (-2), A.tell) := by
            rw [sp_code, if_pos hr, hp2, if_pos hcl, if_pos (hjp.trans hc21), ht2, hfn]
          rw [e9] at q
          exact q h1 hC1.inv hX1
        · simp only [oI]
          have hf9 := ffd_lt hff
          have hl9 := (hB P hP).1
          refine z_istore 65 rfl rfl rfl rfl ?_
          refine z_iload 67 rfl rfl rfl ?_
          refine z_zge 70 rfl rfl (by omega) (fun _ => ?_) (fun h9 => absurd h9 (by omega))
          refine z_aload 82 rfl rfl rfl ?_
          refine z_iload 84 rfl rfl rfl ?_
          refine z_cv1 87 rfl rfl (by first | exact c1 | exact cp1 | exact hpg | fail "lk") rfl (Nat.le_refl _) (Nat.le_refl _) ?_
          refine c_textAtC0 hP0 (hB P hP) (by omega) ?_
          refine z_lret rfl (Nat.le_refl _) (Nat.le_refl _) ?_
          have hfn : fnd (pgK A.pgs P) (pgE A.pgs P) t = some (enS (pgE A.pgs P) k9, enN (pgE A.pgs P) k9, enT (pgE A.pgs P) k9) := by rw [fnd, if_pos hc44, hff]; rfl
          have e9 : sp_code A (nI P) (nI t) = (lN (enN (pgE A.pgs P) k9 * 2 ^ 32 + enT (pgE A.pgs P) k9), A) := by
            rw [sp_code, if_pos hr, hp2, if_pos hcl, if_pos (hjp.trans hc21), ht2, hfn]
          rw [e9] at q
          exact q h hC.inv KpX.rfl
      · refine z_aload 49 rfl rfl rfl ?_
        refine z_get 52 rfl rfl (by first | exact c1 | exact cp1 | exact hpg | fail "lk") rfl ?_
        refine z_iload 53 rfl rfl rfl ?_
        refine z_cs2 56 rfl rfl rfl (Nat.le_refl _) (Nat.le_refl _) ?_
        refine c_textOf (by omega) (by omega) (by omega) ?_
        refine z_lret rfl (Nat.le_refl _) (Nat.le_refl _) ?_
        have hfn : fnd (pgK A.pgs P) (pgE A.pgs P) t = some (0, fmT (pgK A.pgs P) t) := by rw [fnd, if_neg hc44]
        have e9 : sp_code A (nI P) (nI t) = (lN ((fmT (pgK A.pgs P) t).1 * 2 ^ 32 + (fmT (pgK A.pgs P) t).2), A) := by
          rw [sp_code, if_pos hr, hp2, if_pos hcl, if_pos (hjp.trans hc21), ht2, hfn]
        rw [e9] at q
        exact q h hC.inv KpX.rfl
    · refine z_aload 25 rfl rfl rfl ?_
      refine z_push 26 (-1) rfl rfl rfl ?_
      refine z_cv1 29 rfl rfl (by first | exact c1 | exact cp1 | exact hpg | fail "lk") rfl (Nat.le_refl _) (Nat.le_refl _) ?_
      refine c_ansN hC (by decide) (fun h1 hC1 hX1 => ?_)
      refine z_i2l 30 rfl rfl ?_
      refine z_lret rfl (Nat.le_refl _) (Nat.le_refl _) ?_
      have e9 : sp_code A (nI P) x = (Int32.toInt64 (-1), A.tell) := by
        rw [sp_code, if_pos hr, hp2, if_pos hcl, if_neg (by rw [hjp, hc21]; decide)]
      rw [e9] at q
      exact q h1 hC1.inv hX1
  · refine z_aload 11 rfl rfl rfl ?_
    refine z_iload 12 rfl rfl rfl ?_
    refine z_cv1 15 rfl rfl (by first | exact c1 | exact cp1 | exact hpg | fail "lk") rfl (Nat.le_refl _) (Nat.le_refl _) ?_
    refine c_ansN hC (cfI_n hc7) (fun h1 hC1 hX1 => ?_)
    refine z_i2l 16 rfl rfl ?_
    refine z_lret rfl (Nat.le_refl _) (Nat.le_refl _) ?_
    have e9 : sp_code A p x = (Int32.toInt64 (cfI A.pgs p), A.tell) := cf_ct Int32.toInt64 hc7
    rw [e9] at q
    exact q h1 hC1.inv hX1
