/-! the class: the smaller calls -/
set_option maxRecDepth 100000 in
theorem c_size {d : Nat} {h : mH} {A : Ab} {pad : Nat → Nat} {sp : Option Nat} {res wrk : Nat} {p w : Int32} {Q : mP} (hC : CI h A pad sp res wrk) (hKb : ∀ P, P < A.pgs.length → pgK A.pgs P < 4)  (q : ∀ h', CInv h' (sp_size A p w).2 → KpX h h' → Q (some (.int (sp_size A p w).1)) h') : mWP (d + 3) 114 [.ref 1, .int p, .int w] h Q := by
  obtain ⟨c1, cr, cp, cb, cu, cq, cs, ck, cru, cm⟩ := id hC
  obtain ⟨cp0, ⟨pf, cp1, cp2⟩, cp3, cp4, cp5⟩ := id cp
  refine z_in [some (.ref 1), some (.int p), some (.int w), none] (by rfl) rfl rfl rfl ?_
  refine z_aload 1 rfl rfl rfl ?_
  refine z_iload 2 rfl rfl rfl ?_
  refine z_cv1 5 rfl rfl (by first | exact c1 | exact cp1 | exact hpg | exact he1 | exact hs1 | fail "lk") rfl (Nat.le_refl _) (Nat.le_refl _) ?_
  refine c_isPage hC ?_
  first | refine z_bne 8 rfl rfl (fun hc5 => ?_) (fun hc5 => ?_)
  · obtain ⟨P, hP, rfl, hp1, hp2⟩ := ixP cp0 hc5
    obtain ⟨m9, rc9, hpg⟩ := hC.pg hP
    obtain ⟨r9, r8, ⟨_, _, _, _, _, _, ⟨he1, _⟩, _⟩, ⟨_, _, _, _, _, ⟨hs1, _⟩, _⟩⟩ := (cp3 P hP).2.2.en
    refine z_aload 15 rfl rfl rfl ?_
    refine z_get 18 rfl rfl (by first | exact c1 | exact cp1 | exact hpg | exact he1 | exact hs1 | fail "lk") rfl ?_
    refine z_iload 19 rfl rfl rfl ?_
    refine z_qld 20 rfl rfl (by first | exact c1 | exact cp1 | exact hpg | exact he1 | exact hs1 | fail "lk") (by decide) rfl (by omega) (by omega) (cp2 P hP) ?_
    refine z_astore 21 rfl rfl rfl rfl ?_
    refine z_iload 22 rfl rfl rfl ?_
    by_cases hsw : (0 : Int) ≤ (w).toInt ∧ (w).toInt < 4
    · obtain ⟨j9, hj9, hx9⟩ : ∃ j9 : Nat, j9 < 4 ∧ (w).toInt = 0 + (j9 : Int) := ⟨((w).toInt - 0).toNat, by omega, by omega⟩
      have h9 : j9 = 0 ∨ j9 = 1 ∨ j9 = 2 ∨ j9 = 3 := by omega
      rcases h9 with rfl | rfl | rfl | rfl
      · refine z_swIn 52 rfl 0 (by omega) rfl ?_
        refine z_aload 53 rfl rfl rfl ?_
        refine z_get 56 rfl rfl (by first | exact c1 | exact cp1 | exact hpg | exact he1 | exact hs1 | fail "lk") rfl ?_
        refine z_ireti rfl (Nat.le_refl _) (Nat.le_refl _) ?_
        have e9 : sp_size A (nI P) w = (if w.toInt = 0 then nI (pgK A.pgs (nI P).toInt.toNat) else if w.toInt = 1 then bI (pgC A.pgs (nI P).toInt.toNat) else if w.toInt = 2 then nI (pgE A.pgs (nI P).toInt.toNat).length else nI (pgH A.pgs (nI P).toInt.toNat).length, A) := if_pos ⟨of_decide_eq_true hc5, by omega⟩
        rw [hp2, if_pos (by omega)] at e9
        rw [e9] at q
        exact q h hC.inv KpX.rfl
      · refine z_swIn 57 rfl 1 (by omega) rfl ?_
        refine z_aload 58 rfl rfl rfl ?_
        refine z_get 61 rfl rfl (by first | exact c1 | exact cp1 | exact hpg | exact he1 | exact hs1 | fail "lk") rfl ?_
        first | refine z_beq 64 rfl rfl (fun hc61 => ?_) (fun hc61 => ?_)
        · refine z_push 69 (nI 0) rfl rfl rfl ?_
          refine z_ireti rfl (Nat.le_refl _) (Nat.le_refl _) ?_
          have e9 : sp_size A (nI P) w = (if w.toInt = 0 then nI (pgK A.pgs (nI P).toInt.toNat) else if w.toInt = 1 then bI (pgC A.pgs (nI P).toInt.toNat) else if w.toInt = 2 then nI (pgE A.pgs (nI P).toInt.toNat).length else nI (pgH A.pgs (nI P).toInt.toNat).length, A) := if_pos ⟨of_decide_eq_true hc5, by omega⟩
          rw [hp2, if_neg (by omega), if_pos (by omega)] at e9
          rw [hc61] at e9
          rw [e9] at q
          exact q h hC.inv KpX.rfl
        · refine z_push 65 (nI 1) rfl rfl rfl ?_
          refine z_goto rfl ?_
          refine z_ireti rfl (Nat.le_refl _) (Nat.le_refl _) ?_
          have e9 : sp_size A (nI P) w = (if w.toInt = 0 then nI (pgK A.pgs (nI P).toInt.toNat) else if w.toInt = 1 then bI (pgC A.pgs (nI P).toInt.toNat) else if w.toInt = 2 then nI (pgE A.pgs (nI P).toInt.toNat).length else nI (pgH A.pgs (nI P).toInt.toNat).length, A) := if_pos ⟨of_decide_eq_true hc5, by omega⟩
          rw [hp2, if_neg (by omega), if_pos (by omega)] at e9
          rw [hc61] at e9
          rw [e9] at q
          exact q h hC.inv KpX.rfl
      · refine z_swIn 70 rfl 2 (by omega) rfl ?_
        refine z_aload 71 rfl rfl rfl ?_
        refine z_get 74 rfl rfl (by first | exact c1 | exact cp1 | exact hpg | exact he1 | exact hs1 | fail "lk") rfl ?_
        refine z_get 77 rfl rfl (by first | exact c1 | exact cp1 | exact hpg | exact he1 | exact hs1 | fail "lk") rfl ?_
        refine z_ireti rfl (Nat.le_refl _) (Nat.le_refl _) ?_
        have e9 : sp_size A (nI P) w = (if w.toInt = 0 then nI (pgK A.pgs (nI P).toInt.toNat) else if w.toInt = 1 then bI (pgC A.pgs (nI P).toInt.toNat) else if w.toInt = 2 then nI (pgE A.pgs (nI P).toInt.toNat).length else nI (pgH A.pgs (nI P).toInt.toNat).length, A) := if_pos ⟨of_decide_eq_true hc5, by omega⟩
        rw [hp2, if_neg (by omega), if_neg (by omega), if_pos (by omega)] at e9
        rw [e9] at q
        exact q h hC.inv KpX.rfl
      · refine z_swIn 78 rfl 3 (by omega) rfl ?_
        refine z_aload 79 rfl rfl rfl ?_
        refine z_get 82 rfl rfl (by first | exact c1 | exact cp1 | exact hpg | exact he1 | exact hs1 | fail "lk") rfl ?_
        refine z_get 85 rfl rfl (by first | exact c1 | exact cp1 | exact hpg | exact he1 | exact hs1 | fail "lk") rfl ?_
        refine z_ireti rfl (Nat.le_refl _) (Nat.le_refl _) ?_
        have e9 : sp_size A (nI P) w = (if w.toInt = 0 then nI (pgK A.pgs (nI P).toInt.toNat) else if w.toInt = 1 then bI (pgC A.pgs (nI P).toInt.toNat) else if w.toInt = 2 then nI (pgE A.pgs (nI P).toInt.toNat).length else nI (pgH A.pgs (nI P).toInt.toNat).length, A) := if_pos ⟨of_decide_eq_true hc5, by omega⟩
        rw [hp2, if_neg (by omega), if_neg (by omega), if_neg (by omega)] at e9
        rw [e9] at q
        exact q h hC.inv KpX.rfl
    · refine z_swOut rfl (by simp only [List.length]; omega) ?_
      refine z_aload 87 rfl rfl rfl ?_
      refine z_push 88 (-1) rfl rfl rfl ?_
      refine z_cv1 91 rfl rfl (by first | exact c1 | exact cp1 | exact hpg | exact he1 | exact hs1 | fail "lk") rfl (Nat.le_refl _) (Nat.le_refl _) ?_
      refine c_ansN hC (by decide) (fun h1 hC1 hX1 => ?_)
      refine z_ireti rfl (Nat.le_refl _) (Nat.le_refl _) ?_
      have e9 : sp_size A (nI P) w = (-1, A.tell) := if_neg (by omega)
      rw [e9] at q
      exact q h1 hC1.inv hX1
  · refine z_aload 9 rfl rfl rfl ?_
    refine z_push 10 (-1) rfl rfl rfl ?_
    refine z_cv1 13 rfl rfl (by first | exact c1 | exact cp1 | exact hpg | exact he1 | exact hs1 | fail "lk") rfl (Nat.le_refl _) (Nat.le_refl _) ?_
    refine c_ansN hC (by decide) (fun h1 hC1 hX1 => ?_)
    refine z_ireti rfl (Nat.le_refl _) (Nat.le_refl _) ?_
    have e9 : sp_size A p w = (-1, A.tell) := if_neg (fun h9 => of_decide_eq_false hc5 h9.1)
    rw [e9] at q
    exact q h1 hC1.inv hX1
set_option maxRecDepth 100000 in
theorem c_told {d : Nat} {h : mH} {A : Ab} {pad : Nat → Nat} {sp : Option Nat} {res wrk : Nat} {w : Int32} {Q : mP} (hC : CI h A pad sp res wrk)  (q : ∀ h', CInv h' (sp_told A w).2 → KpX h h' → Q (some (.int (sp_told A w).1)) h') : mWP (d + 2) 138 [.ref 1, .int w] h Q := by
  obtain ⟨c1, cr, cp, cb, cu, cq, cs, ck, cru, cm⟩ := id hC
  obtain ⟨cp0, ⟨pf, cp1, cp2⟩, cp3, cp4, cp5⟩ := id cp
  obtain ⟨bf, ck1, ck2, ck3, ck4⟩ := ck
  refine z_in [some (.ref 1), some (.int w)] (by rfl) rfl rfl rfl ?_
  refine z_iload 1 rfl rfl rfl ?_
  by_cases hsw : (0 : Int) ≤ (w).toInt ∧ (w).toInt < 11
  · obtain ⟨j9, hj9, hx9⟩ : ∃ j9 : Nat, j9 < 11 ∧ (w).toInt = 0 + (j9 : Int) := ⟨((w).toInt - 0).toNat, by omega, by omega⟩
    have h9 : j9 = 0 ∨ j9 = 1 ∨ j9 = 2 ∨ j9 = 3 ∨ j9 = 4 ∨ j9 = 5 ∨ j9 = 6 ∨ j9 = 7 ∨ j9 = 8 ∨ j9 = 9 ∨ j9 = 10 := by omega
    rcases h9 with rfl | rfl | rfl | rfl | rfl | rfl | rfl | rfl | rfl | rfl | rfl
    · refine z_swIn 60 rfl 0 (by omega) rfl ?_
      refine z_aload 61 rfl rfl rfl ?_
      refine z_get 64 rfl rfl (by first | exact c1 | exact ck1 | exact cb.1 | exact cu.1 | exact cq.1 | exact cru.1 | fail "lk") rfl ?_
      refine z_ireti rfl (Nat.le_refl _) (Nat.le_refl _) ?_
      have e9 : sp_told A w = (nI ([A.plc, A.brk.1, A.brk.2.1, A.brk.2.2, A.pgs.length, A.bys.length, A.uns.length, A.res.2.length, A.res.1, A.fbs.length, A.fnd].getD w.toInt.toNat 0), A) := if_pos (by omega)
      rw [show w.toInt.toNat = 0 from by omega] at e9
      rw [e9] at q
      exact q h hC.inv KpX.rfl
    · refine z_swIn 65 rfl 1 (by omega) rfl ?_
      obtain rfl : w = nI 1 := by rw [← Int32.toInt_inj, hx9, nI_toInt (by omega)]; rfl
      refine z_aload 66 rfl rfl rfl ?_
      refine z_get 69 rfl rfl (by first | exact c1 | exact ck1 | exact cb.1 | exact cu.1 | exact cq.1 | exact cru.1 | fail "lk") rfl ?_
      refine z_iload 70 rfl rfl rfl ?_
      refine z_push 71 (nI 1) rfl rfl rfl ?_
      refine z_bop 72 _ rfl rfl (by first | with_reducible exact zb_1 (by omega) | exact zd_1 _ _) ?_
      refine z_ald 73 rfl rfl (by first | exact c1 | exact ck1 | exact cb.1 | exact cu.1 | exact cq.1 | exact cru.1 | fail "lk") rfl (by omega) (by omega) ?_
      refine z_ireti rfl (Nat.le_refl _) (Nat.le_refl _) ?_
      have e9 : sp_told A (nI 1) = (nI ([A.plc, A.brk.1, A.brk.2.1, A.brk.2.2, A.pgs.length, A.bys.length, A.uns.length, A.res.2.length, A.res.1, A.fbs.length, A.fnd].getD (nI 1).toInt.toNat 0), A) := if_pos (by omega)
      rw [show (nI 1).toInt.toNat = 1 from by omega] at e9
      rw [ck2]
      rw [e9] at q
      exact q h hC.inv KpX.rfl
    · refine z_swIn 65 rfl 2 (by omega) rfl ?_
      obtain rfl : w = nI 2 := by rw [← Int32.toInt_inj, hx9, nI_toInt (by omega)]; rfl
      refine z_aload 66 rfl rfl rfl ?_
      refine z_get 69 rfl rfl (by first | exact c1 | exact ck1 | exact cb.1 | exact cu.1 | exact cq.1 | exact cru.1 | fail "lk") rfl ?_
      refine z_iload 70 rfl rfl rfl ?_
      refine z_push 71 (nI 1) rfl rfl rfl ?_
      refine z_bop 72 _ rfl rfl (by first | with_reducible exact zb_1 (by omega) | exact zd_1 _ _) ?_
      refine z_ald 73 rfl rfl (by first | exact c1 | exact ck1 | exact cb.1 | exact cu.1 | exact cq.1 | exact cru.1 | fail "lk") rfl (by omega) (by omega) ?_
      refine z_ireti rfl (Nat.le_refl _) (Nat.le_refl _) ?_
      have e9 : sp_told A (nI 2) = (nI ([A.plc, A.brk.1, A.brk.2.1, A.brk.2.2, A.pgs.length, A.bys.length, A.uns.length, A.res.2.length, A.res.1, A.fbs.length, A.fnd].getD (nI 2).toInt.toNat 0), A) := if_pos (by omega)
      rw [show (nI 2).toInt.toNat = 2 from by omega] at e9
      rw [ck3]
      rw [e9] at q
      exact q h hC.inv KpX.rfl
    · refine z_swIn 65 rfl 3 (by omega) rfl ?_
      obtain rfl : w = nI 3 := by rw [← Int32.toInt_inj, hx9, nI_toInt (by omega)]; rfl
      refine z_aload 66 rfl rfl rfl ?_
      refine z_get 69 rfl rfl (by first | exact c1 | exact ck1 | exact cb.1 | exact cu.1 | exact cq.1 | exact cru.1 | fail "lk") rfl ?_
      refine z_iload 70 rfl rfl rfl ?_
      refine z_push 71 (nI 1) rfl rfl rfl ?_
      refine z_bop 72 _ rfl rfl (by first | with_reducible exact zb_1 (by omega) | exact zd_1 _ _) ?_
      refine z_ald 73 rfl rfl (by first | exact c1 | exact ck1 | exact cb.1 | exact cu.1 | exact cq.1 | exact cru.1 | fail "lk") rfl (by omega) (by omega) ?_
      refine z_ireti rfl (Nat.le_refl _) (Nat.le_refl _) ?_
      have e9 : sp_told A (nI 3) = (nI ([A.plc, A.brk.1, A.brk.2.1, A.brk.2.2, A.pgs.length, A.bys.length, A.uns.length, A.res.2.length, A.res.1, A.fbs.length, A.fnd].getD (nI 3).toInt.toNat 0), A) := if_pos (by omega)
      rw [show (nI 3).toInt.toNat = 3 from by omega] at e9
      rw [ck4]
      rw [e9] at q
      exact q h hC.inv KpX.rfl
    · refine z_swIn 74 rfl 4 (by omega) rfl ?_
      refine z_aload 75 rfl rfl rfl ?_
      refine z_get 78 rfl rfl (by first | exact c1 | exact ck1 | exact cb.1 | exact cu.1 | exact cq.1 | exact cru.1 | fail "lk") rfl ?_
      refine z_ireti rfl (Nat.le_refl _) (Nat.le_refl _) ?_
      have e9 : sp_told A w = (nI ([A.plc, A.brk.1, A.brk.2.1, A.brk.2.2, A.pgs.length, A.bys.length, A.uns.length, A.res.2.length, A.res.1, A.fbs.length, A.fnd].getD w.toInt.toNat 0), A) := if_pos (by omega)
      rw [show w.toInt.toNat = 4 from by omega] at e9
      rw [e9] at q
      exact q h hC.inv KpX.rfl
    · refine z_swIn 79 rfl 5 (by omega) rfl ?_
      refine z_aload 80 rfl rfl rfl ?_
      refine z_get 83 rfl rfl (by first | exact c1 | exact ck1 | exact cb.1 | exact cu.1 | exact cq.1 | exact cru.1 | fail "lk") rfl ?_
      refine z_get 86 rfl rfl (by first | exact c1 | exact ck1 | exact cb.1 | exact cu.1 | exact cq.1 | exact cru.1 | fail "lk") rfl ?_
      refine z_ireti rfl (Nat.le_refl _) (Nat.le_refl _) ?_
      have e9 : sp_told A w = (nI ([A.plc, A.brk.1, A.brk.2.1, A.brk.2.2, A.pgs.length, A.bys.length, A.uns.length, A.res.2.length, A.res.1, A.fbs.length, A.fnd].getD w.toInt.toNat 0), A) := if_pos (by omega)
      rw [show w.toInt.toNat = 5 from by omega] at e9
      rw [e9] at q
      exact q h hC.inv KpX.rfl
    · refine z_swIn 87 rfl 6 (by omega) rfl ?_
      refine z_aload 88 rfl rfl rfl ?_
      refine z_get 91 rfl rfl (by first | exact c1 | exact ck1 | exact cb.1 | exact cu.1 | exact cq.1 | exact cru.1 | fail "lk") rfl ?_
      refine z_get 94 rfl rfl (by first | exact c1 | exact ck1 | exact cb.1 | exact cu.1 | exact cq.1 | exact cru.1 | fail "lk") rfl ?_
      refine z_ireti rfl (Nat.le_refl _) (Nat.le_refl _) ?_
      have e9 : sp_told A w = (nI ([A.plc, A.brk.1, A.brk.2.1, A.brk.2.2, A.pgs.length, A.bys.length, A.uns.length, A.res.2.length, A.res.1, A.fbs.length, A.fnd].getD w.toInt.toNat 0), A) := if_pos (by omega)
      rw [show w.toInt.toNat = 6 from by omega] at e9
      rw [e9] at q
      exact q h hC.inv KpX.rfl
    · refine z_swIn 95 rfl 7 (by omega) rfl ?_
      refine z_aload 96 rfl rfl rfl ?_
      refine z_get 99 rfl rfl (by first | exact c1 | exact ck1 | exact cb.1 | exact cu.1 | exact cq.1 | exact cru.1 | fail "lk") rfl ?_
      refine z_get 102 rfl rfl (by first | exact c1 | exact ck1 | exact cb.1 | exact cu.1 | exact cq.1 | exact cru.1 | fail "lk") rfl ?_
      refine z_ireti rfl (Nat.le_refl _) (Nat.le_refl _) ?_
      have e9 : sp_told A w = (nI ([A.plc, A.brk.1, A.brk.2.1, A.brk.2.2, A.pgs.length, A.bys.length, A.uns.length, A.res.2.length, A.res.1, A.fbs.length, A.fnd].getD w.toInt.toNat 0), A) := if_pos (by omega)
      rw [show w.toInt.toNat = 7 from by omega] at e9
      rw [e9] at q
      exact q h hC.inv KpX.rfl
    · refine z_swIn 103 rfl 8 (by omega) rfl ?_
      refine z_aload 104 rfl rfl rfl ?_
      refine z_get 107 rfl rfl (by first | exact c1 | exact ck1 | exact cb.1 | exact cu.1 | exact cq.1 | exact cru.1 | fail "lk") rfl ?_
      refine z_ireti rfl (Nat.le_refl _) (Nat.le_refl _) ?_
      have e9 : sp_told A w = (nI ([A.plc, A.brk.1, A.brk.2.1, A.brk.2.2, A.pgs.length, A.bys.length, A.uns.length, A.res.2.length, A.res.1, A.fbs.length, A.fnd].getD w.toInt.toNat 0), A) := if_pos (by omega)
      rw [show w.toInt.toNat = 8 from by omega] at e9
      rw [e9] at q
      exact q h hC.inv KpX.rfl
    · refine z_swIn 108 rfl 9 (by omega) rfl ?_
      refine z_aload 109 rfl rfl rfl ?_
      refine z_get 112 rfl rfl (by first | exact c1 | exact ck1 | exact cb.1 | exact cu.1 | exact cq.1 | exact cru.1 | fail "lk") rfl ?_
      refine z_get 115 rfl rfl (by first | exact c1 | exact ck1 | exact cb.1 | exact cu.1 | exact cq.1 | exact cru.1 | fail "lk") rfl ?_
      refine z_ireti rfl (Nat.le_refl _) (Nat.le_refl _) ?_
      have e9 : sp_told A w = (nI ([A.plc, A.brk.1, A.brk.2.1, A.brk.2.2, A.pgs.length, A.bys.length, A.uns.length, A.res.2.length, A.res.1, A.fbs.length, A.fnd].getD w.toInt.toNat 0), A) := if_pos (by omega)
      rw [show w.toInt.toNat = 9 from by omega] at e9
      rw [e9] at q
      exact q h hC.inv KpX.rfl
    · refine z_swIn 116 rfl 10 (by omega) rfl ?_
      refine z_aload 117 rfl rfl rfl ?_
      refine z_get 120 rfl rfl (by first | exact c1 | exact ck1 | exact cb.1 | exact cu.1 | exact cq.1 | exact cru.1 | fail "lk") rfl ?_
      refine z_ireti rfl (Nat.le_refl _) (Nat.le_refl _) ?_
      have e9 : sp_told A w = (nI ([A.plc, A.brk.1, A.brk.2.1, A.brk.2.2, A.pgs.length, A.bys.length, A.uns.length, A.res.2.length, A.res.1, A.fbs.length, A.fnd].getD w.toInt.toNat 0), A) := if_pos (by omega)
      rw [show w.toInt.toNat = 10 from by omega] at e9
      rw [e9] at q
      exact q h hC.inv KpX.rfl
  · refine z_swOut rfl (by simp only [List.length]; omega) ?_
    refine z_aload 122 rfl rfl rfl ?_
    refine z_push 123 (-1) rfl rfl rfl ?_
    refine z_cv1 126 rfl rfl (by first | exact c1 | exact ck1 | exact cb.1 | exact cu.1 | exact cq.1 | exact cru.1 | fail "lk") rfl (Nat.le_refl _) (Nat.le_refl _) ?_
    refine c_ansN hC (by decide) (fun h1 hC1 hX1 => ?_)
    refine z_ireti rfl (Nat.le_refl _) (Nat.le_refl _) ?_
    have e9 : sp_told A w = (-1, A.tell) := if_neg (by omega)
    rw [e9] at q
    exact q h1 hC1.inv hX1
set_option maxRecDepth 100000 in
theorem c_result {d : Nat} {h : mH} {A : Ab} {pad : Nat → Nat} {sp : Option Nat} {res wrk : Nat} {i : Int32} {Q : mP} (hC : CI h A pad sp res wrk)  (q : ∀ h', CInv h' (sp_result A i).2 → KpX h h' → Q (some (.int (sp_result A i).1)) h') : mWP (d + 2) 122 [.ref 1, .int i] h Q := by
  obtain ⟨c1, cr, cp, cb, cu, cq, cs, ck, cru, cm⟩ := id hC
  obtain ⟨cp0, ⟨pf, cp1, cp2⟩, cp3, cp4, cp5⟩ := id cp
  obtain ⟨w1, w2, f, w3, w4⟩ := id cq
  refine z_in [some (.ref 1), some (.int i)] (by rfl) rfl rfl rfl ?_
  refine z_iload 1 rfl rfl rfl ?_
  first | refine z_jlt 4 rfl rfl (fun hc1 => ?_) (fun hc1 => ?_)
  · refine z_aload 16 rfl rfl rfl ?_
    refine z_push 18 (-2) rfl rfl rfl ?_
    refine z_cv1 21 rfl rfl (by first | exact c1 | exact w1 | exact w3 | fail "lk") rfl (Nat.le_refl _) (Nat.le_refl _) ?_
    refine c_ansN hC (by decide) (fun h1 hC1 hX1 => ?_)
    refine z_ireti rfl (Nat.le_refl _) (Nat.le_refl _) ?_
    have e9 : sp_result A i = (-2, A.tell) := if_neg (by omega)
    rw [e9] at q
    exact q h1 hC1.inv hX1
  · refine z_iload 5 rfl rfl rfl ?_
    refine z_aload 6 rfl rfl rfl ?_
    refine z_get 9 rfl rfl (by first | exact c1 | exact w1 | exact w3 | fail "lk") rfl ?_
    refine z_get 12 rfl rfl (by first | exact c1 | exact w1 | exact w3 | fail "lk") rfl ?_
    refine z_klt 15 rfl rfl (by omega) (fun hc12 => ?_) (fun hc12 => ?_)
    · obtain ⟨I, hI9, rfl, hi1, hi2⟩ := ix_of (x := i) (n := A.res.2.length) (by omega)
      refine z_aload 23 rfl rfl rfl ?_
      refine z_get 26 rfl rfl (by first | exact c1 | exact w1 | exact w3 | fail "lk") rfl ?_
      refine z_get 29 rfl rfl (by first | exact c1 | exact w1 | exact w3 | fail "lk") rfl ?_
      refine z_iload 30 rfl rfl rfl ?_
      refine z_ald 31 rfl rfl (by first | exact c1 | exact w1 | exact w3 | fail "lk") rfl (by omega) (by omega) ?_
      rw [w4 I (by omega)]
      refine z_ireti rfl (Nat.le_refl _) (Nat.le_refl _) ?_
      have e9 : sp_result A (nI I) = (nI (A.res.2.getD I 0), A) := by rw [sp_result, if_pos (by omega), hi2]
      rw [e9] at q
      exact q h hC.inv KpX.rfl
    · refine z_aload 16 rfl rfl rfl ?_
      refine z_push 18 (-2) rfl rfl rfl ?_
      refine z_cv1 21 rfl rfl (by first | exact c1 | exact w1 | exact w3 | fail "lk") rfl (Nat.le_refl _) (Nat.le_refl _) ?_
      refine c_ansN hC (by decide) (fun h1 hC1 hX1 => ?_)
      refine z_ireti rfl (Nat.le_refl _) (Nat.le_refl _) ?_
      have e9 : sp_result A i = (-2, A.tell) := if_neg (by omega)
      rw [e9] at q
      exact q h1 hC1.inv hX1
set_option maxRecDepth 100000 in
theorem c_sign {d : Nat} {h : mH} {A : Ab} {pad : Nat → Nat} {sp : Option Nat} {res wrk : Nat} {w x : Int32} {Q : mP} (hC : CI h A pad sp res wrk)  (q : ∀ h', CInv h' (sp_sign A w x).2 → KpX h h' → Q (some (.int (sp_sign A w x).1)) h') : mWP (d + 3) 123 [.ref 1, .int w, .int x] h Q := by
  obtain ⟨c1, cr, cp, cb, cu, cq, cs, ck, cru, cm⟩ := id hC
  obtain ⟨cp0, ⟨pf, cp1, cp2⟩, cp3, cp4, cp5⟩ := id cp
  refine z_in [some (.ref 1), some (.int w), some (.int x), none] (by rfl) rfl rfl rfl ?_
  refine z_iload 1 rfl rfl rfl ?_
  first | refine z_jlt 4 rfl rfl (fun hc1 => ?_) (fun hc1 => ?_)
  · refine z_aload 17 rfl rfl rfl ?_
    refine z_push 18 (-1) rfl rfl rfl ?_
    refine z_cv1 21 rfl rfl (by first | exact c1 | exact cru.1 | exact (kh2 _ (by decide)).trans c1 | fail "lk") rfl (Nat.le_refl _) (Nat.le_refl _) ?_
    refine c_ansN hC (by decide) (fun h1 hC1 hX1 => ?_)
    refine z_ireti rfl (Nat.le_refl _) (Nat.le_refl _) ?_
    have e9 : sp_sign A w x = (-1, A.tell) := if_neg (fun h9 => absurd h9.1 (by omega))
    rw [e9] at q
    exact q h1 hC1.inv hX1
  · refine z_iload 5 rfl rfl rfl ?_
    refine z_push 6 (nI 1) rfl rfl rfl ?_
    refine z_kgt 9 rfl rfl (by omega) (fun hc6 => ?_) (fun hc6 => ?_)
    · refine z_aload 17 rfl rfl rfl ?_
      refine z_push 18 (-1) rfl rfl rfl ?_
      refine z_cv1 21 rfl rfl (by first | exact c1 | exact cru.1 | exact (kh2 _ (by decide)).trans c1 | fail "lk") rfl (Nat.le_refl _) (Nat.le_refl _) ?_
      refine c_ansN hC (by decide) (fun h1 hC1 hX1 => ?_)
      refine z_ireti rfl (Nat.le_refl _) (Nat.le_refl _) ?_
      have e9 : sp_sign A w x = (-1, A.tell) := if_neg (fun h9 => absurd h9.1 (by omega))
      rw [e9] at q
      exact q h1 hC1.inv hX1
    · refine z_iload 10 rfl rfl rfl ?_
      refine z_cs1 13 rfl rfl rfl (Nat.le_refl _) (Nat.le_refl _) ?_
      refine c_isPoint ?_
      generalize hjp : jPoint _ = jp
      first | refine z_bne 16 rfl rfl (fun hc13 => ?_) (fun hc13 => ?_)
      · obtain ⟨t, ht, rfl, ht2⟩ := jPoint_n (hjp.trans hc13)
        have htl := nPt_lt ht
        obtain ⟨W, hW9, rfl, hw1, hw2⟩ := ix_of (x := w) (n := 2) (by omega)
        have hWW : W = 0 ∨ W = 1 := by omega
        refine z_iload 23 rfl rfl rfl ?_
        rcases hWW with rfl | rfl
        · refine z_zne 26 rfl rfl (by omega) (fun h9 => absurd h9 (by omega)) (fun _ => ?_)
          refine z_aload 27 rfl rfl rfl ?_
          refine z_get 30 rfl rfl (by first | exact c1 | exact cru.1 | exact (kh2 _ (by decide)).trans c1 | fail "lk") rfl ?_
          refine z_get 33 rfl rfl (by first | exact c1 | exact cru.1 | exact (kh2 _ (by decide)).trans c1 | fail "lk") rfl ?_
          refine z_goto rfl ?_
          refine z_istore 44 rfl rfl rfl rfl ?_
          refine z_iload 45 rfl rfl rfl ?_
          refine z_zne 48 rfl rfl (by omega) (fun h9 => absurd h9 (by omega)) (fun _ => ?_)
          refine z_aload 49 rfl rfl rfl ?_
          refine z_get 52 rfl rfl (by first | exact c1 | exact cru.1 | exact (kh2 _ (by decide)).trans c1 | fail "lk") rfl ?_
          refine z_iload 53 rfl rfl rfl ?_
          refine z_put 56 rfl rfl (by first | exact c1 | exact cru.1 | exact (kh2 _ (by decide)).trans c1 | fail "lk") rfl (mFi rfl) ?_
          refine z_goto rfl ?_
          refine z_ab 16 (oRu 16 t A.sgn.2 A.fbs.length) h (mg_eq _ _ _) (fun x hx => by simp only [mSet, if_neg hx]) rfl (fun h2 hc2 kh2 zh2 => ?_)
          refine z_iload 68 rfl rfl rfl ?_
          refine z_ireti rfl (Nat.le_refl _) (Nat.le_refl _) ?_
          have e9 : sp_sign A (nI 0) (nI t) = (nI A.sgn.1, A.wSgn (t, A.sgn.2)) := by
            rw [sp_sign, if_pos ⟨by omega, hjp.trans hc13⟩, if_pos (by omega), ht2]
          obtain ⟨r1, r2, pts, lns, prt, whs, r3, r4, r5, r6, r7⟩ := cru
          rw [e9] at q
          exact q h2 (hC.ru (F := A.fbs) ⟨hc2, r2, pts, lns, prt, whs, (kh2 _ (by decide)).trans r3, (kh2 _ (by decide)).trans r4, (kh2 _ (by decide)).trans r5, (kh2 _ (by decide)).trans r6, r7⟩ (fun x hx => kh2 x (by omega)) zh2).inv ⟨fun x hx => kh2 x (by omega), by rw [zh2]; exact Nat.le_refl _⟩
        · refine z_zne 26 rfl rfl (by omega) (fun _ => ?_) (fun h9 => absurd h9 (by omega))
          refine z_aload 37 rfl rfl rfl ?_
          refine z_get 40 rfl rfl (by first | exact c1 | exact cru.1 | exact (kh2 _ (by decide)).trans c1 | fail "lk") rfl ?_
          refine z_get 43 rfl rfl (by first | exact c1 | exact cru.1 | exact (kh2 _ (by decide)).trans c1 | fail "lk") rfl ?_
          refine z_istore 44 rfl rfl rfl rfl ?_
          refine z_iload 45 rfl rfl rfl ?_
          refine z_zne 48 rfl rfl (by omega) (fun _ => ?_) (fun h9 => absurd h9 (by omega))
          refine z_aload 60 rfl rfl rfl ?_
          refine z_get 63 rfl rfl (by first | exact c1 | exact cru.1 | exact (kh2 _ (by decide)).trans c1 | fail "lk") rfl ?_
          refine z_iload 64 rfl rfl rfl ?_
          refine z_put 67 rfl rfl (by first | exact c1 | exact cru.1 | exact (kh2 _ (by decide)).trans c1 | fail "lk") rfl (mFi rfl) ?_
          refine z_ab 16 (oRu 16 A.sgn.1 t A.fbs.length) h (mg_eq _ _ _) (fun x hx => by simp only [mSet, if_neg hx]) rfl (fun h2 hc2 kh2 zh2 => ?_)
          refine z_iload 68 rfl rfl rfl ?_
          refine z_ireti rfl (Nat.le_refl _) (Nat.le_refl _) ?_
          have e9 : sp_sign A (nI 1) (nI t) = (nI A.sgn.2, A.wSgn (A.sgn.1, t)) := by
            rw [sp_sign, if_pos ⟨by omega, hjp.trans hc13⟩, if_neg (by omega), ht2]
          obtain ⟨r1, r2, pts, lns, prt, whs, r3, r4, r5, r6, r7⟩ := cru
          rw [e9] at q
          exact q h2 (hC.ru (F := A.fbs) ⟨hc2, r2, pts, lns, prt, whs, (kh2 _ (by decide)).trans r3, (kh2 _ (by decide)).trans r4, (kh2 _ (by decide)).trans r5, (kh2 _ (by decide)).trans r6, r7⟩ (fun x hx => kh2 x (by omega)) zh2).inv ⟨fun x hx => kh2 x (by omega), by rw [zh2]; exact Nat.le_refl _⟩
      · refine z_aload 17 rfl rfl rfl ?_
        refine z_push 18 (-1) rfl rfl rfl ?_
        refine z_cv1 21 rfl rfl (by first | exact c1 | exact cru.1 | exact (kh2 _ (by decide)).trans c1 | fail "lk") rfl (Nat.le_refl _) (Nat.le_refl _) ?_
        refine c_ansN hC (by decide) (fun h1 hC1 hX1 => ?_)
        refine z_ireti rfl (Nat.le_refl _) (Nat.le_refl _) ?_
        have e9 : sp_sign A w x = (-1, A.tell) := if_neg (fun h9 => by have h10 := h9.2; rw [hjp, hc13] at h10; exact absurd h10 (by decide))
        rw [e9] at q
        exact q h1 hC1.inv hX1
set_option maxRecDepth 100000 in
theorem c_take {d : Nat} {h : mH} {A : Ab} {pad : Nat → Nat} {sp : Option Nat} {res wrk : Nat} {dd : Int32} {Q : mP} (hC : CI h A pad sp res wrk)  (q : ∀ h', CInv h' (sp_take A dd).2 → KpX h h' → Q (some (.int (sp_take A dd).1)) h') : mWP (d + 2) 128 [.ref 1, .int dd] h Q := by
  obtain ⟨c1, cr, cp, cb, cu, cq, cs, ck, cru, cm⟩ := id hC
  obtain ⟨cp0, ⟨pf, cp1, cp2⟩, cp3, cp4, cp5⟩ := id cp
  obtain ⟨⟨mf, cm1, cm2⟩, cm3⟩ := id cm
  refine z_in [some (.ref 1), some (.int dd)] (by rfl) rfl rfl rfl ?_
  refine z_iload 1 rfl rfl rfl ?_
  refine z_cs1 4 rfl rfl rfl (Nat.le_refl _) (Nat.le_refl _) ?_
  refine c_isMachine ?_
  first | refine z_bne 7 rfl rfl (fun hc4 => ?_) (fun hc4 => ?_)
  · obtain ⟨D, hD, rfl, hp1, hp2⟩ := jSt_ix hc4
    have cmD := cm3 D hD
    rw [show 48 + 12 * D = 48 + 12 * D from rfl] at cmD
    refine z_aload 14 rfl rfl rfl ?_
    refine z_get 17 rfl rfl (by first | exact c1 | exact cm1 | exact hx1.1 | fail "lk") rfl ?_
    refine z_iload 18 rfl rfl rfl ?_
    refine z_qld 19 rfl rfl (by first | exact c1 | exact cm1 | exact hx1.1 | fail "lk") (by decide) rfl (by omega) (by omega) (cm2 D hD) ?_
    rcases hmm : A.mcs D with _ | m
    · rw [hmm] at cmD
      obtain ⟨p9, wr9, rule9, sr9, pn9, sw9, ks9, fed9, pl9, fi9, hx1⟩ := cmD
      have hq9 : ([] : List Nat).length = 0 := rfl
      refine z_get 22 rfl rfl (by first | exact c1 | exact cm1 | exact hx1.1 | fail "lk") rfl ?_
      refine z_push 23 (nI 1) rfl rfl rfl ?_
      refine z_nge 26 rfl rfl (by omega) (by omega) (fun h9 => absurd h9 (by omega)) (fun _ => ?_)
      refine z_aload 27 rfl rfl rfl ?_
      refine z_push 29 (-2) rfl rfl rfl ?_
      refine z_cv1 32 rfl rfl (by first | exact c1 | exact cm1 | exact hx1.1 | fail "lk") rfl (Nat.le_refl _) (Nat.le_refl _) ?_
      refine c_ansN hC (by decide) (fun h1 hC1 hX1 => ?_)
      refine z_ireti rfl (Nat.le_refl _) (Nat.le_refl _) ?_
      have e9 : sp_take A (nI D) = (-2, A.tell) := by
        rw [sp_take, if_pos (by omega), hp2, hmm]
      rw [e9] at q
      exact q h1 hC1.inv hX1
    · rw [hmm] at cmD
      obtain ⟨sr9, sw9, pl9, fi9, hx1, hx2⟩ := cmD
      have hq9 := hx1.2.2.2.1.2.1
      refine z_get 22 rfl rfl (by first | exact c1 | exact cm1 | exact hx1.1 | fail "lk") rfl ?_
      refine z_push 23 (nI 1) rfl rfl rfl ?_
      refine z_nge 26 rfl rfl (by omega) (by omega) (fun hc23 => ?_) (fun hc23 => ?_)
      · refine z_aload 34 rfl rfl rfl ?_
        refine z_get 37 rfl rfl (by first | exact c1 | exact cm1 | exact hx1.1 | fail "lk") rfl ?_
        refine z_iload 38 rfl rfl rfl ?_
        refine z_qld 39 rfl rfl (by first | exact c1 | exact cm1 | exact hx1.1 | fail "lk") (by decide) rfl (by omega) (by omega) (cm2 D hD) ?_
        refine z_cv0 42 rfl rfl (by first | exact c1 | exact cm1 | exact hx1.1 | fail "lk") rfl (Nat.le_refl _) (Nat.le_refl _) ?_
        have hqs : ∃ v9 l9, m.2.2.2.2.2.2.2.2 = v9 :: l9 := by
          rcases hql : m.2.2.2.2.2.2.2.2 with _ | ⟨v9, l9⟩
          · rw [hql] at hc23; exact absurd hc23 (by decide)
          · exact ⟨v9, l9, rfl⟩
        obtain ⟨v9, l9, hql⟩ := hqs
        rw [hql] at hx1
        refine c_Mc_takeFirst hx1 (fun h2 fi2 hM2 hF2 => ?_)
        refine z_ireti rfl (Nat.le_refl _) (Nat.le_refl _) ?_
        have e9 : sp_take A (nI D) = (nI v9, A.wMcs (setM A.mcs D (m.1, m.2.1, m.2.2.1, m.2.2.2.1, m.2.2.2.2.1, m.2.2.2.2.2.1, m.2.2.2.2.2.2.1, m.2.2.2.2.2.2.2.1, l9))) := by
          rw [sp_take, if_pos (by omega), hp2, hmm]
          simp only
          rw [hql]
        rw [e9] at q
        exact q h2 (hC.mc (m := (m.1, m.2.1, m.2.2.1, m.2.2.2.1, m.2.2.2.2.1, m.2.2.2.2.2.1, m.2.2.2.2.2.2.1, m.2.2.2.2.2.2.2.1, l9)) hD ⟨sr9, sw9, pl9, fi2, hM2, hx2⟩ (fun x hx => hF2.2 x hx) hF2.1).inv (KpX.of hF2 (by omega) (by omega))
      · refine z_aload 27 rfl rfl rfl ?_
        refine z_push 29 (-2) rfl rfl rfl ?_
        refine z_cv1 32 rfl rfl (by first | exact c1 | exact cm1 | exact hx1.1 | fail "lk") rfl (Nat.le_refl _) (Nat.le_refl _) ?_
        refine c_ansN hC (by decide) (fun h1 hC1 hX1 => ?_)
        refine z_ireti rfl (Nat.le_refl _) (Nat.le_refl _) ?_
        have e9 : sp_take A (nI D) = (-2, A.tell) := by
          rw [sp_take, if_pos (by omega), hp2, hmm]
          simp only
          rw [List.eq_nil_of_length_eq_zero (show m.2.2.2.2.2.2.2.2.length = 0 by omega)]
        rw [e9] at q
        exact q h1 hC1.inv hX1
  · refine z_aload 8 rfl rfl rfl ?_
    refine z_push 9 (-1) rfl rfl rfl ?_
    refine z_cv1 12 rfl rfl (by first | exact c1 | exact cm1 | exact hx1.1 | fail "lk") rfl (Nat.le_refl _) (Nat.le_refl _) ?_
    refine c_ansN hC (by decide) (fun h1 hC1 hX1 => ?_)
    refine z_ireti rfl (Nat.le_refl _) (Nat.le_refl _) ?_
    have e9 : sp_take A dd = (-1, A.tell) := if_neg (by have h8 := of_decide_eq_false hc4; omega)
    rw [e9] at q
    exact q h1 hC1.inv hX1
