/-! the class: pages written to -/
theorem PgO.en {h h' : mH} {p : Nat} {E E' : List En} {H : List Sh} (a : PgO h p E H) (g : EnA h' (p + 6) 100 E') (f : Fr (p + 6) (p + 12) h h') : PgO h' p E' H := by
  obtain ⟨m, rc, hd, nx, od, T, N, A, S, ⟨b1, b2, b3, b4, b5⟩, a2, a3, a4⟩ := a
  exact ⟨m, rc, hd, nx, od, T, N, A, S, ⟨(f.2 _ (by omega)).trans b1, g, b3.e (fun x h1 h2 => f.2 x (by omega)), (f.2 _ (by omega)).trans b4, (f.2 _ (by omega)).trans b5⟩, (f.2 _ (by omega)).trans a2, a3.e (fun x h1 h2 => f.2 x (by omega)), a4⟩
theorem PgO.sh {h h' : mH} {p : Nat} {E : List En} {H H' : List Sh} (a : PgO h p E H) (g : ShA h' (p + 12) 10 H') (f : Fr (p + 12) (p + 17) h h') : PgO h' p E H' := by
  obtain ⟨m, rc, hd, nx, od, T, N, A, S, ⟨b1, b2, b3, b4, b5⟩, a2, a3, a4⟩ := a
  exact ⟨m, rc, hd, nx, od, T, N, A, S, ⟨(f.2 _ (by omega)).trans b1, b2.e (fun x h1 h2 => f.2 x (by omega)), g, (f.2 _ (by omega)).trans b4, (f.2 _ (by omega)).trans b5⟩, (f.2 _ (by omega)).trans a2, a3.e (fun x h1 h2 => f.2 x (by omega)), a4⟩
theorem CI.opE {h h' : mH} {A : Ab} {pad : Nat → Nat} {sp : Option Nat} {res wrk P : Nat} {E' : List En} (a : CI h A pad sp res wrk) (hP : P < A.pgs.length) (hk0 : pgK A.pgs P = 0) (hPO : PgO h (pad P) (pgE A.pgs P) (pgH A.pgs P)) (g : EnA h' (pad P + 6) 100 E') (f : Fr (pad P + 6) (pad P + 12) h h') : CI h' (A.wPgs (A.pgs.set P (0, false, E', pgH A.pgs P))) pad sp res wrk := a.ps (x := (0, false, E', pgH A.pgs P)) hP hk0.symm (Or.inr ⟨rfl, rfl, hPO.en g f⟩) (fun y hy => f.2 y (by omega)) f.1
theorem CI.opS {h h' : mH} {A : Ab} {pad : Nat → Nat} {sp : Option Nat} {res wrk P : Nat} {H' : List Sh} (a : CI h A pad sp res wrk) (hP : P < A.pgs.length) (hk0 : pgK A.pgs P = 0) (hPO : PgO h (pad P) (pgE A.pgs P) (pgH A.pgs P)) (g : ShA h' (pad P + 12) 10 H') (f : Fr (pad P + 12) (pad P + 17) h h') : CI h' (A.wPgs (A.pgs.set P (0, false, pgE A.pgs P, H'))) pad sp res wrk := a.ps (x := (0, false, pgE A.pgs P, H')) hP hk0.symm (Or.inr ⟨rfl, rfl, hPO.sh g f⟩) (fun y hy => f.2 y (by omega)) f.1
set_option maxRecDepth 100000 in
theorem c_entry {d : Nat} {h : mH} {A : Ab} {pad : Nat → Nat} {sp : Option Nat} {res wrk : Nat} {p st bt n code : Int32} {Q : mP} (hC : CI h A pad sp res wrk) (hKb : ∀ P, P < A.pgs.length → pgK A.pgs P < 4) (hB : PgB A.pgs)  (q : ∀ h', CInv h' (sp_entry A p st bt n code).2 → KpX h h' → Q (some (.int (sp_entry A p st bt n code).1)) h') : mWP (d + 4) 110 [.ref 1, .int p, .int st, .int bt, .int n, .int code] h Q := by
  obtain ⟨c1, cr, cp, cb, cu, cq, cs, ck, cru, cm⟩ := id hC
  obtain ⟨cp0, ⟨pf, cp1, cp2⟩, cp3, cp4, cp5⟩ := id cp
  refine z_in [some (.ref 1), some (.int p), some (.int st), some (.int bt), some (.int n), some (.int code), none, none, none, none, none] (by rfl) rfl rfl rfl ?_
  refine z_aload 1 rfl rfl rfl ?_
  refine z_iload 2 rfl rfl rfl ?_
  refine z_cv1 5 rfl rfl (by first | exact c1 | exact cp1 | exact hpg | exact hE1 | fail "lk") rfl (Nat.le_refl _) (Nat.le_refl _) ?_
  refine c_openTableFinding hC hKb ?_
  refine z_istore 7 rfl rfl rfl rfl ?_
  refine z_iload 9 rfl rfl rfl ?_
  first | refine z_ieq 12 rfl rfl (fun hc9 => ?_) (fun hc9 => ?_)
  · obtain ⟨hp, hk0, hcl⟩ := fxA_0 hc9
    obtain ⟨P, hP, rfl, hp1, hp2⟩ := ix_of hp
    rw [hp2] at hk0 hcl
    obtain ⟨hpad, hpad2, hPR⟩ := cp3 P hP
    rw [hcl] at hPR
    obtain ⟨_, hPO⟩ := PgR.op hPR
    obtain ⟨mm, rc, hd, nx, od, T, N, Ar, S, ⟨hpg, hEA, hSA, hhd, hnx⟩, hod, hro, hS4⟩ := id hPO
    have hW := hB P hP
    have hE1 := hEA.2.choose_spec.choose_spec.choose_spec.choose_spec.choose_spec.1.1
    have hS1 := hSA.2.choose_spec.choose_spec.choose_spec.choose_spec.1.1
    have hW1 := hW.1
    have hW2 := hW.2.1
    refine z_iload 21 rfl rfl rfl ?_
    first | refine z_jlt 24 rfl rfl (fun hc21 => ?_) (fun hc21 => ?_)
    · refine z_push 29 (nI 0) rfl rfl rfl ?_
      refine z_istore 31 rfl rfl rfl rfl ?_
      refine z_iload 33 rfl rfl rfl ?_
      refine z_zeq 36 rfl rfl (by omega) (fun _ => ?_) (fun h9 => absurd h9 (by omega))
      refine z_push 42 (-1) rfl rfl rfl ?_
      refine z_iload 44 rfl rfl rfl ?_
      refine z_bop 45 _ rfl rfl (by first | with_reducible exact zb_1 (by omega) | exact zd_1 _ _) ?_
      refine z_istore 47 rfl rfl rfl rfl ?_
      refine z_iload 48 rfl rfl rfl ?_
      refine z_iload 49 rfl rfl rfl ?_
      refine z_iload 51 rfl rfl rfl ?_
      refine z_cs3 54 rfl rfl rfl (Nat.le_refl _) (Nat.le_refl _) ?_
      refine c_isText ?_
      first | refine z_beq 57 rfl rfl (fun hc54 => ?_) (fun hc54 => ?_)
      · refine z_aload 66 rfl rfl rfl ?_
        refine z_push 67 (-1) rfl rfl rfl ?_
        refine z_cv1 70 rfl rfl (by first | exact c1 | exact cp1 | exact hpg | exact hE1 | fail "lk") rfl (Nat.le_refl _) (Nat.le_refl _) ?_
        refine c_ansN hC (by decide) (fun h1 hC1 hX1 => ?_)
        refine z_ireti rfl (Nat.le_refl _) (Nat.le_refl _) ?_
        have e9 : sp_entry A (nI P) st bt n code = (-1, A.tell) := by
          rw [sp_entry, if_pos hc9, if_neg ?_]
          intro h9
          rw [hc54] at h9; exact absurd h9.1 (by decide)
        rw [e9] at q
        exact q h1 hC1.inv hX1
      · refine z_iload 59 rfl rfl rfl ?_
        refine z_cs1 62 rfl rfl rfl (Nat.le_refl _) (Nat.le_refl _) ?_
        refine c_isPoint ?_
        generalize hjp : jPoint _ = jp
        first | refine z_bne 65 rfl rfl (fun hc62 => ?_) (fun hc62 => ?_)
        · obtain ⟨a, b, c, ha, hb, hc0, hc1, hbc, rfl, rfl, rfl, ha', hb', hc'⟩ := jText_n hc54
          obtain ⟨t, ht, ht1, ht2⟩ := jPoint_n (hjp.trans hc62)
          have htl := nPt_lt ht
          refine z_aload 72 rfl rfl rfl ?_
          refine z_get 75 rfl rfl (by first | exact c1 | exact cp1 | exact hpg | exact hE1 | fail "lk") rfl ?_
          refine z_iload 76 rfl rfl rfl ?_
          refine z_qld 77 rfl rfl (by first | exact c1 | exact cp1 | exact hpg | exact hE1 | fail "lk") (by decide) rfl (by omega) (by omega) (cp2 P hP) ?_
          refine z_get 80 rfl rfl (by first | exact c1 | exact cp1 | exact hpg | exact hE1 | fail "lk") rfl ?_
          refine z_astore 82 rfl rfl rfl rfl ?_
          refine z_aload 84 rfl rfl rfl ?_
          refine z_iload 85 rfl rfl rfl ?_
          refine z_iload 86 rfl rfl rfl ?_
          refine z_iload 88 rfl rfl rfl ?_
          refine z_cv3 91 rfl rfl (by first | exact c1 | exact cp1 | exact hpg | exact hE1 | fail "lk") rfl (Nat.le_refl _) (Nat.le_refl _) ?_
          refine w_En_slotOf hEA hW (by omega) (by omega) (by omega) ?_
          rcases hfd : ffd (eQ (pgE A.pgs P) a b c) (pgE A.pgs P).length 0 with _ | k
          · simp only [oI]
            refine z_istore 93 rfl rfl rfl rfl ?_
            refine z_iload 95 rfl rfl rfl ?_
            refine z_jlt 98 rfl rfl (fun _ => ?_) (fun h9 => absurd h9 (by decide))
            refine z_aload 117 rfl rfl rfl ?_
            refine z_get 120 rfl rfl (by first | exact c1 | exact cp1 | exact hpg | exact hE1 | fail "lk") rfl ?_
            refine z_push 122 (nI 100) rfl rfl rfl ?_
            refine z_nlt 125 rfl rfl (by omega) (by omega) (fun hc122 => ?_) (fun hc122 => ?_)
            · refine z_aload 134 rfl rfl rfl ?_
              refine z_aload 136 rfl rfl rfl ?_
              refine z_get 139 rfl rfl (by first | exact c1 | exact cp1 | exact hpg | exact hE1 | fail "lk") rfl ?_
              refine z_iload 140 rfl rfl rfl ?_
              refine z_iload 141 rfl rfl rfl ?_
              refine z_iload 143 rfl rfl rfl ?_
              refine z_iload 145 rfl rfl rfl ?_
              refine z_iload 147 rfl rfl rfl ?_
              refine z_cv6 150 rfl rfl (by first | exact c1 | exact cp1 | exact hpg | exact hE1 | fail "lk") rfl (Nat.le_refl _) (Nat.le_refl _) ?_
              rw [ht1]
              refine w_En_app (pf := false) hEA (by omega) (fun h2 hA2 hF2 => ?_)
              refine z_push 151 (nI 0) rfl rfl rfl ?_
              refine z_ireti rfl (Nat.le_refl _) (Nat.le_refl _) ?_
              have e9 : sp_entry A (nI P) (nI a) (nI b) (nI c) code = (0, A.wPgs (A.pgs.set P (0, false, pgE A.pgs P ++ [(a, b, c, t, decide (0 ≤ code.toInt))], pgH A.pgs P))) := by
                rw [sp_entry, if_pos hc9, if_pos ⟨hc54, by rw [show ptOf code = _ from by first | exact if_pos (by omega) | exact if_neg (by omega)]; exact hjp.trans hc62⟩, hp2, ha', hb', hc', hfd, show ptOf code = _ from by first | exact if_pos (by omega) | exact if_neg (by omega), ht2]
                exact if_neg (by omega)
              rw [e9, show decide (0 ≤ code.toInt) = false from by first | exact decide_eq_true (by omega) | exact decide_eq_false (by omega)] at q
              exact q h2 (hC.opE hP hk0 hPO hA2 hF2).inv (KpX.of hF2 (by omega) (by omega))
            · refine z_aload 126 rfl rfl rfl ?_
              refine z_push 128 (-6) rfl rfl rfl ?_
              refine z_cv1 131 rfl rfl (by first | exact c1 | exact cp1 | exact hpg | exact hE1 | fail "lk") rfl (Nat.le_refl _) (Nat.le_refl _) ?_
              refine c_ansN hC (by decide) (fun h1 hC1 hX1 => ?_)
              refine z_ireti rfl (Nat.le_refl _) (Nat.le_refl _) ?_
              have e9 : sp_entry A (nI P) (nI a) (nI b) (nI c) code = (-6, A.tell) := by
                rw [sp_entry, if_pos hc9, if_pos ⟨hc54, by rw [show ptOf code = _ from by first | exact if_pos (by omega) | exact if_neg (by omega)]; exact hjp.trans hc62⟩, hp2, ha', hb', hc', hfd]
                exact if_pos (by omega)
              rw [e9] at q
              exact q h1 hC1.inv hX1
          · simp only [oI]
            have hk9 := ffd_lt hfd
            refine z_istore 93 rfl rfl rfl rfl ?_
            refine z_iload 95 rfl rfl rfl ?_
            refine z_zlt 98 rfl rfl (by omega) (fun h9 => absurd h9 (by omega)) (fun _ => ?_)
            refine z_aload 100 rfl rfl rfl ?_
            refine z_iload 102 rfl rfl rfl ?_
            refine z_iload 103 rfl rfl rfl ?_
            refine z_iload 104 rfl rfl rfl ?_
            refine z_iload 106 rfl rfl rfl ?_
            refine z_iload 108 rfl rfl rfl ?_
            refine z_iload 110 rfl rfl rfl ?_
            refine z_cv6 113 rfl rfl (by first | exact c1 | exact cp1 | exact hpg | exact hE1 | fail "lk") rfl (Nat.le_refl _) (Nat.le_refl _) ?_
            rw [ht1]
            refine w_En_set (pf := false) hEA (by omega) (fun h2 hA2 hF2 => ?_)
            refine z_push 114 (nI 1) rfl rfl rfl ?_
            refine z_ireti rfl (Nat.le_refl _) (Nat.le_refl _) ?_
            have e9 : sp_entry A (nI P) (nI a) (nI b) (nI c) code = (1, A.wPgs (A.pgs.set P (0, false, (pgE A.pgs P).set k (a, b, c, t, decide (0 ≤ code.toInt)), pgH A.pgs P))) := by
              rw [sp_entry, if_pos hc9, if_pos ⟨hc54, by rw [show ptOf code = _ from by first | exact if_pos (by omega) | exact if_neg (by omega)]; exact hjp.trans hc62⟩, hp2, ha', hb', hc', hfd, show ptOf code = _ from by first | exact if_pos (by omega) | exact if_neg (by omega), ht2]
            rw [e9, show decide (0 ≤ code.toInt) = false from by first | exact decide_eq_true (by omega) | exact decide_eq_false (by omega)] at q
            exact q h2 (hC.opE hP hk0 hPO hA2 hF2).inv (KpX.of hF2 (by omega) (by omega))
        · refine z_aload 66 rfl rfl rfl ?_
          refine z_push 67 (-1) rfl rfl rfl ?_
          refine z_cv1 70 rfl rfl (by first | exact c1 | exact cp1 | exact hpg | exact hE1 | fail "lk") rfl (Nat.le_refl _) (Nat.le_refl _) ?_
          refine c_ansN hC (by decide) (fun h1 hC1 hX1 => ?_)
          refine z_ireti rfl (Nat.le_refl _) (Nat.le_refl _) ?_
          have e9 : sp_entry A (nI P) st bt n code = (-1, A.tell) := by
            rw [sp_entry, if_pos hc9, if_neg ?_]
            intro h9
            have h10 := h9.2; rw [show ptOf code = _ from by first | exact if_pos (by omega) | exact if_neg (by omega), hjp, hc62] at h10; exact absurd h10 (by decide)
          rw [e9] at q
          exact q h1 hC1.inv hX1
    · refine z_push 25 (nI 1) rfl rfl rfl ?_
      refine z_goto rfl ?_
      refine z_istore 31 rfl rfl rfl rfl ?_
      refine z_iload 33 rfl rfl rfl ?_
      refine z_zeq 36 rfl rfl (by omega) (fun h9 => absurd h9 (by omega)) (fun _ => ?_)
      refine z_iload 38 rfl rfl rfl ?_
      refine z_goto rfl ?_
      refine z_istore 47 rfl rfl rfl rfl ?_
      refine z_iload 48 rfl rfl rfl ?_
      refine z_iload 49 rfl rfl rfl ?_
      refine z_iload 51 rfl rfl rfl ?_
      refine z_cs3 54 rfl rfl rfl (Nat.le_refl _) (Nat.le_refl _) ?_
      refine c_isText ?_
      first | refine z_beq 57 rfl rfl (fun hc54 => ?_) (fun hc54 => ?_)
      · refine z_aload 66 rfl rfl rfl ?_
        refine z_push 67 (-1) rfl rfl rfl ?_
        refine z_cv1 70 rfl rfl (by first | exact c1 | exact cp1 | exact hpg | exact hE1 | fail "lk") rfl (Nat.le_refl _) (Nat.le_refl _) ?_
        refine c_ansN hC (by decide) (fun h1 hC1 hX1 => ?_)
        refine z_ireti rfl (Nat.le_refl _) (Nat.le_refl _) ?_
        have e9 : sp_entry A (nI P) st bt n code = (-1, A.tell) := by
          rw [sp_entry, if_pos hc9, if_neg ?_]
          intro h9
          rw [hc54] at h9; exact absurd h9.1 (by decide)
        rw [e9] at q
        exact q h1 hC1.inv hX1
      · refine z_iload 59 rfl rfl rfl ?_
        refine z_cs1 62 rfl rfl rfl (Nat.le_refl _) (Nat.le_refl _) ?_
        refine c_isPoint ?_
        generalize hjp : jPoint _ = jp
        first | refine z_bne 65 rfl rfl (fun hc62 => ?_) (fun hc62 => ?_)
        · obtain ⟨a, b, c, ha, hb, hc0, hc1, hbc, rfl, rfl, rfl, ha', hb', hc'⟩ := jText_n hc54
          obtain ⟨t, ht, ht1, ht2⟩ := jPoint_n (hjp.trans hc62)
          have htl := nPt_lt ht
          refine z_aload 72 rfl rfl rfl ?_
          refine z_get 75 rfl rfl (by first | exact c1 | exact cp1 | exact hpg | exact hE1 | fail "lk") rfl ?_
          refine z_iload 76 rfl rfl rfl ?_
          refine z_qld 77 rfl rfl (by first | exact c1 | exact cp1 | exact hpg | exact hE1 | fail "lk") (by decide) rfl (by omega) (by omega) (cp2 P hP) ?_
          refine z_get 80 rfl rfl (by first | exact c1 | exact cp1 | exact hpg | exact hE1 | fail "lk") rfl ?_
          refine z_astore 82 rfl rfl rfl rfl ?_
          refine z_aload 84 rfl rfl rfl ?_
          refine z_iload 85 rfl rfl rfl ?_
          refine z_iload 86 rfl rfl rfl ?_
          refine z_iload 88 rfl rfl rfl ?_
          refine z_cv3 91 rfl rfl (by first | exact c1 | exact cp1 | exact hpg | exact hE1 | fail "lk") rfl (Nat.le_refl _) (Nat.le_refl _) ?_
          refine w_En_slotOf hEA hW (by omega) (by omega) (by omega) ?_
          rcases hfd : ffd (eQ (pgE A.pgs P) a b c) (pgE A.pgs P).length 0 with _ | k
          · simp only [oI]
            refine z_istore 93 rfl rfl rfl rfl ?_
            refine z_iload 95 rfl rfl rfl ?_
            refine z_jlt 98 rfl rfl (fun _ => ?_) (fun h9 => absurd h9 (by decide))
            refine z_aload 117 rfl rfl rfl ?_
            refine z_get 120 rfl rfl (by first | exact c1 | exact cp1 | exact hpg | exact hE1 | fail "lk") rfl ?_
            refine z_push 122 (nI 100) rfl rfl rfl ?_
            refine z_nlt 125 rfl rfl (by omega) (by omega) (fun hc122 => ?_) (fun hc122 => ?_)
            · refine z_aload 134 rfl rfl rfl ?_
              refine z_aload 136 rfl rfl rfl ?_
              refine z_get 139 rfl rfl (by first | exact c1 | exact cp1 | exact hpg | exact hE1 | fail "lk") rfl ?_
              refine z_iload 140 rfl rfl rfl ?_
              refine z_iload 141 rfl rfl rfl ?_
              refine z_iload 143 rfl rfl rfl ?_
              refine z_iload 145 rfl rfl rfl ?_
              refine z_iload 147 rfl rfl rfl ?_
              refine z_cv6 150 rfl rfl (by first | exact c1 | exact cp1 | exact hpg | exact hE1 | fail "lk") rfl (Nat.le_refl _) (Nat.le_refl _) ?_
              rw [ht1]
              refine w_En_app (pf := true) hEA (by omega) (fun h2 hA2 hF2 => ?_)
              refine z_push 151 (nI 0) rfl rfl rfl ?_
              refine z_ireti rfl (Nat.le_refl _) (Nat.le_refl _) ?_
              have e9 : sp_entry A (nI P) (nI a) (nI b) (nI c) code = (0, A.wPgs (A.pgs.set P (0, false, pgE A.pgs P ++ [(a, b, c, t, decide (0 ≤ code.toInt))], pgH A.pgs P))) := by
                rw [sp_entry, if_pos hc9, if_pos ⟨hc54, by rw [show ptOf code = _ from by first | exact if_pos (by omega) | exact if_neg (by omega)]; exact hjp.trans hc62⟩, hp2, ha', hb', hc', hfd, show ptOf code = _ from by first | exact if_pos (by omega) | exact if_neg (by omega), ht2]
                exact if_neg (by omega)
              rw [e9, show decide (0 ≤ code.toInt) = true from by first | exact decide_eq_true (by omega) | exact decide_eq_false (by omega)] at q
              exact q h2 (hC.opE hP hk0 hPO hA2 hF2).inv (KpX.of hF2 (by omega) (by omega))
            · refine z_aload 126 rfl rfl rfl ?_
              refine z_push 128 (-6) rfl rfl rfl ?_
              refine z_cv1 131 rfl rfl (by first | exact c1 | exact cp1 | exact hpg | exact hE1 | fail "lk") rfl (Nat.le_refl _) (Nat.le_refl _) ?_
              refine c_ansN hC (by decide) (fun h1 hC1 hX1 => ?_)
              refine z_ireti rfl (Nat.le_refl _) (Nat.le_refl _) ?_
              have e9 : sp_entry A (nI P) (nI a) (nI b) (nI c) code = (-6, A.tell) := by
                rw [sp_entry, if_pos hc9, if_pos ⟨hc54, by rw [show ptOf code = _ from by first | exact if_pos (by omega) | exact if_neg (by omega)]; exact hjp.trans hc62⟩, hp2, ha', hb', hc', hfd]
                exact if_pos (by omega)
              rw [e9] at q
              exact q h1 hC1.inv hX1
          · simp only [oI]
            have hk9 := ffd_lt hfd
            refine z_istore 93 rfl rfl rfl rfl ?_
            refine z_iload 95 rfl rfl rfl ?_
            refine z_zlt 98 rfl rfl (by omega) (fun h9 => absurd h9 (by omega)) (fun _ => ?_)
            refine z_aload 100 rfl rfl rfl ?_
            refine z_iload 102 rfl rfl rfl ?_
            refine z_iload 103 rfl rfl rfl ?_
            refine z_iload 104 rfl rfl rfl ?_
            refine z_iload 106 rfl rfl rfl ?_
            refine z_iload 108 rfl rfl rfl ?_
            refine z_iload 110 rfl rfl rfl ?_
            refine z_cv6 113 rfl rfl (by first | exact c1 | exact cp1 | exact hpg | exact hE1 | fail "lk") rfl (Nat.le_refl _) (Nat.le_refl _) ?_
            rw [ht1]
            refine w_En_set (pf := true) hEA (by omega) (fun h2 hA2 hF2 => ?_)
            refine z_push 114 (nI 1) rfl rfl rfl ?_
            refine z_ireti rfl (Nat.le_refl _) (Nat.le_refl _) ?_
            have e9 : sp_entry A (nI P) (nI a) (nI b) (nI c) code = (1, A.wPgs (A.pgs.set P (0, false, (pgE A.pgs P).set k (a, b, c, t, decide (0 ≤ code.toInt)), pgH A.pgs P))) := by
              rw [sp_entry, if_pos hc9, if_pos ⟨hc54, by rw [show ptOf code = _ from by first | exact if_pos (by omega) | exact if_neg (by omega)]; exact hjp.trans hc62⟩, hp2, ha', hb', hc', hfd, show ptOf code = _ from by first | exact if_pos (by omega) | exact if_neg (by omega), ht2]
            rw [e9, show decide (0 ≤ code.toInt) = true from by first | exact decide_eq_true (by omega) | exact decide_eq_false (by omega)] at q
            exact q h2 (hC.opE hP hk0 hPO hA2 hF2).inv (KpX.of hF2 (by omega) (by omega))
        · refine z_aload 66 rfl rfl rfl ?_
          refine z_push 67 (-1) rfl rfl rfl ?_
          refine z_cv1 70 rfl rfl (by first | exact c1 | exact cp1 | exact hpg | exact hE1 | fail "lk") rfl (Nat.le_refl _) (Nat.le_refl _) ?_
          refine c_ansN hC (by decide) (fun h1 hC1 hX1 => ?_)
          refine z_ireti rfl (Nat.le_refl _) (Nat.le_refl _) ?_
          have e9 : sp_entry A (nI P) st bt n code = (-1, A.tell) := by
            rw [sp_entry, if_pos hc9, if_neg ?_]
            intro h9
            have h10 := h9.2; rw [show ptOf code = _ from by first | exact if_pos (by omega) | exact if_neg (by omega), hjp, hc62] at h10; exact absurd h10 (by decide)
          rw [e9] at q
          exact q h1 hC1.inv hX1
  · refine z_aload 13 rfl rfl rfl ?_
    refine z_iload 15 rfl rfl rfl ?_
    refine z_cv1 18 rfl rfl (by first | exact c1 | exact cp1 | exact hpg | exact hE1 | fail "lk") rfl (Nat.le_refl _) (Nat.le_refl _) ?_
    refine c_ansN hC (by have := fxA_n hc9; omega) (fun h1 hC1 hX1 => ?_)
    refine z_ireti rfl (Nat.le_refl _) (Nat.le_refl _) ?_
    have e9 : sp_entry A p st bt n code = (fxA A.pgs p, A.tell) := if_neg hc9
    rw [e9] at q
    exact q h1 hC1.inv hX1
theorem jByte_ix {x : Int32} (h : jByte x = true) : ∃ a : Nat, a < 256 ∧ x = nI a ∧ x.toInt.toNat = a := by
  have h1 : 0 ≤ x.toInt ∧ x.toInt ≤ 255 := of_decide_eq_true h
  obtain ⟨W, a, b, c, e⟩ := ix_of (x := x) (n := 256) (by omega)
  exact ⟨W, a, b, e⟩
set_option maxRecDepth 100000 in
theorem c_shift {d : Nat} {h : mH} {A : Ab} {pad : Nat → Nat} {sp : Option Nat} {res wrk : Nat} {p st bt to : Int32} {k : Bool} {Q : mP} (hC : CI h A pad sp res wrk) (hKb : ∀ P, P < A.pgs.length → pgK A.pgs P < 4) (hB : PgB A.pgs)  (q : ∀ h', CInv h' (sp_shift A p st bt to k).2 → KpX h h' → Q (some (.int (sp_shift A p st bt to k).1)) h') : mWP (d + 4) 111 [.ref 1, .int p, .int st, .int bt, .int to, .int (bI k)] h Q := by
  obtain ⟨c1, cr, cp, cb, cu, cq, cs, ck, cru, cm⟩ := id hC
  obtain ⟨cp0, ⟨pf, cp1, cp2⟩, cp3, cp4, cp5⟩ := id cp
  refine z_in [some (.ref 1), some (.int p), some (.int st), some (.int bt), some (.int to), some (.int (bI k)), none, none] (by rfl) rfl rfl rfl ?_
  refine z_aload 1 rfl rfl rfl ?_
  refine z_iload 2 rfl rfl rfl ?_
  refine z_cv1 5 rfl rfl (by first | exact c1 | exact cp1 | exact hpg | exact hS1 | fail "lk") rfl (Nat.le_refl _) (Nat.le_refl _) ?_
  refine c_openTableFinding hC hKb ?_
  refine z_istore 7 rfl rfl rfl rfl ?_
  refine z_iload 9 rfl rfl rfl ?_
  first | refine z_ieq 12 rfl rfl (fun hc9 => ?_) (fun hc9 => ?_)
  · obtain ⟨hp, hk0, hcl⟩ := fxA_0 hc9
    obtain ⟨P, hP, rfl, hp1, hp2⟩ := ix_of hp
    rw [hp2] at hk0 hcl
    obtain ⟨hpad, hpad2, hPR⟩ := cp3 P hP
    rw [hcl] at hPR
    obtain ⟨_, hPO⟩ := PgR.op hPR
    obtain ⟨mm, rc, hd, nx, od, T, N, Ar, S, ⟨hpg, hEA, hSA, hhd, hnx⟩, hod, hro, hS4⟩ := id hPO
    have hW := hB P hP
    have hE1 := hEA.2.choose_spec.choose_spec.choose_spec.choose_spec.choose_spec.1.1
    have hS1 := hSA.2.choose_spec.choose_spec.choose_spec.choose_spec.1.1
    have hW1 := hW.1
    have hW2 := hW.2.1
    refine z_iload 20 rfl rfl rfl ?_
    refine z_cs1 23 rfl rfl rfl (Nat.le_refl _) (Nat.le_refl _) ?_
    refine c_isState ?_
    first | refine z_beq 26 rfl rfl (fun hc23 => ?_) (fun hc23 => ?_)
    · refine z_aload 48 rfl rfl rfl ?_
      refine z_push 49 (-1) rfl rfl rfl ?_
      refine z_cv1 52 rfl rfl (by first | exact c1 | exact cp1 | exact hpg | exact hS1 | fail "lk") rfl (Nat.le_refl _) (Nat.le_refl _) ?_
      refine c_ansN hC (by decide) (fun h1 hC1 hX1 => ?_)
      refine z_ireti rfl (Nat.le_refl _) (Nat.le_refl _) ?_
      have e9 : sp_shift A (nI P) st bt to k = (-1, A.tell) := by
        rw [sp_shift, if_pos hc9, if_neg (fun h9 => by rw [hc23] at h9; exact absurd h9.1 (by decide))]
      rw [e9] at q
      exact q h1 hC1.inv hX1
    · refine z_iload 28 rfl rfl rfl ?_
      refine z_cs1 31 rfl rfl rfl (Nat.le_refl _) (Nat.le_refl _) ?_
      refine c_isState ?_
      first | refine z_beq 34 rfl rfl (fun hc31 => ?_) (fun hc31 => ?_)
      · refine z_aload 48 rfl rfl rfl ?_
        refine z_push 49 (-1) rfl rfl rfl ?_
        refine z_cv1 52 rfl rfl (by first | exact c1 | exact cp1 | exact hpg | exact hS1 | fail "lk") rfl (Nat.le_refl _) (Nat.le_refl _) ?_
        refine c_ansN hC (by decide) (fun h1 hC1 hX1 => ?_)
        refine z_ireti rfl (Nat.le_refl _) (Nat.le_refl _) ?_
        have e9 : sp_shift A (nI P) st bt to k = (-1, A.tell) := by
          rw [sp_shift, if_pos hc9, if_neg (fun h9 => by have h8 := h9.2.1; rw [hc31] at h8; exact absurd h8 (by decide))]
        rw [e9] at q
        exact q h1 hC1.inv hX1
      · refine z_iload 35 rfl rfl rfl ?_
        refine z_iload 37 rfl rfl rfl ?_
        refine z_ceq 40 rfl rfl (fun hc37 => ?_) (fun hc37 => ?_)
        · refine z_aload 48 rfl rfl rfl ?_
          refine z_push 49 (-1) rfl rfl rfl ?_
          refine z_cv1 52 rfl rfl (by first | exact c1 | exact cp1 | exact hpg | exact hS1 | fail "lk") rfl (Nat.le_refl _) (Nat.le_refl _) ?_
          refine c_ansN hC (by decide) (fun h1 hC1 hX1 => ?_)
          refine z_ireti rfl (Nat.le_refl _) (Nat.le_refl _) ?_
          have e9 : sp_shift A (nI P) st bt to k = (-1, A.tell) := by
            rw [sp_shift, if_pos hc9, if_neg (fun h9 => h9.2.2.1 hc37)]
          rw [e9] at q
          exact q h1 hC1.inv hX1
        · refine z_iload 41 rfl rfl rfl ?_
          refine z_cs1 44 rfl rfl rfl (Nat.le_refl _) (Nat.le_refl _) ?_
          refine c_isByte ?_
          first | refine z_bne 47 rfl rfl (fun hc44 => ?_) (fun hc44 => ?_)
          · obtain ⟨a, ha, rfl, ha'⟩ := jState_n hc23
            obtain ⟨c, hc, rfl, hc'⟩ := jState_n hc31
            obtain ⟨b, hb, rfl, hb'⟩ := jByte_ix hc44
            refine z_aload 54 rfl rfl rfl ?_
            refine z_get 57 rfl rfl (by first | exact c1 | exact cp1 | exact hpg | exact hS1 | fail "lk") rfl ?_
            refine z_iload 58 rfl rfl rfl ?_
            refine z_qld 59 rfl rfl (by first | exact c1 | exact cp1 | exact hpg | exact hS1 | fail "lk") (by decide) rfl (by omega) (by omega) (cp2 P hP) ?_
            refine z_get 62 rfl rfl (by first | exact c1 | exact cp1 | exact hpg | exact hS1 | fail "lk") rfl ?_
            refine z_astore 64 rfl rfl rfl rfl ?_
            refine z_aload 66 rfl rfl rfl ?_
            refine z_iload 67 rfl rfl rfl ?_
            refine z_iload 68 rfl rfl rfl ?_
            refine z_cv2 71 rfl rfl (by first | exact c1 | exact cp1 | exact hpg | exact hS1 | fail "lk") rfl (Nat.le_refl _) (Nat.le_refl _) ?_
            refine w_Sh_slotOf hSA hW (by omega) (by omega) ?_
            rcases hfd : ffd (sQ (pgH A.pgs P) a b) (pgH A.pgs P).length 0 with _ | k9
            · simp only [oI]
              refine z_jlt 74 rfl rfl (fun _ => ?_) (fun h9 => absurd h9 (by decide))
              refine z_aload 83 rfl rfl rfl ?_
              refine z_get 86 rfl rfl (by first | exact c1 | exact cp1 | exact hpg | exact hS1 | fail "lk") rfl ?_
              refine z_push 88 (nI 10) rfl rfl rfl ?_
              refine z_nlt 91 rfl rfl (by omega) (by omega) (fun hc88 => ?_) (fun hc88 => ?_)
              · refine z_aload 100 rfl rfl rfl ?_
                refine z_iload 101 rfl rfl rfl ?_
                refine z_iload 102 rfl rfl rfl ?_
                refine z_iload 104 rfl rfl rfl ?_
                refine z_iload 106 rfl rfl rfl ?_
                refine z_cv4 109 rfl rfl (by first | exact c1 | exact cp1 | exact hpg | exact hS1 | fail "lk") rfl (Nat.le_refl _) (Nat.le_refl _) ?_
                refine w_Sh_app hSA (by omega) (fun h2 hA2 hF2 => ?_)
                refine z_push 110 (nI 0) rfl rfl rfl ?_
                refine z_ireti rfl (Nat.le_refl _) (Nat.le_refl _) ?_
                have e9 : sp_shift A (nI P) (nI a) (nI b) (nI c) k = (0, A.wPgs (A.pgs.set P (0, false, pgE A.pgs P, pgH A.pgs P ++ [(a, b, c, k)]))) := by
                  rw [sp_shift, if_pos hc9, if_pos ⟨hc23, hc31, hc37, hc44⟩, hp2, ha', hb', hc', if_pos hfd, if_neg (by omega)]
                rw [e9] at q
                exact q h2 (hC.opS hP hk0 hPO hA2 hF2).inv (KpX.of hF2 (by omega) (by omega))
              · refine z_aload 92 rfl rfl rfl ?_
                refine z_push 94 (-6) rfl rfl rfl ?_
                refine z_cv1 97 rfl rfl (by first | exact c1 | exact cp1 | exact hpg | exact hS1 | fail "lk") rfl (Nat.le_refl _) (Nat.le_refl _) ?_
                refine c_ansN hC (by decide) (fun h1 hC1 hX1 => ?_)
                refine z_ireti rfl (Nat.le_refl _) (Nat.le_refl _) ?_
                have e9 : sp_shift A (nI P) (nI a) (nI b) (nI c) k = (-6, A.tell) := by
                  rw [sp_shift, if_pos hc9, if_pos ⟨hc23, hc31, hc37, hc44⟩, hp2, ha', hb', hc', if_pos hfd, if_pos (by omega)]
                rw [e9] at q
                exact q h1 hC1.inv hX1
            · simp only [oI]
              have hk9 := ffd_lt hfd
              refine z_zlt 74 rfl rfl (by omega) (fun h9 => absurd h9 (by omega)) (fun _ => ?_)
              refine z_aload 75 rfl rfl rfl ?_
              refine z_push 77 (-7) rfl rfl rfl ?_
              refine z_cv1 80 rfl rfl (by first | exact c1 | exact cp1 | exact hpg | exact hS1 | fail "lk") rfl (Nat.le_refl _) (Nat.le_refl _) ?_
              refine c_ansN hC (by decide) (fun h1 hC1 hX1 => ?_)
              refine z_ireti rfl (Nat.le_refl _) (Nat.le_refl _) ?_
              have e9 : sp_shift A (nI P) (nI a) (nI b) (nI c) k = (-7, A.tell) := by
                rw [sp_shift, if_pos hc9, if_pos ⟨hc23, hc31, hc37, hc44⟩, hp2, ha', hb', hc', if_neg (by rw [hfd]; exact fun h9 => by cases h9)]
              rw [e9] at q
              exact q h1 hC1.inv hX1
          · refine z_aload 48 rfl rfl rfl ?_
            refine z_push 49 (-1) rfl rfl rfl ?_
            refine z_cv1 52 rfl rfl (by first | exact c1 | exact cp1 | exact hpg | exact hS1 | fail "lk") rfl (Nat.le_refl _) (Nat.le_refl _) ?_
            refine c_ansN hC (by decide) (fun h1 hC1 hX1 => ?_)
            refine z_ireti rfl (Nat.le_refl _) (Nat.le_refl _) ?_
            have e9 : sp_shift A (nI P) st bt to k = (-1, A.tell) := by
              rw [sp_shift, if_pos hc9, if_neg (fun h9 => by have h8 := h9.2.2.2; rw [hc44] at h8; exact absurd h8 (by decide))]
            rw [e9] at q
            exact q h1 hC1.inv hX1
  · refine z_aload 13 rfl rfl rfl ?_
    refine z_iload 15 rfl rfl rfl ?_
    refine z_cv1 18 rfl rfl (by first | exact c1 | exact cp1 | exact hpg | exact hS1 | fail "lk") rfl (Nat.le_refl _) (Nat.le_refl _) ?_
    refine c_ansN hC (by have := fxA_n hc9; omega) (fun h1 hC1 hX1 => ?_)
    refine z_ireti rfl (Nat.le_refl _) (Nat.le_refl _) ?_
    have e9 : sp_shift A p st bt to k = (fxA A.pgs p, A.tell) := if_neg hc9
    rw [e9] at q
    exact q h1 hC1.inv hX1
set_option maxRecDepth 100000 in
theorem c_drop {d : Nat} {h : mH} {A : Ab} {pad : Nat → Nat} {sp : Option Nat} {res wrk : Nat} {p st bt n : Int32} {Q : mP} (hC : CI h A pad sp res wrk) (hKb : ∀ P, P < A.pgs.length → pgK A.pgs P < 4) (hB : PgB A.pgs)  (q : ∀ h', CInv h' (sp_drop A p st bt n).2 → KpX h h' → Q (some (.int (sp_drop A p st bt n).1)) h') : mWP (d + 4) 112 [.ref 1, .int p, .int st, .int bt, .int n] h Q := by
  obtain ⟨c1, cr, cp, cb, cu, cq, cs, ck, cru, cm⟩ := id hC
  obtain ⟨cp0, ⟨pf, cp1, cp2⟩, cp3, cp4, cp5⟩ := id cp
  refine z_in [some (.ref 1), some (.int p), some (.int st), some (.int bt), some (.int n), none, none, none] (by rfl) rfl rfl rfl ?_
  refine z_aload 1 rfl rfl rfl ?_
  refine z_iload 2 rfl rfl rfl ?_
  refine z_cv1 5 rfl rfl (by first | exact c1 | exact cp1 | exact hpg | exact hS1 | exact hE1 | fail "lk") rfl (Nat.le_refl _) (Nat.le_refl _) ?_
  refine c_openTableFinding hC hKb ?_
  refine z_istore 7 rfl rfl rfl rfl ?_
  refine z_iload 9 rfl rfl rfl ?_
  first | refine z_ieq 12 rfl rfl (fun hc9 => ?_) (fun hc9 => ?_)
  · obtain ⟨hp, hk0, hcl⟩ := fxA_0 hc9
    obtain ⟨P, hP, rfl, hp1, hp2⟩ := ix_of hp
    rw [hp2] at hk0 hcl
    obtain ⟨hpad, hpad2, hPR⟩ := cp3 P hP
    rw [hcl] at hPR
    obtain ⟨_, hPO⟩ := PgR.op hPR
    obtain ⟨mm, rc, hd, nx, od, T, N, Ar, S, ⟨hpg, hEA, hSA, hhd, hnx⟩, hod, hro, hS4⟩ := id hPO
    have hW := hB P hP
    have hE1 := hEA.2.choose_spec.choose_spec.choose_spec.choose_spec.choose_spec.1.1
    have hS1 := hSA.2.choose_spec.choose_spec.choose_spec.choose_spec.1.1
    have hW1 := hW.1
    have hW2 := hW.2.1
    refine z_iload 20 rfl rfl rfl ?_
    refine z_iload 21 rfl rfl rfl ?_
    refine z_iload 23 rfl rfl rfl ?_
    refine z_cs3 26 rfl rfl rfl (Nat.le_refl _) (Nat.le_refl _) ?_
    refine c_isText ?_
    first | refine z_bne 29 rfl rfl (fun hc26 => ?_) (fun hc26 => ?_)
    · obtain ⟨a, b, c, ha, hb, hc0, hc1, hbc, rfl, rfl, rfl, ha', hb', hc'⟩ := jText_n hc26
      refine z_aload 36 rfl rfl rfl ?_
      refine z_get 39 rfl rfl (by first | exact c1 | exact cp1 | exact hpg | exact hS1 | exact hE1 | fail "lk") rfl ?_
      refine z_iload 40 rfl rfl rfl ?_
      refine z_qld 41 rfl rfl (by first | exact c1 | exact cp1 | exact hpg | exact hS1 | exact hE1 | fail "lk") (by decide) rfl (by omega) (by omega) (cp2 P hP) ?_
      refine z_astore 43 rfl rfl rfl rfl ?_
      refine z_aload 45 rfl rfl rfl ?_
      refine z_get 48 rfl rfl (by first | exact c1 | exact cp1 | exact hpg | exact hS1 | exact hE1 | fail "lk") rfl ?_
      refine z_iload 49 rfl rfl rfl ?_
      refine z_iload 50 rfl rfl rfl ?_
      refine z_iload 52 rfl rfl rfl ?_
      refine z_cv3 55 rfl rfl (by first | exact c1 | exact cp1 | exact hpg | exact hS1 | exact hE1 | fail "lk") rfl (Nat.le_refl _) (Nat.le_refl _) ?_
      refine w_En_slotOf hEA hW (by omega) (by omega) (by omega) ?_
      rcases hfd : ffd (eQ (pgE A.pgs P) a b c) (pgE A.pgs P).length 0 with _ | k
      · simp only [oI]
        refine z_istore 57 rfl rfl rfl rfl ?_
        refine z_iload 59 rfl rfl rfl ?_
        refine z_jlt 62 rfl rfl (fun _ => ?_) (fun h9 => absurd h9 (by decide))
        refine z_iload 76 rfl rfl rfl ?_
        refine z_push 77 (nI 1) rfl rfl rfl ?_
        refine z_nne 80 rfl rfl (by omega) (by omega) (fun hc77 => ?_) (fun hc77 => ?_)
        · refine z_push 94 (-1) rfl rfl rfl ?_
          refine z_istore 96 rfl rfl rfl rfl ?_
          refine z_iload 98 rfl rfl rfl ?_
          refine z_jge 101 rfl rfl (fun h9 => absurd h9 (by decide)) (fun _ => ?_)
          refine z_aload 102 rfl rfl rfl ?_
          refine z_push 104 (-2) rfl rfl rfl ?_
          refine z_cv1 107 rfl rfl (by first | exact c1 | exact cp1 | exact hpg | exact hS1 | exact hE1 | fail "lk") rfl (Nat.le_refl _) (Nat.le_refl _) ?_
          refine c_ansN hC (by decide) (fun h1 hC1 hX1 => ?_)
          refine z_ireti rfl (Nat.le_refl _) (Nat.le_refl _) ?_
          have e9 : sp_drop A (nI P) (nI a) (nI b) (nI c) = (-2, A.tell) := by
            rw [sp_drop, if_pos hc9, if_pos hc26, hp2, ha', hb', hc', hfd]
            simp only
            rw [if_neg hc77]
          rw [e9] at q
          exact q h1 hC1.inv hX1
        · refine z_aload 82 rfl rfl rfl ?_
          refine z_get 85 rfl rfl (by first | exact c1 | exact cp1 | exact hpg | exact hS1 | exact hE1 | fail "lk") rfl ?_
          refine z_iload 86 rfl rfl rfl ?_
          refine z_iload 87 rfl rfl rfl ?_
          refine z_cv2 90 rfl rfl (by first | exact c1 | exact cp1 | exact hpg | exact hS1 | exact hE1 | fail "lk") rfl (Nat.le_refl _) (Nat.le_refl _) ?_
          refine w_Sh_slotOf hSA hW (by omega) (by omega) ?_
          rcases hfs : ffd (sQ (pgH A.pgs P) a b) (pgH A.pgs P).length 0 with _ | k
          · simp only [oI]
            refine z_goto rfl ?_
            refine z_istore 96 rfl rfl rfl rfl ?_
            refine z_iload 98 rfl rfl rfl ?_
            refine z_jge 101 rfl rfl (fun h9 => absurd h9 (by decide)) (fun _ => ?_)
            refine z_aload 102 rfl rfl rfl ?_
            refine z_push 104 (-2) rfl rfl rfl ?_
            refine z_cv1 107 rfl rfl (by first | exact c1 | exact cp1 | exact hpg | exact hS1 | exact hE1 | fail "lk") rfl (Nat.le_refl _) (Nat.le_refl _) ?_
            refine c_ansN hC (by decide) (fun h1 hC1 hX1 => ?_)
            refine z_ireti rfl (Nat.le_refl _) (Nat.le_refl _) ?_
            have e9 : sp_drop A (nI P) (nI a) (nI b) (nI c) = (-2, A.tell) := by
              rw [sp_drop, if_pos hc9, if_pos hc26, hp2, ha', hb', hc', hfd]
              simp only
              rw [if_pos hc77, hfs]
            rw [e9] at q
            exact q h1 hC1.inv hX1
          · simp only [oI]
            have hk9 := ffd_lt hfs
            refine z_goto rfl ?_
            refine z_istore 96 rfl rfl rfl rfl ?_
            refine z_iload 98 rfl rfl rfl ?_
            refine z_zge 101 rfl rfl (by omega) (fun _ => ?_) (fun h9 => absurd h9 (by omega))
            refine z_aload 110 rfl rfl rfl ?_
            refine z_get 113 rfl rfl (by first | exact c1 | exact cp1 | exact hpg | exact hS1 | exact hE1 | fail "lk") rfl ?_
            refine z_iload 115 rfl rfl rfl ?_
            refine z_cv1 118 rfl rfl (by first | exact c1 | exact cp1 | exact hpg | exact hS1 | exact hE1 | fail "lk") rfl (Nat.le_refl _) (Nat.le_refl _) ?_
            refine w_Sh_rem hSA (by omega) (fun h2 hA2 hF2 => ?_)
            refine z_push 119 (nI 1) rfl rfl rfl ?_
            refine z_ireti rfl (Nat.le_refl _) (Nat.le_refl _) ?_
            have e9 : sp_drop A (nI P) (nI a) (nI b) (nI c) = (1, A.wPgs (A.pgs.set P (0, false, pgE A.pgs P, (pgH A.pgs P).eraseIdx k))) := by
              rw [sp_drop, if_pos hc9, if_pos hc26, hp2, ha', hb', hc', hfd]
              simp only
              rw [if_pos hc77, hfs]
            rw [e9] at q
            exact q h2 (hC.opS hP hk0 hPO hA2 hF2).inv (KpX.of hF2 (by omega) (by omega))
      · simp only [oI]
        have hk9 := ffd_lt hfd
        refine z_istore 57 rfl rfl rfl rfl ?_
        refine z_iload 59 rfl rfl rfl ?_
        refine z_zlt 62 rfl rfl (by omega) (fun h9 => absurd h9 (by omega)) (fun _ => ?_)
        refine z_aload 64 rfl rfl rfl ?_
        refine z_get 67 rfl rfl (by first | exact c1 | exact cp1 | exact hpg | exact hS1 | exact hE1 | fail "lk") rfl ?_
        refine z_iload 69 rfl rfl rfl ?_
        refine z_cv1 72 rfl rfl (by first | exact c1 | exact cp1 | exact hpg | exact hS1 | exact hE1 | fail "lk") rfl (Nat.le_refl _) (Nat.le_refl _) ?_
        refine w_En_rem hEA (by omega) (fun h2 hA2 hF2 => ?_)
        refine z_push 73 (nI 0) rfl rfl rfl ?_
        refine z_ireti rfl (Nat.le_refl _) (Nat.le_refl _) ?_
        have e9 : sp_drop A (nI P) (nI a) (nI b) (nI c) = (0, A.wPgs (A.pgs.set P (0, false, (pgE A.pgs P).eraseIdx k, pgH A.pgs P))) := by
          rw [sp_drop, if_pos hc9, if_pos hc26, hp2, ha', hb', hc', hfd]
        rw [e9] at q
        exact q h2 (hC.opE hP hk0 hPO hA2 hF2).inv (KpX.of hF2 (by omega) (by omega))
    · refine z_aload 30 rfl rfl rfl ?_
      refine z_push 31 (-1) rfl rfl rfl ?_
      refine z_cv1 34 rfl rfl (by first | exact c1 | exact cp1 | exact hpg | exact hS1 | exact hE1 | fail "lk") rfl (Nat.le_refl _) (Nat.le_refl _) ?_
      refine c_ansN hC (by decide) (fun h1 hC1 hX1 => ?_)
      refine z_ireti rfl (Nat.le_refl _) (Nat.le_refl _) ?_
      have e9 : sp_drop A (nI P) st bt n = (-1, A.tell) := by
        rw [sp_drop, if_pos hc9, if_neg (by rw [hc26]; decide)]
      rw [e9] at q
      exact q h1 hC1.inv hX1
  · refine z_aload 13 rfl rfl rfl ?_
    refine z_iload 15 rfl rfl rfl ?_
    refine z_cv1 18 rfl rfl (by first | exact c1 | exact cp1 | exact hpg | exact hS1 | exact hE1 | fail "lk") rfl (Nat.le_refl _) (Nat.le_refl _) ?_
    refine c_ansN hC (by have := fxA_n hc9; omega) (fun h1 hC1 hX1 => ?_)
    refine z_ireti rfl (Nat.le_refl _) (Nat.le_refl _) ?_
    have e9 : sp_drop A p st bt n = (fxA A.pgs p, A.tell) := if_neg hc9
    rw [e9] at q
    exact q h1 hC1.inv hX1
set_option maxRecDepth 100000 in
theorem c_close {d : Nat} {h : mH} {A : Ab} {pad : Nat → Nat} {sp : Option Nat} {res wrk : Nat} {p : Int32} {Q : mP} (hC : CI h A pad sp res wrk) (hKb : ∀ P, P < A.pgs.length → pgK A.pgs P < 4) (hB : PgB A.pgs)  (q : ∀ h', CInv h' (sp_close A p).2 → KpX h h' → Q (some (.int (sp_close A p).1)) h') : mWP (d + 6) 113 [.ref 1, .int p] h Q := by
  obtain ⟨c1, cr, cp, cb, cu, cq, cs, ck, cru, cm⟩ := id hC
  obtain ⟨cp0, ⟨pf, cp1, cp2⟩, cp3, cp4, cp5⟩ := id cp
  obtain ⟨bf, ck1, ck2, ck3, ck4⟩ := id ck
  refine z_in [some (.ref 1), some (.int p), none] (by rfl) rfl rfl rfl ?_
  refine z_aload 1 rfl rfl rfl ?_
  refine z_iload 2 rfl rfl rfl ?_
  refine z_cv1 5 rfl rfl (by first | exact c1 | exact cp1 | exact hpg | exact (hF2.2 1 (by omega)).trans c1 | fail "lk") rfl (Nat.le_refl _) (Nat.le_refl _) ?_
  refine c_openTableFinding hC hKb ?_
  refine z_istore 6 rfl rfl rfl rfl ?_
  refine z_iload 7 rfl rfl rfl ?_
  first | refine z_ieq 10 rfl rfl (fun hc7 => ?_) (fun hc7 => ?_)
  · obtain ⟨hp, hk0, hcl⟩ := fxA_0 hc7
    obtain ⟨P, hP, rfl, hp1, hp2⟩ := ix_of hp
    rw [hp2] at hk0 hcl
    obtain ⟨hpad, hpad2, hPR⟩ := cp3 P hP
    rw [hcl] at hPR
    obtain ⟨_, hPO⟩ := PgR.op hPR
    obtain ⟨mm, rc, hd, nx, od, T, N, Ar, S, ⟨hpg, hEA, hSA, hhd, hnx⟩, hod, hro, hS4⟩ := id hPO
    have hW := hB P hP
    have hE1 := hEA.2.choose_spec.choose_spec.choose_spec.choose_spec.choose_spec.1.1
    have hS1 := hSA.2.choose_spec.choose_spec.choose_spec.choose_spec.1.1
    have hW1 := hW.1
    have hW2 := hW.2.1
    refine z_aload 17 rfl rfl rfl ?_
    refine z_get 20 rfl rfl (by first | exact c1 | exact cp1 | exact hpg | exact (hF2.2 1 (by omega)).trans c1 | fail "lk") rfl ?_
    refine z_iload 21 rfl rfl rfl ?_
    refine z_qld 22 rfl rfl (by first | exact c1 | exact cp1 | exact hpg | exact (hF2.2 1 (by omega)).trans c1 | fail "lk") (by decide) rfl (by omega) (by omega) (cp2 P hP) ?_
    refine z_aload 23 rfl rfl rfl ?_
    refine z_get 26 rfl rfl (by first | exact c1 | exact cp1 | exact hpg | exact (hF2.2 1 (by omega)).trans c1 | fail "lk") rfl ?_
    refine z_cv1 29 rfl rfl (by first | exact c1 | exact cp1 | exact hpg | exact (hF2.2 1 (by omega)).trans c1 | fail "lk") rfl (Nat.le_refl _) (Nat.le_refl _) ?_
    refine c_isGood hpg hEA hSA hW ck1 (fun hgd => ?_) (fun a9 b9 e9 hgd h2 hN2 hF2 => ?_)
    · skip
      refine z_zne 32 rfl rfl (by omega) (fun _ => ?_) (fun h9 => absurd h9 (by omega))
      refine z_aload 40 rfl rfl rfl ?_
      refine z_get 43 rfl rfl (by first | exact c1 | exact cp1 | exact hpg | exact (hF2.2 1 (by omega)).trans c1 | fail "lk") rfl ?_
      refine z_iload 44 rfl rfl rfl ?_
      refine z_qld 45 rfl rfl (by first | exact c1 | exact cp1 | exact hpg | exact (hF2.2 1 (by omega)).trans c1 | fail "lk") (by decide) rfl (by omega) (by omega) (cp2 P hP) ?_
      refine z_cv0 48 rfl rfl (by first | exact c1 | exact cp1 | exact hpg | exact (hF2.2 1 (by omega)).trans c1 | fail "lk") rfl (Nat.le_refl _) (Nat.le_refl _) ?_
      refine c_settle hPO hW hgd (fun h2 hP2 hF2 => ?_)
      refine z_push 49 (nI 0) rfl rfl rfl ?_
      refine z_ireti rfl (Nat.le_refl _) (Nat.le_refl _) ?_
      have e9 : sp_close A (nI P) = (0, A.wPgs (A.pgs.set P (0, true, pgE A.pgs P, pgH A.pgs P))) := by
        rw [sp_close, if_pos hc7, hp2, hgd]
      rw [e9] at q
      exact q h2 (hC.ps (x := (0, true, pgE A.pgs P, pgH A.pgs P)) hP hk0.symm (Or.inl ⟨rfl, Or.inl ⟨rfl, hP2⟩⟩) (fun y hy => hF2.2 y hy) hF2.1).inv (KpX.of hF2 (by omega) (by omega))
    · skip
      refine z_zne 32 rfl rfl (by omega) (fun h9 => absurd h9 (by omega)) (fun _ => ?_)
      refine z_aload 33 rfl rfl rfl ?_
      refine z_push 35 (-8) rfl rfl rfl ?_
      refine z_cv1 38 rfl rfl (by first | exact c1 | exact cp1 | exact hpg | exact (hF2.2 1 (by omega)).trans c1 | fail "lk") rfl (Nat.le_refl _) (Nat.le_refl _) ?_
      have hC2 := hC.bk (b := (a9, b9, e9)) hN2 (fun x hx => hF2.2 x (by omega)) hF2.1
      refine c_ansN hC2 (by decide) (fun h1 hC1 hX1 => ?_)
      refine z_ireti rfl (Nat.le_refl _) (Nat.le_refl _) ?_
      have e8 : sp_close A (nI P) = (-8, (A.wBrk (a9, b9, e9)).tell) := by
        rw [sp_close, if_pos hc7, hp2, hgd]
      rw [e8] at q
      exact q h1 hC1.inv ((KpX.of hF2 (by decide) (by decide)).trans hX1)
  · refine z_aload 11 rfl rfl rfl ?_
    refine z_iload 12 rfl rfl rfl ?_
    refine z_cv1 15 rfl rfl (by first | exact c1 | exact cp1 | exact hpg | exact (hF2.2 1 (by omega)).trans c1 | fail "lk") rfl (Nat.le_refl _) (Nat.le_refl _) ?_
    refine c_ansN hC (by have := fxA_n hc7; omega) (fun h1 hC1 hX1 => ?_)
    refine z_ireti rfl (Nat.le_refl _) (Nat.le_refl _) ?_
    have e9 : sp_close A p = (fxA A.pgs p, A.tell) := if_neg hc7
    rw [e9] at q
    exact q h1 hC1.inv hX1
theorem McI.any {h : mH} {a : Nat} {l : List Pg} {pad : Nat → Nat} {m : Option Mc} (x : McI h a l pad m) : ∃ (p : Nat) (wr : Bool) (ph : Int32) (rule sr pn sw : Nat) (ks : List Nat) (fed pl fi : Nat) (q : List Nat), McAt h a 16 p wr ph rule sr pn sw ks fed pl fi q := by
  cases m with
  | none =>
    obtain ⟨p, wr, rule, sr, pn, sw, ks, fed, pl, fi, x1⟩ := x
    exact ⟨p, wr, _, rule, sr, pn, sw, ks, fed, pl, fi, _, x1⟩
  | some m =>
    obtain ⟨sr, sw, pl, fi, x1, _⟩ := x
    exact ⟨_, _, _, _, _, _, _, _, _, _, _, _, x1⟩
set_option maxRecDepth 100000 in
theorem c_begin {d : Nat} {h : mH} {A : Ab} {pad : Nat → Nat} {sp : Option Nat} {res wrk : Nat} {dd p ru : Int32} {wr : Bool} {Q : mP} (hC : CI h A pad sp res wrk)  (q : ∀ h', CInv h' (sp_begin A dd p wr ru).2 → KpX h h' → Q (some (.int (sp_begin A dd p wr ru).1)) h') : mWP (d + 4) 125 [.ref 1, .int dd, .int p, .int (bI wr), .int ru] h Q := by
  obtain ⟨c1, cr, cp, cb, cu, cq, cs, ck, cru, cm⟩ := id hC
  obtain ⟨cp0, ⟨pf, cp1, cp2⟩, cp3, cp4, cp5⟩ := id cp
  obtain ⟨⟨mf, cm1, cm2⟩, cm3⟩ := id cm
  refine z_in [some (.ref 1), some (.int dd), some (.int p), some (.int (bI wr)), some (.int ru), none] (by rfl) rfl rfl rfl ?_
  refine z_iload 1 rfl rfl rfl ?_
  refine z_cs1 4 rfl rfl rfl (Nat.le_refl _) (Nat.le_refl _) ?_
  refine c_isMachine ?_
  first | refine z_bne 7 rfl rfl (fun hc4 => ?_) (fun hc4 => ?_)
  · obtain ⟨D, hD, rfl, hd1, hd2⟩ := jSt_ix hc4
    refine z_aload 14 rfl rfl rfl ?_
    refine z_iload 15 rfl rfl rfl ?_
    refine z_cv1 18 rfl rfl (by first | exact c1 | exact cp1 | exact cm1 | exact hMx.1 | fail "lk") rfl (Nat.le_refl _) (Nat.le_refl _) ?_
    refine c_closedFinding hC ?_
    refine z_istore 20 rfl rfl rfl rfl ?_
    refine z_iload 22 rfl rfl rfl ?_
    first | refine z_ine 25 rfl rfl (fun hc22 => ?_) (fun hc22 => ?_)
    · refine z_iload 53 rfl rfl rfl ?_
      refine z_ieq 56 rfl rfl (fun h9 => absurd h9 hc22) (fun _ => ?_)
      refine z_aload 57 rfl rfl rfl ?_
      refine z_iload 59 rfl rfl rfl ?_
      refine z_cv1 62 rfl rfl (by first | exact c1 | exact cp1 | exact cm1 | exact hMx.1 | fail "lk") rfl (Nat.le_refl _) (Nat.le_refl _) ?_
      refine c_ansN hC (cfI_n hc22) (fun h1 hC1 hX1 => ?_)
      refine z_ireti rfl (Nat.le_refl _) (Nat.le_refl _) ?_
      have e9 : sp_begin A (nI D) p wr ru = (cfI A.pgs p, A.tell) := by
        rw [← cf_sp (Y := (if 0 ≤ ru.toInt ∧ ru.toInt ≤ (if wr = true then 4 else 3) then (nI 0, A.wMcs (setM A.mcs (nI D).toInt.toNat (p.toInt.toNat, wr, ru.toInt.toNat, 0, 4, [], 0, 0, []))) else (-1, A.tell))) hc22, sp_begin]
        by_cases h8 : 0 ≤ p.toInt ∧ p.toInt < A.pgs.length
        · rw [if_pos h8, if_pos ⟨by omega, h8⟩]
        · rw [if_neg h8, if_neg (fun h9 => h8 h9.2)]
      rw [e9] at q
      exact q h1 hC1.inv hX1
    · refine z_iload 26 rfl rfl rfl ?_
      first | refine z_beq 29 rfl rfl (fun hc26 => ?_) (fun hc26 => ?_)
      · refine z_iload 42 rfl rfl rfl ?_
        refine z_cs1 45 rfl rfl rfl (Nat.le_refl _) (Nat.le_refl _) ?_
        refine c_isReadRule ?_
        first | refine z_bne 48 rfl rfl (fun hc45 => ?_) (fun hc45 => ?_)
        · refine z_iload 53 rfl rfl rfl ?_
          refine z_ieq 56 rfl rfl (fun _ => ?_) (fun h9 => absurd hc22 h9)
          have hru8 : 0 ≤ ru.toInt ∧ ru.toInt ≤ 3 := of_decide_eq_true hc45
          obtain ⟨hr, hcl⟩ := cf_0 hc22
          obtain ⟨P, hP, rfl, hp1, hp2⟩ := ixP cp0 (inR_t hr)
          rw [hp2] at hcl
          obtain ⟨RU, hRU, rfl, hru1, hru2⟩ := ix_of (x := ru) (n := 5) (by omega)
          obtain ⟨p9, wr9, ph9, rule9, sr9, pn9, sw9, ks9, fed9, pl9, fi9, q9, hMx⟩ := (cm3 D hD).any
          refine z_aload 64 rfl rfl rfl ?_
          refine z_get 67 rfl rfl (by first | exact c1 | exact cp1 | exact cm1 | exact hMx.1 | fail "lk") rfl ?_
          refine z_iload 68 rfl rfl rfl ?_
          refine z_qld 69 rfl rfl (by first | exact c1 | exact cp1 | exact cm1 | exact hMx.1 | fail "lk") (by decide) rfl (by omega) (by omega) (cm2 D hD) ?_
          refine z_aload 70 rfl rfl rfl ?_
          refine z_get 73 rfl rfl (by first | exact c1 | exact cp1 | exact cm1 | exact hMx.1 | fail "lk") rfl ?_
          refine z_iload 74 rfl rfl rfl ?_
          refine z_qld 75 rfl rfl (by first | exact c1 | exact cp1 | exact cm1 | exact hMx.1 | fail "lk") (by decide) rfl (by omega) (by omega) (cp2 P hP) ?_
          refine z_iload 76 rfl rfl rfl ?_
          refine z_iload 78 rfl rfl rfl ?_
          refine z_cv3 81 rfl rfl (by first | exact c1 | exact cp1 | exact cm1 | exact hMx.1 | fail "lk") rfl (Nat.le_refl _) (Nat.le_refl _) ?_
          refine c_Mc_start hMx (fun h2 hM2 hF2 => ?_)
          refine z_push 82 (nI 0) rfl rfl rfl ?_
          refine z_ireti rfl (Nat.le_refl _) (Nat.le_refl _) ?_
          have e9 : sp_begin A (nI D) (nI P) wr (nI RU) = (nI 0, A.wMcs (setM A.mcs D (P, wr, RU, 0, 4, [], 0, 0, []))) := by
            rw [sp_begin, if_pos ⟨by omega, hr⟩, hp2, if_pos hcl, if_pos (by rw [hc26]; exact hru8), hd2, hru2]
          rw [e9] at q
          exact q h2 (hC.mc (m := (P, wr, RU, 0, 4, [], 0, 0, [])) hD ⟨0, 0, pl9, 0, hM2, fun _ => ⟨rfl, rfl, fun _ => rfl⟩, fun _ => ⟨rfl, Nat.zero_le _⟩⟩ (fun x hx => hF2.2 x hx) hF2.1).inv (KpX.of hF2 (by omega) (by omega))
        · refine z_push 49 (-1) rfl rfl rfl ?_
          refine z_istore 51 rfl rfl rfl rfl ?_
          refine z_iload 53 rfl rfl rfl ?_
          refine z_jeq 56 rfl rfl (fun h9 => absurd h9 (by decide)) (fun _ => ?_)
          refine z_aload 57 rfl rfl rfl ?_
          refine z_iload 59 rfl rfl rfl ?_
          refine z_cv1 62 rfl rfl (by first | exact c1 | exact cp1 | exact cm1 | exact hMx.1 | fail "lk") rfl (Nat.le_refl _) (Nat.le_refl _) ?_
          refine c_ansN hC (by decide) (fun h1 hC1 hX1 => ?_)
          refine z_ireti rfl (Nat.le_refl _) (Nat.le_refl _) ?_
          obtain ⟨hr, hcl⟩ := cf_0 hc22
          have e9 : sp_begin A (nI D) p wr ru = (-1, A.tell) := by
            rw [sp_begin, if_pos ⟨by omega, hr⟩, if_pos hcl, if_neg ?_]
            intro h9
            rw [hc26, if_neg (by decide)] at h9; exact of_decide_eq_false hc45 h9
          rw [e9] at q
          exact q h1 hC1.inv hX1
      · refine z_iload 31 rfl rfl rfl ?_
        refine z_cs1 34 rfl rfl rfl (Nat.le_refl _) (Nat.le_refl _) ?_
        refine c_isWriteRule ?_
        first | refine z_beq 37 rfl rfl (fun hc34 => ?_) (fun hc34 => ?_)
        · refine z_push 49 (-1) rfl rfl rfl ?_
          refine z_istore 51 rfl rfl rfl rfl ?_
          refine z_iload 53 rfl rfl rfl ?_
          refine z_jeq 56 rfl rfl (fun h9 => absurd h9 (by decide)) (fun _ => ?_)
          refine z_aload 57 rfl rfl rfl ?_
          refine z_iload 59 rfl rfl rfl ?_
          refine z_cv1 62 rfl rfl (by first | exact c1 | exact cp1 | exact cm1 | exact hMx.1 | fail "lk") rfl (Nat.le_refl _) (Nat.le_refl _) ?_
          refine c_ansN hC (by decide) (fun h1 hC1 hX1 => ?_)
          refine z_ireti rfl (Nat.le_refl _) (Nat.le_refl _) ?_
          obtain ⟨hr, hcl⟩ := cf_0 hc22
          have e9 : sp_begin A (nI D) p wr ru = (-1, A.tell) := by
            rw [sp_begin, if_pos ⟨by omega, hr⟩, if_pos hcl, if_neg ?_]
            intro h9
            rw [hc26, if_pos rfl] at h9; exact of_decide_eq_false hc34 h9
          rw [e9] at q
          exact q h1 hC1.inv hX1
        · refine z_goto rfl ?_
          refine z_iload 53 rfl rfl rfl ?_
          refine z_ieq 56 rfl rfl (fun _ => ?_) (fun h9 => absurd hc22 h9)
          have hru8 : 0 ≤ ru.toInt ∧ ru.toInt ≤ 4 := of_decide_eq_true hc34
          obtain ⟨hr, hcl⟩ := cf_0 hc22
          obtain ⟨P, hP, rfl, hp1, hp2⟩ := ixP cp0 (inR_t hr)
          rw [hp2] at hcl
          obtain ⟨RU, hRU, rfl, hru1, hru2⟩ := ix_of (x := ru) (n := 5) (by omega)
          obtain ⟨p9, wr9, ph9, rule9, sr9, pn9, sw9, ks9, fed9, pl9, fi9, q9, hMx⟩ := (cm3 D hD).any
          refine z_aload 64 rfl rfl rfl ?_
          refine z_get 67 rfl rfl (by first | exact c1 | exact cp1 | exact cm1 | exact hMx.1 | fail "lk") rfl ?_
          refine z_iload 68 rfl rfl rfl ?_
          refine z_qld 69 rfl rfl (by first | exact c1 | exact cp1 | exact cm1 | exact hMx.1 | fail "lk") (by decide) rfl (by omega) (by omega) (cm2 D hD) ?_
          refine z_aload 70 rfl rfl rfl ?_
          refine z_get 73 rfl rfl (by first | exact c1 | exact cp1 | exact cm1 | exact hMx.1 | fail "lk") rfl ?_
          refine z_iload 74 rfl rfl rfl ?_
          refine z_qld 75 rfl rfl (by first | exact c1 | exact cp1 | exact cm1 | exact hMx.1 | fail "lk") (by decide) rfl (by omega) (by omega) (cp2 P hP) ?_
          refine z_iload 76 rfl rfl rfl ?_
          refine z_iload 78 rfl rfl rfl ?_
          refine z_cv3 81 rfl rfl (by first | exact c1 | exact cp1 | exact cm1 | exact hMx.1 | fail "lk") rfl (Nat.le_refl _) (Nat.le_refl _) ?_
          refine c_Mc_start hMx (fun h2 hM2 hF2 => ?_)
          refine z_push 82 (nI 0) rfl rfl rfl ?_
          refine z_ireti rfl (Nat.le_refl _) (Nat.le_refl _) ?_
          have e9 : sp_begin A (nI D) (nI P) wr (nI RU) = (nI 0, A.wMcs (setM A.mcs D (P, wr, RU, 0, 4, [], 0, 0, []))) := by
            rw [sp_begin, if_pos ⟨by omega, hr⟩, hp2, if_pos hcl, if_pos (by rw [hc26]; exact hru8), hd2, hru2]
          rw [e9] at q
          exact q h2 (hC.mc (m := (P, wr, RU, 0, 4, [], 0, 0, [])) hD ⟨0, 0, pl9, 0, hM2, fun _ => ⟨rfl, rfl, fun _ => rfl⟩, fun _ => ⟨rfl, Nat.zero_le _⟩⟩ (fun x hx => hF2.2 x hx) hF2.1).inv (KpX.of hF2 (by omega) (by omega))
  · refine z_aload 8 rfl rfl rfl ?_
    refine z_push 9 (-1) rfl rfl rfl ?_
    refine z_cv1 12 rfl rfl (by first | exact c1 | exact cp1 | exact cm1 | exact hMx.1 | fail "lk") rfl (Nat.le_refl _) (Nat.le_refl _) ?_
    refine c_ansN hC (by decide) (fun h1 hC1 hX1 => ?_)
    refine z_ireti rfl (Nat.le_refl _) (Nat.le_refl _) ?_
    have e9 : sp_begin A dd p wr ru = (-1, A.tell) := if_neg (fun h9 => of_decide_eq_false hc4 (by have := h9.1; omega))
    rw [e9] at q
    exact q h1 hC1.inv hX1
