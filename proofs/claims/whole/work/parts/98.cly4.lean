/-! the class: send, fallback -/
theorem CI.bt {h h' : mH} {A : Ab} {pad : Nat → Nat} {sp : Option Nat} {res wrk : Nat} {l : List Nat} (hC : CI h A pad sp res wrk) (hw : RwAt h' 11 2000 l) (f : ∀ x, (x < 11 ∨ 13 ≤ x) → h'.2 x = h.2 x) (hs : h'.1 = h.1) : CI h' A pad sp res wrk := by
  have cr := hC.2.1
  obtain ⟨⟨lw, s1⟩, _, ⟨_, _, _, _, _, s3⟩, ⟨_, _, _, _, _, s4⟩, _, s5⟩ := hC.2.2.2.2.2.2.1
  exact hC.sc ⟨⟨lw, s1.e (fun x x1 x2 => f x (by omega))⟩, ⟨l, hw⟩, ⟨_, _, _, _, _, s3.e (fun x x1 x2 => f x (by omega))⟩, ⟨_, _, _, _, _, s4.e (fun x x1 x2 => f x (by omega))⟩, _, (f _ (by omega)).trans s5⟩ (fun x x1 x2 x3 x4 => f x (by omega)) hs
theorem CI.wo {h h' : mH} {A : Ab} {pad : Nat → Nat} {sp : Option Nat} {res wrk : Nat} {l : List Nat} (hC : CI h A pad sp res wrk) (hw : RwAt h' wrk 6000 l) (f : Fr wrk (wrk + 2) h h') : CI h' A pad sp res wrk := by
  have cr := hC.2.1
  obtain ⟨_, _, _, ⟨_, _, _, _, _, s4⟩, _⟩ := hC.2.2.2.2.2.2.1
  exact hC.wk hw (s4.e (fun x x1 x2 => f.2 x (by omega))) (fun x _ x2 => f.2 x x2) f.1
theorem by2 {v : Nat} (h : v < 65536) : byL 2 v = [v / 256] ++ [v % 256] := by
  rw [byL_b]
  show [v / 2 ^ (8 * 1) % 256, v / 2 ^ (8 * 0) % 256] = [v / 256, v % 256]
  rw [show v / 2 ^ (8 * 1) % 256 = v / 256 by omega, show v / 2 ^ (8 * 0) % 256 = v % 256 by omega]
theorem sndL_by {E : List En} {H : List Sh} : sndM E H ++ byL 2 (sndS E H) = sndL E H := by
  rw [by2 (by have : sndS E H < 65521 := Nat.mod_lt _ (by decide); omega), sndL, List.append_assoc]
theorem tf_0 {l : List Pg} {p : Int32} (h : tfI l p = 0) : (0 ≤ p.toInt ∧ p.toInt < l.length) ∧ pgK l p.toInt.toNat = 0 := by
  unfold tfI at h
  by_cases e1 : 0 ≤ p.toInt ∧ p.toInt < l.length
  · rw [if_pos e1] at h
    by_cases e2 : pgK l p.toInt.toNat = 0
    · exact ⟨e1, e2⟩
    · rw [if_neg e2] at h; exact absurd h (by decide)
  · rw [if_neg e1] at h; exact absurd h (by decide)
theorem tf_sp {l : List Pg} {p : Int32} {Y : Int32 × Ab} {T : Ab} (h : ¬ tfI l p = 0) : (if 0 ≤ p.toInt ∧ p.toInt < l.length then (if pgK l p.toInt.toNat = 0 then Y else (-3, T)) else (-1, T)) = (tfI l p, T) := by
  unfold tfI at h ⊢
  by_cases e1 : 0 ≤ p.toInt ∧ p.toInt < l.length
  · rw [if_pos e1] at h ⊢
    rw [if_pos e1]
    by_cases e2 : pgK l p.toInt.toNat = 0
    · rw [if_pos e2] at h; exact absurd rfl h
    · rw [if_neg e2, if_neg e2]
  · rw [if_neg e1, if_neg e1]
set_option maxRecDepth 100000 in
theorem c_send {d : Nat} {h : mH} {A : Ab} {pad : Nat → Nat} {sp : Option Nat} {res wrk : Nat} {p : Int32} {Q : mP} (hC : CI h A pad sp res wrk) (hA : AbW A)  (q : ∀ h', CInv h' (sp_send A p).2 → KpX h h' → Q (some (.int (sp_send A p).1)) h') : mWP (d + 5) 136 [.ref 1, .int p] h Q := by
  obtain ⟨c1, cr, cp, cb, cu, cq, cs, ck, cru, cm⟩ := id hC
  obtain ⟨cp0, ⟨pf, cp1, cp2⟩, cp3, cp4, cp5⟩ := id cp
  obtain ⟨hPB, hKb, hGd, hbb, hub, hsg1, hsg2, hFW, hFd⟩ := id hA
  obtain ⟨lw, hlw⟩ := cs.1
  refine z_in [some (.ref 1), some (.int p), none] (by rfl) rfl rfl rfl ?_
  refine z_aload 1 rfl rfl rfl ?_
  refine z_iload 2 rfl rfl rfl ?_
  refine z_cv1 5 rfl rfl (by first | exact c1 | exact cp1 | exact hpg | exact hlw.1 | exact c11 | exact cp11 | exact hpg1 | exact c12 | exact cp12 | exact hpg2 | exact c13 | exact c14 | exact hw1.1 | exact hw2.1 | exact hw3.1 | exact hw4.1 | exact hEo | exact hSo | fail "lk") rfl (Nat.le_refl _) (Nat.le_refl _) ?_
  refine c_tableFinding hC hKb ?_
  refine z_istore 6 rfl rfl rfl rfl ?_
  refine z_iload 7 rfl rfl rfl ?_
  first | refine z_ine 10 rfl rfl (fun hc7 => ?_) (fun hc7 => ?_)
  · refine z_iload 26 rfl rfl rfl ?_
    refine z_ieq 29 rfl rfl (fun h9 => absurd h9 hc7) (fun _ => ?_)
    refine z_aload 30 rfl rfl rfl ?_
    refine z_iload 31 rfl rfl rfl ?_
    refine z_cv1 34 rfl rfl (by first | exact c1 | exact cp1 | exact hpg | exact hlw.1 | exact c11 | exact cp11 | exact hpg1 | exact c12 | exact cp12 | exact hpg2 | exact c13 | exact c14 | exact hw1.1 | exact hw2.1 | exact hw3.1 | exact hw4.1 | exact hEo | exact hSo | fail "lk") rfl (Nat.le_refl _) (Nat.le_refl _) ?_
    refine c_ansN hC (tfI_n hc7) (fun h1 hC1 hX1 => ?_)
    refine z_ireti rfl (Nat.le_refl _) (Nat.le_refl _) ?_
    have e9 : sp_send A p = (tfI A.pgs p, A.tell) := tf_sp hc7
    rw [e9] at q
    exact q h1 hC1.inv hX1
  · obtain ⟨hr, hk0⟩ := tf_0 hc7
    obtain ⟨P, hP, rfl, hp1, hp2⟩ := ixP cp0 (inR_t hr)
    rw [hp2] at hk0
    obtain ⟨m9, rc9, hpg⟩ := hC.pg hP
    refine z_aload 11 rfl rfl rfl ?_
    refine z_get 14 rfl rfl (by first | exact c1 | exact cp1 | exact hpg | exact hlw.1 | exact c11 | exact cp11 | exact hpg1 | exact c12 | exact cp12 | exact hpg2 | exact c13 | exact c14 | exact hw1.1 | exact hw2.1 | exact hw3.1 | exact hw4.1 | exact hEo | exact hSo | fail "lk") rfl ?_
    refine z_iload 15 rfl rfl rfl ?_
    refine z_qld 16 rfl rfl (by first | exact c1 | exact cp1 | exact hpg | exact hlw.1 | exact c11 | exact cp11 | exact hpg1 | exact c12 | exact cp12 | exact hpg2 | exact c13 | exact c14 | exact hw1.1 | exact hw2.1 | exact hw3.1 | exact hw4.1 | exact hEo | exact hSo | fail "lk") (by decide) rfl (by omega) (by omega) (cp2 P hP) ?_
    refine z_get 19 rfl rfl (by first | exact c1 | exact cp1 | exact hpg | exact hlw.1 | exact c11 | exact cp11 | exact hpg1 | exact c12 | exact cp12 | exact hpg2 | exact c13 | exact c14 | exact hw1.1 | exact hw2.1 | exact hw3.1 | exact hw4.1 | exact hEo | exact hSo | fail "lk") rfl ?_
    first | refine z_bne 22 rfl rfl (fun hc19 => ?_) (fun hc19 => ?_)
    · refine z_iload 26 rfl rfl rfl ?_
      refine z_ieq 29 rfl rfl (fun _ => ?_) (fun h9 => absurd hc7 h9)
      obtain ⟨hpad, hpad2, hPR⟩ := cp3 P hP
      rw [hc19] at hPR
      have hPC := PgR.cl hPR
      rcases hPC with ⟨_, m8, rc8, hd, nx, od, T, N, Ar, S, ⟨_, hEA, hSA, _⟩, _⟩ | ⟨h9, _⟩
      rotate_left
      · exact absurd hk0 h9
      have hW := hPB P hP
      have hW1 := hW.1
      have hW2 := hW.2.1
      have cr9 : 7 ≤ wrk ∧ wrk ≤ 9 := by omega
      have hE1 := hEA.1
      have hS1 := hSA.1
      refine z_aload 36 rfl rfl rfl ?_
      refine z_get 39 rfl rfl (by first | exact c1 | exact cp1 | exact hpg | exact hlw.1 | exact c11 | exact cp11 | exact hpg1 | exact c12 | exact cp12 | exact hpg2 | exact c13 | exact c14 | exact hw1.1 | exact hw2.1 | exact hw3.1 | exact hw4.1 | exact hEo | exact hSo | fail "lk") rfl ?_
      refine z_cv0 42 rfl rfl (by first | exact c1 | exact cp1 | exact hpg | exact hlw.1 | exact c11 | exact cp11 | exact hpg1 | exact c12 | exact cp12 | exact hpg2 | exact c13 | exact c14 | exact hw1.1 | exact hw2.1 | exact hw3.1 | exact hw4.1 | exact hEo | exact hSo | fail "lk") rfl (Nat.le_refl _) (Nat.le_refl _) ?_
      refine w_clear hlw (fun h1 hw1 hF1 => ?_)
      have g0 : Fr wrk (wrk + 2) h h := ⟨rfl, fun _ _ => rfl⟩
      have g1 : Fr wrk (wrk + 2) h h1 := ⟨hF1.1.trans g0.1, fun x hx => (hF1.2 x hx).trans (g0.2 x hx)⟩
      have c11 := (g1.2 1 (by omega)).trans c1
      have cp11 := (g1.2 2 (by omega)).trans cp1
      have hpg1 := (g1.2 (pad P) (by omega)).trans hpg
      have hEA1 := hEA.e (h' := h1) (fun x x1 x2 => g1.2 x (by omega))
      have hEo := hEA1.2.choose_spec.choose_spec.choose_spec.choose_spec.choose_spec.1.1
      refine z_aload 43 rfl rfl rfl ?_
      refine z_get 46 rfl rfl (by first | exact c1 | exact cp1 | exact hpg | exact hlw.1 | exact c11 | exact cp11 | exact hpg1 | exact c12 | exact cp12 | exact hpg2 | exact c13 | exact c14 | exact hw1.1 | exact hw2.1 | exact hw3.1 | exact hw4.1 | exact hEo | exact hSo | fail "lk") rfl ?_
      refine z_iload 47 rfl rfl rfl ?_
      refine z_qld 48 rfl rfl (by first | exact c1 | exact cp1 | exact hpg | exact hlw.1 | exact c11 | exact cp11 | exact hpg1 | exact c12 | exact cp12 | exact hpg2 | exact c13 | exact c14 | exact hw1.1 | exact hw2.1 | exact hw3.1 | exact hw4.1 | exact hEo | exact hSo | fail "lk") (by decide) rfl (by omega) (by omega) (cp2 P hP) ?_
      refine z_get 51 rfl rfl (by first | exact c1 | exact cp1 | exact hpg | exact hlw.1 | exact c11 | exact cp11 | exact hpg1 | exact c12 | exact cp12 | exact hpg2 | exact c13 | exact c14 | exact hw1.1 | exact hw2.1 | exact hw3.1 | exact hw4.1 | exact hEo | exact hSo | fail "lk") rfl ?_
      refine z_aload 52 rfl rfl rfl ?_
      refine z_get 55 rfl rfl (by first | exact c1 | exact cp1 | exact hpg | exact hlw.1 | exact c11 | exact cp11 | exact hpg1 | exact c12 | exact cp12 | exact hpg2 | exact c13 | exact c14 | exact hw1.1 | exact hw2.1 | exact hw3.1 | exact hw4.1 | exact hEo | exact hSo | fail "lk") rfl ?_
      refine z_cv1 58 rfl rfl (by first | exact c1 | exact cp1 | exact hpg | exact hlw.1 | exact c11 | exact cp11 | exact hpg1 | exact c12 | exact cp12 | exact hpg2 | exact c13 | exact c14 | exact hw1.1 | exact hw2.1 | exact hw3.1 | exact hw4.1 | exact hEo | exact hSo | fail "lk") rfl (Nat.le_refl _) (Nat.le_refl _) ?_
      refine c_En_writeTo hEA1 hW hw1 (by decide) (by rw [List.length_nil]; omega) (by omega) (fun h2 hw2 hF2 => ?_)
      rw [List.nil_append] at hw2
      have g2 : Fr wrk (wrk + 2) h h2 := ⟨hF2.1.trans g1.1, fun x hx => (hF2.2 x hx).trans (g1.2 x hx)⟩
      have c12 := (g2.2 1 (by omega)).trans c1
      have cp12 := (g2.2 2 (by omega)).trans cp1
      have hpg2 := (g2.2 (pad P) (by omega)).trans hpg
      have hSA2 := hSA.e (h' := h2) (fun x x1 x2 => g2.2 x (by omega))
      have hSo := hSA2.2.choose_spec.choose_spec.choose_spec.choose_spec.1.1
      have hel := enBs_ln9 hW (pgE A.pgs P).length (Nat.le_refl _)
      refine z_aload 59 rfl rfl rfl ?_
      refine z_get 62 rfl rfl (by first | exact c1 | exact cp1 | exact hpg | exact hlw.1 | exact c11 | exact cp11 | exact hpg1 | exact c12 | exact cp12 | exact hpg2 | exact c13 | exact c14 | exact hw1.1 | exact hw2.1 | exact hw3.1 | exact hw4.1 | exact hEo | exact hSo | fail "lk") rfl ?_
      refine z_iload 63 rfl rfl rfl ?_
      refine z_qld 64 rfl rfl (by first | exact c1 | exact cp1 | exact hpg | exact hlw.1 | exact c11 | exact cp11 | exact hpg1 | exact c12 | exact cp12 | exact hpg2 | exact c13 | exact c14 | exact hw1.1 | exact hw2.1 | exact hw3.1 | exact hw4.1 | exact hEo | exact hSo | fail "lk") (by decide) rfl (by omega) (by omega) (cp2 P hP) ?_
      refine z_get 67 rfl rfl (by first | exact c1 | exact cp1 | exact hpg | exact hlw.1 | exact c11 | exact cp11 | exact hpg1 | exact c12 | exact cp12 | exact hpg2 | exact c13 | exact c14 | exact hw1.1 | exact hw2.1 | exact hw3.1 | exact hw4.1 | exact hEo | exact hSo | fail "lk") rfl ?_
      refine z_aload 68 rfl rfl rfl ?_
      refine z_get 71 rfl rfl (by first | exact c1 | exact cp1 | exact hpg | exact hlw.1 | exact c11 | exact cp11 | exact hpg1 | exact c12 | exact cp12 | exact hpg2 | exact c13 | exact c14 | exact hw1.1 | exact hw2.1 | exact hw3.1 | exact hw4.1 | exact hEo | exact hSo | fail "lk") rfl ?_
      refine z_cv1 74 rfl rfl (by first | exact c1 | exact cp1 | exact hpg | exact hlw.1 | exact c11 | exact cp11 | exact hpg1 | exact c12 | exact cp12 | exact hpg2 | exact c13 | exact c14 | exact hw1.1 | exact hw2.1 | exact hw3.1 | exact hw4.1 | exact hEo | exact hSo | fail "lk") rfl (Nat.le_refl _) (Nat.le_refl _) ?_
      refine c_Sh_writeTo hSA2 hw2 (by decide) (by rw [List.length_append, List.length_singleton]; omega) (by omega) (fun h3 hw3 hF3 => ?_)
      have g3 : Fr wrk (wrk + 2) h h3 := ⟨hF3.1.trans g2.1, fun x hx => (hF3.2 x hx).trans (g2.2 x hx)⟩
      have c13 := (g3.2 1 (by omega)).trans c1
      have cp13 := (g3.2 2 (by omega)).trans cp1
      have hpg3 := (g3.2 (pad P) (by omega)).trans hpg
      replace hw3 : RwAt h3 wrk 6000 (sndM (pgE A.pgs P) (pgH A.pgs P)) := hw3
      have hsl := sndM_len hW
      have hss : sndS (pgE A.pgs P) (pgH A.pgs P) < 65521 := Nat.mod_lt _ (by decide)
      refine z_aload 75 rfl rfl rfl ?_
      refine z_get 78 rfl rfl (by first | exact c1 | exact cp1 | exact hpg | exact hlw.1 | exact c11 | exact cp11 | exact hpg1 | exact c12 | exact cp12 | exact hpg2 | exact c13 | exact c14 | exact hw1.1 | exact hw2.1 | exact hw3.1 | exact hw4.1 | exact hEo | exact hSo | fail "lk") rfl ?_
      refine z_aload 79 rfl rfl rfl ?_
      refine z_get 82 rfl rfl (by first | exact c1 | exact cp1 | exact hpg | exact hlw.1 | exact c11 | exact cp11 | exact hpg1 | exact c12 | exact cp12 | exact hpg2 | exact c13 | exact c14 | exact hw1.1 | exact hw2.1 | exact hw3.1 | exact hw4.1 | exact hEo | exact hSo | fail "lk") rfl ?_
      refine z_aload 83 rfl rfl rfl ?_
      refine z_get 86 rfl rfl (by first | exact c1 | exact cp1 | exact hpg | exact hlw.1 | exact c11 | exact cp11 | exact hpg1 | exact c12 | exact cp12 | exact hpg2 | exact c13 | exact c14 | exact hw1.1 | exact hw2.1 | exact hw3.1 | exact hw4.1 | exact hEo | exact hSo | fail "lk") rfl ?_
      refine z_get 89 rfl rfl (by first | exact c1 | exact cp1 | exact hpg | exact hlw.1 | exact c11 | exact cp11 | exact hpg1 | exact c12 | exact cp12 | exact hpg2 | exact c13 | exact c14 | exact hw1.1 | exact hw2.1 | exact hw3.1 | exact hw4.1 | exact hEo | exact hSo | fail "lk") rfl ?_
      refine z_cs2 92 rfl rfl rfl (Nat.le_refl _) (Nat.le_refl _) ?_
      refine c_checkSum hw3 (by decide) (sndM_b hW) (Nat.le_refl _) (by omega) ?_
      rw [show smN (sndM (pgE A.pgs P) (pgH A.pgs P)) (sndM (pgE A.pgs P) (pgH A.pgs P)).length % 65521 = sndS (pgE A.pgs P) (pgH A.pgs P) from rfl]
      refine z_push 93 (nI 2) rfl rfl rfl ?_
      refine z_cv2 96 rfl rfl (by first | exact c1 | exact cp1 | exact hpg | exact hlw.1 | exact c11 | exact cp11 | exact hpg1 | exact c12 | exact cp12 | exact hpg2 | exact c13 | exact c14 | exact hw1.1 | exact hw2.1 | exact hw3.1 | exact hw4.1 | exact hEo | exact hSo | fail "lk") rfl (Nat.le_refl _) (Nat.le_refl _) ?_
      refine w_addNumber hw3 (by decide) (by decide) (by omega) (by omega) (fun h4 hw4 hF4 => ?_)
      rw [sndL_by] at hw4
      have g4 : Fr wrk (wrk + 2) h h4 := ⟨hF4.1.trans g3.1, fun x hx => (hF4.2 x hx).trans (g3.2 x hx)⟩
      have c14 := (g4.2 1 (by omega)).trans c1
      have cp14 := (g4.2 2 (by omega)).trans cp1
      have hpg4 := (g4.2 (pad P) (by omega)).trans hpg
      have hC4 := hC.wo hw4 g4
      have hl4 := hw4.2.1
      refine z_aload 97 rfl rfl rfl ?_
      refine z_aload 98 rfl rfl rfl ?_
      refine z_get 101 rfl rfl (by first | exact c1 | exact cp1 | exact hpg | exact hlw.1 | exact c11 | exact cp11 | exact hpg1 | exact c12 | exact cp12 | exact hpg2 | exact c13 | exact c14 | exact hw1.1 | exact hw2.1 | exact hw3.1 | exact hw4.1 | exact hEo | exact hSo | fail "lk") rfl ?_
      refine z_get 104 rfl rfl (by first | exact c1 | exact cp1 | exact hpg | exact hlw.1 | exact c11 | exact cp11 | exact hpg1 | exact c12 | exact cp12 | exact hpg2 | exact c13 | exact c14 | exact hw1.1 | exact hw2.1 | exact hw3.1 | exact hw4.1 | exact hEo | exact hSo | fail "lk") rfl ?_
      refine z_push 105 (nI 2) rfl rfl rfl ?_
      refine z_cv2 108 rfl rfl (by first | exact c1 | exact cp1 | exact hpg | exact hlw.1 | exact c11 | exact cp11 | exact hpg1 | exact c12 | exact cp12 | exact hpg2 | exact c13 | exact c14 | exact hw1.1 | exact hw2.1 | exact hw3.1 | exact hw4.1 | exact hEo | exact hSo | fail "lk") rfl (Nat.le_refl _) (Nat.le_refl _) ?_
      refine c_keepP hC4 hw4 (by rw [nI_toInt (by omega)]; omega) (fun h5 hC5 hF5 => ?_)
      refine z_ireti rfl (Nat.le_refl _) (Nat.le_refl _) ?_
      have e9 : sp_send A (nI P) = (nI (sndL (pgE A.pgs P) (pgH A.pgs P)).length, A.wRes (2, sndL (pgE A.pgs P) (pgH A.pgs P))) := by
        rw [sp_send, if_pos hr, hp2, if_pos hk0, if_pos hc19]
      rw [e9] at q
      exact q h5 hC5.inv ⟨fun x hx => (hF5.2 x (by omega)).trans (g4.2 x (by omega)), by rw [hF5.1, g4.1]; exact Nat.le_refl _⟩
    · refine z_push 24 (-5) rfl rfl rfl ?_
      refine z_istore 25 rfl rfl rfl rfl ?_
      refine z_iload 26 rfl rfl rfl ?_
      refine z_jeq 29 rfl rfl (fun h9 => absurd h9 (by decide)) (fun _ => ?_)
      refine z_aload 30 rfl rfl rfl ?_
      refine z_iload 31 rfl rfl rfl ?_
      refine z_cv1 34 rfl rfl (by first | exact c1 | exact cp1 | exact hpg | exact hlw.1 | exact c11 | exact cp11 | exact hpg1 | exact c12 | exact cp12 | exact hpg2 | exact c13 | exact c14 | exact hw1.1 | exact hw2.1 | exact hw3.1 | exact hw4.1 | exact hEo | exact hSo | fail "lk") rfl (Nat.le_refl _) (Nat.le_refl _) ?_
      refine c_ansN hC (by decide) (fun h1 hC1 hX1 => ?_)
      refine z_ireti rfl (Nat.le_refl _) (Nat.le_refl _) ?_
      have e9 : sp_send A (nI P) = (-5, A.tell) := by
        rw [sp_send, if_pos hr, hp2, if_pos hk0, if_neg (by rw [hc19]; decide)]
      rw [e9] at q
      exact q h1 hC1.inv hX1
theorem ptA_ge {us : List Nat} : ∀ (k a : Nat) (acc ps : List Nat), ptA us k a acc = some ps → acc.length ≤ ps.length
  | 0, a, acc, ps, h => by rw [ptA] at h; cases h; exact Nat.le_refl _
  | k + 1, a, acc, ps, h => by
    rw [ptA] at h
    split at h
    · cases h; exact Nat.le_refl _
    · split at h
      · cases h
      · have := ptA_ge k _ _ _ h
        rw [List.length_append, List.length_singleton] at this
        omega
theorem ptA_e {us : List Nat} {k a : Nat} {acc : List Nat} (h : us.length ≤ a) : ptA us (k + 1) a acc = some acc := by rw [ptA, if_pos h]
theorem ptA_n {us : List Nat} {k a : Nat} {acc : List Nat} (h : ¬ us.length ≤ a) (h2 : (unA us a).1 = 0) : ptA us (k + 1) a acc = none := by rw [ptA, if_neg h, if_pos h2]
theorem ptA_g {us : List Nat} {k a : Nat} {acc : List Nat} (h : ¬ us.length ≤ a) (h2 : ¬ (unA us a).1 = 0) : ptA us (k + 1) a acc = ptA us k (a + (unA us a).1) (acc ++ [(unA us a).2]) := by rw [ptA, if_neg h, if_neg h2]
theorem ptA_0 {us : List Nat} (h : ptsU us = some []) : us = [] := by
  unfold ptsU at h
  cases us with
  | nil => rfl
  | cons x l =>
    exfalso
    by_cases e : (unA (x :: l) 0).1 = 0
    · rw [ptA_n (by simp) e] at h; cases h
    · rw [ptA_g (by simp) e] at h
      have := ptA_ge _ _ _ _ h
      simp at this
set_option maxRecDepth 100000 in
theorem c_unitsAreParts {d : Nat} {h0 : mH} {A : Ab} {pad : Nat → Nat} {sp : Option Nat} {res wrk : Nat}  {Q : mP} (hC : CI h0 A pad sp res wrk) (hub : ∀ j, A.uns.getD j 0 < 65536)  (q1 : ∀ ps, ptsU A.uns = some ps → ps.length ≤ 4 → ∀ h', RwAt h' 11 2000 ps → Fr 11 13 h0 h' → Q (some (.int (nI 1))) h') (q0 : (ptsU A.uns = none ∨ ∃ ps, ptsU A.uns = some ps ∧ 4 < ps.length) → ∀ h', (∃ l, RwAt h' 11 2000 l) → Fr 11 13 h0 h' → Q (some (.int (nI 0))) h') : mWP (d + 3) 169 [.ref 1] h0 Q := by
  obtain ⟨c1, cr, cp, cb, cu, cq, cs, ck, cru, cm⟩ := id hC
  obtain ⟨cp0, ⟨pf, cp1, cp2⟩, cp3, cp4, cp5⟩ := id cp
  obtain ⟨lb, hlb⟩ := cs.2.1
  have hul := cu.2.1
  have loop : ∀ k9 a acc h o2, A.uns.length < a + k9 → a ≤ A.uns.length → acc.length ≤ 4 → ptsU A.uns = ptA A.uns k9 a acc → RwAt h 11 2000 acc → Fr 11 13 h0 h → mZ (d + 2) tk_169 0 0 Q 9 [some (.ref 1), some (.int (nI a)), o2] [] h 0 0 := by
    intro k9
    induction k9 with
    | zero => intro a acc h o2 h1 h2; omega
    | succ k9 ih =>
      intro a acc h o2 h1 h2 hl hX hwb hFx
      have hk1 := (hFx.2 1 (by omega)).trans c1
      have hrow : RwAt h 5 1000 A.uns := cu.e (fun x x1 x2 => hFx.2 x (by omega))
      refine z_iload 10 rfl rfl rfl ?_
      refine z_aload 11 rfl rfl rfl ?_
      refine z_get 14 rfl rfl (by first | exact hk1 | exact hrow.1 | exact hwb.1 | exact h2x | exact hw2.1 | fail "lk") rfl ?_
      refine z_get 17 rfl rfl (by first | exact hk1 | exact hrow.1 | exact hwb.1 | exact h2x | exact hw2.1 | fail "lk") rfl ?_
      refine z_nge 20 rfl rfl (by omega) (by omega) (fun hc17 => ?_) (fun hc17 => ?_)
      · refine z_push 70 (nI 1) rfl rfl rfl ?_
        refine z_iretb rfl (Nat.le_refl _) (Nat.le_refl _) (by first | decide | exact bI_01 _) ?_
        rw [ptA_e (by omega)] at hX
        exact q1 acc hX hl h hwb hFx
      · refine z_aload 21 rfl rfl rfl ?_
        refine z_get 24 rfl rfl (by first | exact hk1 | exact hrow.1 | exact hwb.1 | exact h2x | exact hw2.1 | fail "lk") rfl ?_
        refine z_iload 25 rfl rfl rfl ?_
        refine z_cv1 28 rfl rfl (by first | exact hk1 | exact hrow.1 | exact hwb.1 | exact h2x | exact hw2.1 | fail "lk") rfl (Nat.le_refl _) (Nat.le_refl _) ?_
        refine w_pointAt hrow (by omega) hub (by omega) ?_
        rcases unA_c (a := a) hub with ⟨hu0, hu2⟩ | ⟨hu1, hu2⟩ | ⟨hu1, hu2, hu3, hu4⟩
        · rw [show uP A.uns a = -1 from if_pos hu0]
          refine z_istore 29 rfl rfl rfl rfl ?_
          refine z_iload 30 rfl rfl rfl ?_
          refine z_push 31 (-1) rfl rfl rfl ?_
          refine z_ceq 34 rfl rfl (fun _ => ?_) (fun h9 => absurd h9 (by decide))
          refine z_push 46 (nI 0) rfl rfl rfl ?_
          refine z_iretb rfl (Nat.le_refl _) (Nat.le_refl _) (by first | decide | exact bI_01 _) ?_
          rw [ptA_n (by omega) hu0] at hX
          exact q0 (Or.inl hX) h ⟨_, hwb⟩ hFx
        · have hu0 : ¬ (unA A.uns a).1 = 0 := by omega
          rw [show uP A.uns a = nI (unA A.uns a).2 from if_neg hu0]
          refine z_istore 29 rfl rfl rfl rfl ?_
          refine z_iload 30 rfl rfl rfl ?_
          refine z_push 31 (-1) rfl rfl rfl ?_
          refine z_ceq 34 rfl rfl (fun h9 => absurd h9 (nI_ne1 (by omega))) (fun _ => ?_)
          refine z_aload 35 rfl rfl rfl ?_
          refine z_get 38 rfl rfl (by first | exact hk1 | exact hrow.1 | exact hwb.1 | exact h2x | exact hw2.1 | fail "lk") rfl ?_
          refine z_get 41 rfl rfl (by first | exact hk1 | exact hrow.1 | exact hwb.1 | exact h2x | exact hw2.1 | fail "lk") rfl ?_
          refine z_push 42 (nI 4) rfl rfl rfl ?_
          refine z_nlt 45 rfl rfl (by omega) (by omega) (fun hc42 => ?_) (fun hc42 => ?_)
          · refine z_aload 48 rfl rfl rfl ?_
            refine z_get 51 rfl rfl (by first | exact hk1 | exact hrow.1 | exact hwb.1 | exact h2x | exact hw2.1 | fail "lk") rfl ?_
            refine z_iload 52 rfl rfl rfl ?_
            refine z_cv1 55 rfl rfl (by first | exact hk1 | exact hrow.1 | exact hwb.1 | exact h2x | exact hw2.1 | fail "lk") rfl (Nat.le_refl _) (Nat.le_refl _) ?_
            refine w_addN hwb (by decide) (by omega) (fun h2 hw2 hF2 => ?_)
            have h2x := (hF2.2 1 (by omega)).trans hk1
            refine z_pop 56 rfl rfl ?_
            refine z_iload 57 rfl rfl rfl ?_
            refine z_iload 58 rfl rfl rfl ?_
            refine z_cs1 61 rfl rfl rfl (Nat.le_refl _) (Nat.le_refl _) ?_
            refine c_lowHalvesOf ?_
            rw [jLh_0 hu2]
            refine z_bop 62 _ rfl rfl (by first | with_reducible exact zb_0 _ _ | exact zd_0 _ _) ?_
            refine z_istore 63 rfl rfl rfl rfl ?_
            refine z_iinc 66 _ rfl rfl rfl rfl (by first | with_reducible exact zi_1 _ | rfl) ?_
            refine z_goto rfl ?_
            rw [ptA_g (by omega) hu0, hu1] at hX
            exact ih (a + 1) _ h2 _ (by omega) (by omega) (by rw [List.length_append, List.length_singleton]; omega) hX hw2 ⟨hF2.1.trans hFx.1, fun x hx => (hF2.2 x hx).trans (hFx.2 x hx)⟩
          · refine z_push 46 (nI 0) rfl rfl rfl ?_
            refine z_iretb rfl (Nat.le_refl _) (Nat.le_refl _) (by first | decide | exact bI_01 _) ?_
            rw [ptA_g (by omega) hu0] at hX
            refine q0 ?_ h ⟨_, hwb⟩ hFx
            rcases hz : ptsU A.uns with _ | ps
            · exact Or.inl rfl
            · refine Or.inr ⟨ps, rfl, ?_⟩
              rw [hz] at hX
              have h9 := ptA_ge _ _ _ _ hX.symm
              rw [List.length_append, List.length_singleton] at h9
              omega
        · have hu0 : ¬ (unA A.uns a).1 = 0 := by omega
          rw [show uP A.uns a = nI (unA A.uns a).2 from if_neg hu0]
          refine z_istore 29 rfl rfl rfl rfl ?_
          refine z_iload 30 rfl rfl rfl ?_
          refine z_push 31 (-1) rfl rfl rfl ?_
          refine z_ceq 34 rfl rfl (fun h9 => absurd h9 (nI_ne1 (by omega))) (fun _ => ?_)
          refine z_aload 35 rfl rfl rfl ?_
          refine z_get 38 rfl rfl (by first | exact hk1 | exact hrow.1 | exact hwb.1 | exact h2x | exact hw2.1 | fail "lk") rfl ?_
          refine z_get 41 rfl rfl (by first | exact hk1 | exact hrow.1 | exact hwb.1 | exact h2x | exact hw2.1 | fail "lk") rfl ?_
          refine z_push 42 (nI 4) rfl rfl rfl ?_
          refine z_nlt 45 rfl rfl (by omega) (by omega) (fun hc42 => ?_) (fun hc42 => ?_)
          · refine z_aload 48 rfl rfl rfl ?_
            refine z_get 51 rfl rfl (by first | exact hk1 | exact hrow.1 | exact hwb.1 | exact h2x | exact hw2.1 | fail "lk") rfl ?_
            refine z_iload 52 rfl rfl rfl ?_
            refine z_cv1 55 rfl rfl (by first | exact hk1 | exact hrow.1 | exact hwb.1 | exact h2x | exact hw2.1 | fail "lk") rfl (Nat.le_refl _) (Nat.le_refl _) ?_
            refine w_addN hwb (by decide) (by omega) (fun h2 hw2 hF2 => ?_)
            have h2x := (hF2.2 1 (by omega)).trans hk1
            refine z_pop 56 rfl rfl ?_
            refine z_iload 57 rfl rfl rfl ?_
            refine z_iload 58 rfl rfl rfl ?_
            refine z_cs1 61 rfl rfl rfl (Nat.le_refl _) (Nat.le_refl _) ?_
            refine c_lowHalvesOf ?_
            rw [jLh_1 hu2 hu3]
            refine z_bop 62 _ rfl rfl (by first | with_reducible exact zb_0 _ _ | exact zd_0 _ _) ?_
            refine z_istore 63 rfl rfl rfl rfl ?_
            refine z_iinc 66 _ rfl rfl rfl rfl (by first | with_reducible exact zi_1 _ | rfl) ?_
            refine z_goto rfl ?_
            rw [ptA_g (by omega) hu0, hu1] at hX
            exact ih (a + 2) _ h2 _ (by omega) (by omega) (by rw [List.length_append, List.length_singleton]; omega) hX hw2 ⟨hF2.1.trans hFx.1, fun x hx => (hF2.2 x hx).trans (hFx.2 x hx)⟩
          · refine z_push 46 (nI 0) rfl rfl rfl ?_
            refine z_iretb rfl (Nat.le_refl _) (Nat.le_refl _) (by first | decide | exact bI_01 _) ?_
            rw [ptA_g (by omega) hu0] at hX
            refine q0 ?_ h ⟨_, hwb⟩ hFx
            rcases hz : ptsU A.uns with _ | ps
            · exact Or.inl rfl
            · refine Or.inr ⟨ps, rfl, ?_⟩
              rw [hz] at hX
              have h9 := ptA_ge _ _ _ _ hX.symm
              rw [List.length_append, List.length_singleton] at h9
              omega
  refine z_in [some (.ref 1), none, none] (by rfl) rfl rfl rfl ?_
  refine z_aload 1 rfl rfl rfl ?_
  refine z_get 4 rfl rfl (by first | exact c1 | exact hlb.1 | fail "lk") rfl ?_
  refine z_cv0 7 rfl rfl (by first | exact c1 | exact hlb.1 | fail "lk") rfl (Nat.le_refl _) (Nat.le_refl _) ?_
  refine w_clear hlb (fun h1 hw1 hF1 => ?_)
  refine z_push 8 (nI 0) rfl rfl rfl ?_
  refine z_istore 9 rfl rfl rfl rfl ?_
  exact loop (A.uns.length + 1) 0 [] h1 none (by omega) (by omega) (Nat.zero_le _) rfl hw1 hF1
theorem stV_n {F : List Fb} (h : stV F ≠ 0) : (stV F).toInt < 0 := by
  unfold stV at h ⊢
  split
  · rename_i e; rw [if_pos e] at h
    split
    · rename_i e2; rw [if_pos e2] at h; exact absurd rfl h
    · decide
  · decide
theorem stV_0 {F : List Fb} (h : stV F = 0) : okD F = true ∧ okL F = true := by
  unfold stV at h
  by_cases e : okD F = true
  · rw [if_pos e] at h
    by_cases e2 : okL F = true
    · exact ⟨e, e2⟩
    · rw [if_neg e2] at h; exact absurd h (by decide)
  · rw [if_neg e] at h; exact absurd h (by decide)
theorem stV_sp {F : List Fb} {Y : Int32 × Ab} {T : Ab} (h : stV F ≠ 0) : (if okD F = true then (if okL F = true then Y else (-12, T)) else (-11, T)) = (stV F, T) := by
  unfold stV at h ⊢
  by_cases e : okD F = true
  · rw [if_pos e] at h ⊢
    rw [if_pos e]
    by_cases e2 : okL F = true
    · rw [if_pos e2] at h; exact absurd rfl h
    · rw [if_neg e2, if_neg e2]
  · rw [if_neg e, if_neg e]
set_option maxRecDepth 100000 in
theorem c_fallback {d : Nat} {h : mH} {A : Ab} {pad : Nat → Nat} {sp : Option Nat} {res wrk : Nat} {p : Int32} {Q : mP} (hC : CI h A pad sp res wrk) (hA : AbW A) (hU : FbU A.fbs)  (q : ∀ h', CInv h' (sp_fallback A p).2 → KpX h h' → Q (some (.int (sp_fallback A p).1)) h') : mWP (d + 5) 124 [.ref 1, .int p] h Q := by
  obtain ⟨c1, cr, cp, cb, cu, cq, cs, ck, cru, cm⟩ := id hC
  obtain ⟨cp0, ⟨pf, cp1, cp2⟩, cp3, cp4, cp5⟩ := id cp
  obtain ⟨hPB, hKb, hGd, hbb, hub, hsg1, hsg2, hFW, hFd⟩ := id hA
  refine z_in [some (.ref 1), some (.int p), none] (by rfl) rfl rfl rfl ?_
  refine z_iload 1 rfl rfl rfl ?_
  refine z_cs1 4 rfl rfl rfl (Nat.le_refl _) (Nat.le_refl _) ?_
  refine c_isPoint ?_
  first | refine z_bne 7 rfl rfl (fun hc4 => ?_) (fun hc4 => ?_)
  · refine z_aload 14 rfl rfl rfl ?_
    refine z_cv0 17 rfl rfl (by first | exact c1 | exact hC2.1 | exact hC3.1 | exact hC4.1 | exact hC3.2.2.2.2.1.1 | exact hrc3 | exact hrc4 | exact hC2.2.2.2.2.2.2.2.2.1.1 | fail "lk") rfl (Nat.le_refl _) (Nat.le_refl _) ?_
    refine c_unitsAreParts hC hub (fun ps hps hp4 h2 hw2 hF2 => ?_) (fun hno h2 hw2 hF2 => ?_)
    · have hC2 := hC.bt hw2 (fun x hx => hF2.2 x hx) hF2.1
      refine z_zne 20 rfl rfl (by omega) (fun _ => ?_) (fun h9 => absurd h9 (by omega))
      obtain ⟨pt, hpt, rfl, hpt2⟩ := jPoint_n hc4
      have hptl := nPt_lt hpt
      refine z_aload 28 rfl rfl rfl ?_
      refine z_get 31 rfl rfl (by first | exact c1 | exact hC2.1 | exact hC3.1 | exact hC4.1 | exact hC3.2.2.2.2.1.1 | exact hrc3 | exact hrc4 | exact hC2.2.2.2.2.2.2.2.2.1.1 | fail "lk") rfl ?_
      refine z_iload 32 rfl rfl rfl ?_
      refine z_aload 33 rfl rfl rfl ?_
      refine z_get 36 rfl rfl (by first | exact c1 | exact hC2.1 | exact hC3.1 | exact hC4.1 | exact hC3.2.2.2.2.1.1 | exact hrc3 | exact hrc4 | exact hC2.2.2.2.2.2.2.2.2.1.1 | fail "lk") rfl ?_
      refine z_cv2 39 rfl rfl (by first | exact c1 | exact hC2.1 | exact hC3.1 | exact hC4.1 | exact hC3.2.2.2.2.1.1 | exact hrc3 | exact hrc4 | exact hC2.2.2.2.2.2.2.2.2.1.1 | fail "lk") rfl (Nat.le_refl _) (Nat.le_refl _) ?_
      refine c_Ru_replace hC2.2.2.2.2.2.2.2.2.1 hU hFW hpt hw2 (by decide) hp4 (ptA_pt hub _ _ _ _ (fun x hx => by cases hx) hps) (by omega) (fun hp0 h3 hRu3 hF3 => ?_) (fun hp1 h6a h6b => ?_) (fun hp1 hn40 hst h3 hRu3 hF3 => ?_) (fun hp1 hn40 hst h3 hRu3 hF3 => ?_)
      · have hC3 : CI h3 (A.wFbs (match fbI A.fbs pt with | none => A.fbs | some f => fbR9 A.fbs f)) pad sp res wrk := hC2.ru (a9 := A.sgn.1) (b9 := A.sgn.2) hRu3 (fun x hx => hF3.2 x hx) hF3.1
        have hrc3 := hRu3.1
        refine z_istore 40 rfl rfl rfl rfl ?_
        refine z_iload 41 rfl rfl rfl ?_
        refine z_zeq 44 rfl rfl (by omega) (fun _ => ?_) (fun h9 => absurd h9 (by omega))
        refine z_aload 51 rfl rfl rfl ?_
        refine z_get 54 rfl rfl (by first | exact c1 | exact hC2.1 | exact hC3.1 | exact hC4.1 | exact hC3.2.2.2.2.1.1 | exact hrc3 | exact hrc4 | exact hC2.2.2.2.2.2.2.2.2.1.1 | fail "lk") rfl ?_
        refine z_cv0 57 rfl rfl (by first | exact c1 | exact hC2.1 | exact hC3.1 | exact hC4.1 | exact hC3.2.2.2.2.1.1 | exact hrc3 | exact hrc4 | exact hC2.2.2.2.2.2.2.2.2.1.1 | fail "lk") rfl (Nat.le_refl _) (Nat.le_refl _) ?_
        refine w_clear hC3.2.2.2.2.1 (fun h4 hw4 hF4 => ?_)
        have hC4 := hC3.un hw4 (fun x hx => hF4.2 x hx) hF4.1
        have hrc4 := (hF4.2 16 (by omega)).trans hrc3
        refine z_aload 58 rfl rfl rfl ?_
        refine z_get 61 rfl rfl (by first | exact c1 | exact hC2.1 | exact hC3.1 | exact hC4.1 | exact hC3.2.2.2.2.1.1 | exact hrc3 | exact hrc4 | exact hC2.2.2.2.2.2.2.2.2.1.1 | fail "lk") rfl ?_
        refine z_get 64 rfl rfl (by first | exact c1 | exact hC2.1 | exact hC3.1 | exact hC4.1 | exact hC3.2.2.2.2.1.1 | exact hrc3 | exact hrc4 | exact hC2.2.2.2.2.2.2.2.2.1.1 | fail "lk") rfl ?_
        refine z_ireti rfl (Nat.le_refl _) (Nat.le_refl _) ?_
        obtain rfl : ps = [] := List.eq_nil_of_length_eq_zero hp0
        have hu0 := ptA_0 hps
        rcases hfi : fbI A.fbs pt with _ | f
        · have e9 : sp_fallback A (nI pt) = (nI A.fbs.length, A) := by
            rw [sp_fallback, if_pos hc4, hps]
            simp only
            rw [if_pos hp4, hpt2, if_pos hp0, hfi]
          rw [hfi] at hC4
          rw [e9] at q
          simp only [hfi]
          have e8 : (A.wFbs A.fbs).wUns [] = A := by rw [← hu0]; rfl
          exact q h4 (e8 ▸ hC4).inv ((KpX.of hF2 (by decide) (by decide)).trans ((KpX.of hF3 (by decide) (by decide)).trans (KpX.of hF4 (by decide) (by decide))))
        · have e9 : sp_fallback A (nI pt) = (nI (A.fbs.length - 1), A.wFbs (fbR9 A.fbs f)) := by
            rw [sp_fallback, if_pos hc4, hps]
            simp only
            rw [if_pos hp4, hpt2, if_pos hp0, hfi]
          rw [hfi] at hC4
          rw [e9] at q
          simp only [hfi]
          rw [fb_rlen]
          have e8 : (A.wFbs (fbR9 A.fbs f)).wUns [] = A.wFbs (fbR9 A.fbs f) := by rw [← hu0]; rfl
          exact q h4 (e8 ▸ hC4).inv ((KpX.of hF2 (by decide) (by decide)).trans ((KpX.of hF3 (by decide) (by decide)).trans (KpX.of hF4 (by decide) (by decide))))
      · skip
        refine z_istore 40 rfl rfl rfl rfl ?_
        refine z_iload 41 rfl rfl rfl ?_
        refine z_jeq 44 rfl rfl (fun h9 => absurd h9 (by decide)) (fun _ => ?_)
        refine z_aload 45 rfl rfl rfl ?_
        refine z_iload 46 rfl rfl rfl ?_
        refine z_cv1 49 rfl rfl (by first | exact c1 | exact hC2.1 | exact hC3.1 | exact hC4.1 | exact hC3.2.2.2.2.1.1 | exact hrc3 | exact hrc4 | exact hC2.2.2.2.2.2.2.2.2.1.1 | fail "lk") rfl (Nat.le_refl _) (Nat.le_refl _) ?_
        refine c_ansN hC2 (by decide) (fun h1 hC1 hX1 => ?_)
        refine z_ireti rfl (Nat.le_refl _) (Nat.le_refl _) ?_
        have e9 : sp_fallback A (nI pt) = (-6, A.tell) := by
          rw [sp_fallback, if_pos hc4, hps]
          simp only
          rw [if_pos hp4, hpt2, if_neg (by omega), if_pos ⟨h6a, h6b⟩]
        rw [e9] at q
        exact q h1 hC1.inv ((KpX.of hF2 (by decide) (by decide)).trans hX1)
      · have hC3 : CI h3 (A.wFbs A.fbs) pad sp res wrk := hC2.ru (a9 := A.sgn.1) (b9 := A.sgn.2) hRu3 (fun x hx => hF3.2 x hx) hF3.1
        have hrc3 := hRu3.1
        refine z_istore 40 rfl rfl rfl rfl ?_
        refine z_iload 41 rfl rfl rfl ?_
        refine z_ieq 44 rfl rfl (fun h9 => absurd h9 hst) (fun _ => ?_)
        refine z_aload 45 rfl rfl rfl ?_
        refine z_iload 46 rfl rfl rfl ?_
        refine z_cv1 49 rfl rfl (by first | exact c1 | exact hC2.1 | exact hC3.1 | exact hC4.1 | exact hC3.2.2.2.2.1.1 | exact hrc3 | exact hrc4 | exact hC2.2.2.2.2.2.2.2.2.1.1 | fail "lk") rfl (Nat.le_refl _) (Nat.le_refl _) ?_
        refine c_ansN hC3 (stV_n hst) (fun h1 hC1 hX1 => ?_)
        refine z_ireti rfl (Nat.le_refl _) (Nat.le_refl _) ?_
        have e9 : sp_fallback A (nI pt) = (stV (fbS9 A.fbs pt ps), A.tell) := by
          rw [sp_fallback, if_pos hc4, hps]
          simp only
          rw [if_pos hp4, hpt2, if_neg (by omega), if_neg hn40]
          exact stV_sp hst
        rw [e9] at q
        exact q h1 hC1.inv ((KpX.of hF2 (by decide) (by decide)).trans ((KpX.of hF3 (by decide) (by decide)).trans hX1))
      · have hC3 : CI h3 (A.wFbs (fbS9 A.fbs pt ps)) pad sp res wrk := hC2.ru (a9 := A.sgn.1) (b9 := A.sgn.2) hRu3 (fun x hx => hF3.2 x hx) hF3.1
        have hrc3 := hRu3.1
        refine z_istore 40 rfl rfl rfl rfl ?_
        refine z_iload 41 rfl rfl rfl ?_
        refine z_zeq 44 rfl rfl (by omega) (fun _ => ?_) (fun h9 => absurd h9 (by omega))
        refine z_aload 51 rfl rfl rfl ?_
        refine z_get 54 rfl rfl (by first | exact c1 | exact hC2.1 | exact hC3.1 | exact hC4.1 | exact hC3.2.2.2.2.1.1 | exact hrc3 | exact hrc4 | exact hC2.2.2.2.2.2.2.2.2.1.1 | fail "lk") rfl ?_
        refine z_cv0 57 rfl rfl (by first | exact c1 | exact hC2.1 | exact hC3.1 | exact hC4.1 | exact hC3.2.2.2.2.1.1 | exact hrc3 | exact hrc4 | exact hC2.2.2.2.2.2.2.2.2.1.1 | fail "lk") rfl (Nat.le_refl _) (Nat.le_refl _) ?_
        refine w_clear hC3.2.2.2.2.1 (fun h4 hw4 hF4 => ?_)
        have hC4 := hC3.un hw4 (fun x hx => hF4.2 x hx) hF4.1
        have hrc4 := (hF4.2 16 (by omega)).trans hrc3
        refine z_aload 58 rfl rfl rfl ?_
        refine z_get 61 rfl rfl (by first | exact c1 | exact hC2.1 | exact hC3.1 | exact hC4.1 | exact hC3.2.2.2.2.1.1 | exact hrc3 | exact hrc4 | exact hC2.2.2.2.2.2.2.2.2.1.1 | fail "lk") rfl ?_
        refine z_get 64 rfl rfl (by first | exact c1 | exact hC2.1 | exact hC3.1 | exact hC4.1 | exact hC3.2.2.2.2.1.1 | exact hrc3 | exact hrc4 | exact hC2.2.2.2.2.2.2.2.2.1.1 | fail "lk") rfl ?_
        refine z_ireti rfl (Nat.le_refl _) (Nat.le_refl _) ?_
        have e9 : sp_fallback A (nI pt) = (nI (fbS9 A.fbs pt ps).length, (A.wFbs (fbS9 A.fbs pt ps)).wUns []) := by
          rw [sp_fallback, if_pos hc4, hps]
          simp only
          rw [if_pos hp4, hpt2, if_neg (by omega), if_neg hn40, if_pos (stV_0 hst).1, if_pos (stV_0 hst).2]
        rw [e9] at q
        exact q h4 hC4.inv ((KpX.of hF2 (by decide) (by decide)).trans ((KpX.of hF3 (by decide) (by decide)).trans (KpX.of hF4 (by decide) (by decide))))
    · obtain ⟨l9, hl9⟩ := hw2
      have hC2 := hC.bt hl9 (fun x hx => hF2.2 x hx) hF2.1
      refine z_zne 20 rfl rfl (by omega) (fun h9 => absurd h9 (by omega)) (fun _ => ?_)
      refine z_aload 21 rfl rfl rfl ?_
      refine z_push 23 (-8) rfl rfl rfl ?_
      refine z_cv1 26 rfl rfl (by first | exact c1 | exact hC2.1 | exact hC3.1 | exact hC4.1 | exact hC3.2.2.2.2.1.1 | exact hrc3 | exact hrc4 | exact hC2.2.2.2.2.2.2.2.2.1.1 | fail "lk") rfl (Nat.le_refl _) (Nat.le_refl _) ?_
      refine c_ansN hC2 (by decide) (fun h1 hC1 hX1 => ?_)
      refine z_ireti rfl (Nat.le_refl _) (Nat.le_refl _) ?_
      have e9 : sp_fallback A p = (-8, A.tell) := by
        rw [sp_fallback, if_pos hc4]
        rcases hno with h9 | ⟨ps, h9, h8⟩
        · rw [h9]
        · rw [h9]; exact if_neg (by omega)
      rw [e9] at q
      exact q h1 hC1.inv ((KpX.of hF2 (by decide) (by decide)).trans hX1)
  · refine z_aload 8 rfl rfl rfl ?_
    refine z_push 9 (-1) rfl rfl rfl ?_
    refine z_cv1 12 rfl rfl (by first | exact c1 | exact hC2.1 | exact hC3.1 | exact hC4.1 | exact hC3.2.2.2.2.1.1 | exact hrc3 | exact hrc4 | exact hC2.2.2.2.2.2.2.2.2.1.1 | fail "lk") rfl (Nat.le_refl _) (Nat.le_refl _) ?_
    refine c_ansN hC (by decide) (fun h1 hC1 hX1 => ?_)
    refine z_ireti rfl (Nat.le_refl _) (Nat.le_refl _) ?_
    have e9 : sp_fallback A p = (-1, A.tell) := if_neg (by rw [hc4]; decide)
    rw [e9] at q
    exact q h1 hC1.inv hX1
