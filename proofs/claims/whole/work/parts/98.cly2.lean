/-! the class: encode, transcode -/
set_option maxRecDepth 100000 in
theorem c_encode {d : Nat} {h : mH} {A : Ab} {pad : Nat → Nat} {sp : Option Nat} {res wrk : Nat} {p ru : Int32} {Q : mP} (hC : CI h A pad sp res wrk) (hA : AbW A) (hFN : ∀ x, fbN A.fbs 40 x ≤ 16)  (q : ∀ h', CInv h' (sp_encode A p ru).2 → KpX h h' → Q (some (.int (sp_encode A p ru).1)) h') : mWP (d + 9) 120 [.ref 1, .int p, .int ru] h Q := by
  obtain ⟨c1, cr, cp, cb, cu, cq, cs, ck, cru, cm⟩ := id hC
  obtain ⟨cp0, ⟨pf, cp1, cp2⟩, cp3, cp4, cp5⟩ := id cp
  obtain ⟨hPB, hKb, hGd, hbb, hub, hsg1, hsg2, hFW, hFd⟩ := id hA
  obtain ⟨lw, hlw⟩ := cs.1
  obtain ⟨p5, ru5, st5, l5, u5, hwr⟩ := cs.2.2.2.1
  refine z_in [some (.ref 1), some (.int p), some (.int ru), none] (by rfl) rfl rfl rfl ?_
  refine z_aload 1 rfl rfl rfl ?_
  refine z_iload 2 rfl rfl rfl ?_
  refine z_cv1 5 rfl rfl (by first | exact c1 | exact cp1 | exact hwr.1 | exact hC1.1 | exact hC2.1 | exact hC3.1 | fail "lk") rfl (Nat.le_refl _) (Nat.le_refl _) ?_
  refine c_closedFinding hC ?_
  refine z_istore 6 rfl rfl rfl rfl ?_
  refine z_iload 7 rfl rfl rfl ?_
  first | refine z_ine 10 rfl rfl (fun hc7 => ?_) (fun hc7 => ?_)
  · refine z_iload 20 rfl rfl rfl ?_
    refine z_ieq 23 rfl rfl (fun h9 => absurd h9 hc7) (fun _ => ?_)
    refine z_aload 24 rfl rfl rfl ?_
    refine z_iload 25 rfl rfl rfl ?_
    refine z_cv1 28 rfl rfl (by first | exact c1 | exact cp1 | exact hwr.1 | exact hC1.1 | exact hC2.1 | exact hC3.1 | fail "lk") rfl (Nat.le_refl _) (Nat.le_refl _) ?_
    refine c_ansN hC (cfI_n hc7) (fun h1 hC1 hX1 => ?_)
    refine z_ireti rfl (Nat.le_refl _) (Nat.le_refl _) ?_
    have e9 : sp_encode A p ru = (cfI A.pgs p, A.tell) := cf_sp hc7
    rw [e9] at q
    exact q h1 hC1.inv hX1
  · refine z_iload 11 rfl rfl rfl ?_
    refine z_cs1 14 rfl rfl rfl (Nat.le_refl _) (Nat.le_refl _) ?_
    refine c_isWriteRule ?_
    first | refine z_bne 17 rfl rfl (fun hc14 => ?_) (fun hc14 => ?_)
    · refine z_iload 20 rfl rfl rfl ?_
      refine z_ieq 23 rfl rfl (fun _ => ?_) (fun h9 => absurd hc7 h9)
      have hru8 : 0 ≤ ru.toInt ∧ ru.toInt ≤ 4 := of_decide_eq_true hc14
      obtain ⟨hr, hcl⟩ := cf_0 hc7
      obtain ⟨P, hP, rfl, hp1, hp2⟩ := ixP cp0 (inR_t hr)
      rw [hp2] at hcl
      obtain ⟨RU, hRU, rfl, hru1, hru2⟩ := ix_of (x := ru) (n := 5) (by omega)
      refine z_aload 30 rfl rfl rfl ?_
      refine z_get 33 rfl rfl (by first | exact c1 | exact cp1 | exact hwr.1 | exact hC1.1 | exact hC2.1 | exact hC3.1 | fail "lk") rfl ?_
      refine z_aload 34 rfl rfl rfl ?_
      refine z_get 37 rfl rfl (by first | exact c1 | exact cp1 | exact hwr.1 | exact hC1.1 | exact hC2.1 | exact hC3.1 | fail "lk") rfl ?_
      refine z_iload 38 rfl rfl rfl ?_
      refine z_qld 39 rfl rfl (by first | exact c1 | exact cp1 | exact hwr.1 | exact hC1.1 | exact hC2.1 | exact hC3.1 | fail "lk") (by decide) rfl (by omega) (by omega) (cp2 P hP) ?_
      refine z_iload 40 rfl rfl rfl ?_
      refine z_push 41 (nI 0) rfl rfl rfl ?_
      refine z_cv3 44 rfl rfl (by first | exact c1 | exact cp1 | exact hwr.1 | exact hC1.1 | exact hC2.1 | exact hC3.1 | fail "lk") rfl (Nat.le_refl _) (Nat.le_refl _) ?_
      refine c_Wr_open hwr (fun h1 hWr1 hF1 => ?_)
      have hC1 := hC.wk (hlw.e (fun x x1 x2 => hF1.2 x (by omega))) hWr1 (fun x x1 x2 => hF1.2 x (by omega)) hF1.1
      refine z_aload 45 rfl rfl rfl ?_
      refine z_aload 46 rfl rfl rfl ?_
      refine z_aload 47 rfl rfl rfl ?_
      refine z_aload 48 rfl rfl rfl ?_
      refine z_get 51 rfl rfl (by first | exact c1 | exact cp1 | exact hwr.1 | exact hC1.1 | exact hC2.1 | exact hC3.1 | fail "lk") rfl ?_
      refine z_cv1 54 rfl rfl (by first | exact c1 | exact cp1 | exact hwr.1 | exact hC1.1 | exact hC2.1 | exact hC3.1 | fail "lk") rfl (Nat.le_refl _) (Nat.le_refl _) ?_
      refine c_writeAll hC1 hA hFN hP hcl (by omega) (Or.inl rfl) (by decide) hC1.2.2.2.2.1 hub hWr1 (fun bs hX h2 hC2 hw2 hF2 hs2 => ?_) (fun a hX h2 hC2 hF2 hs2 => ?_) (fun hX h2 hC2 hF2 hs2 => ?_)
      · skip
        refine z_push 55 (nI 2) rfl rfl rfl ?_
        refine z_cv2 58 rfl rfl (by first | exact c1 | exact cp1 | exact hwr.1 | exact hC1.1 | exact hC2.1 | exact hC3.1 | fail "lk") rfl (Nat.le_refl _) (Nat.le_refl _) ?_
        have hul := hw2.2.1
        refine c_keepP hC2 hw2 (by rw [nI_toInt (by omega)]; omega) (fun h3 hC3 hF3 => ?_)
        refine z_cv1 61 rfl rfl (by first | exact c1 | exact cp1 | exact hwr.1 | exact hC1.1 | exact hC2.1 | exact hC3.1 | fail "lk") rfl (Nat.le_refl _) (Nat.le_refl _) ?_
        refine c_ansP hC3 (by rw [nI_toInt (by omega)]; omega) ?_
        refine z_ireti rfl (Nat.le_refl _) (Nat.le_refl _) ?_
        have e9 : sp_encode A (nI P) (nI RU) = (nI bs.length, A.wRes (2, bs)) := by
          rw [sp_encode, if_pos hr, hp2, if_pos hcl, if_pos hru8, hru2, hX]
          rfl
        rw [e9] at q
        exact q h3 hC3.inv ⟨fun x hx => (hF3.2 x (by omega)).trans ((hF2 x (by omega) (by omega)).trans (hF1.2 x (by omega))), by rw [hF3.1, hs2]; exact (by rw [hF1.1]; exact Nat.le_refl _)⟩
      · skip
        refine z_push 55 (nI 2) rfl rfl rfl ?_
        refine z_cv2 58 rfl rfl (by first | exact c1 | exact cp1 | exact hwr.1 | exact hC1.1 | exact hC2.1 | exact hC3.1 | fail "lk") rfl (Nat.le_refl _) (Nat.le_refl _) ?_
        refine c_keepN hC2 (by decide) ?_
        refine z_cv1 61 rfl rfl (by first | exact c1 | exact cp1 | exact hwr.1 | exact hC1.1 | exact hC2.1 | exact hC3.1 | fail "lk") rfl (Nat.le_refl _) (Nat.le_refl _) ?_
        refine c_ansN hC2 (by decide) (fun h3 hC3 hX3 => ?_)
        refine z_ireti rfl (Nat.le_refl _) (Nat.le_refl _) ?_
        have e9 : sp_encode A (nI P) (nI RU) = (-10, (A.wPlc a).tell) := by
          rw [sp_encode, if_pos hr, hp2, if_pos hcl, if_pos hru8, hru2, hX]
          rfl
        rw [e9] at q
        exact q h3 hC3.inv (KpX.trans (h1 := h2) ⟨fun x hx => (hF2 x (by omega) (by omega) (by omega)).trans (hF1.2 x (by omega)), by rw [hs2]; exact (by rw [hF1.1]; exact Nat.le_refl _)⟩ hX3)
      · skip
        refine z_push 55 (nI 2) rfl rfl rfl ?_
        refine z_cv2 58 rfl rfl (by first | exact c1 | exact cp1 | exact hwr.1 | exact hC1.1 | exact hC2.1 | exact hC3.1 | fail "lk") rfl (Nat.le_refl _) (Nat.le_refl _) ?_
        refine c_keepN hC2 (by decide) ?_
        refine z_cv1 61 rfl rfl (by first | exact c1 | exact cp1 | exact hwr.1 | exact hC1.1 | exact hC2.1 | exact hC3.1 | fail "lk") rfl (Nat.le_refl _) (Nat.le_refl _) ?_
        refine c_ansN hC2 (by decide) (fun h3 hC3 hX3 => ?_)
        refine z_ireti rfl (Nat.le_refl _) (Nat.le_refl _) ?_
        have e9 : sp_encode A (nI P) (nI RU) = (-6, A.tell) := by
          rw [sp_encode, if_pos hr, hp2, if_pos hcl, if_pos hru8, hru2, hX]
          rfl
        rw [e9] at q
        exact q h3 hC3.inv (KpX.trans (h1 := h2) ⟨fun x hx => (hF2 x (by omega) (by omega)).trans (hF1.2 x (by omega)), by rw [hs2]; exact (by rw [hF1.1]; exact Nat.le_refl _)⟩ hX3)
    · refine z_push 18 (-1) rfl rfl rfl ?_
      refine z_istore 19 rfl rfl rfl rfl ?_
      refine z_iload 20 rfl rfl rfl ?_
      refine z_jeq 23 rfl rfl (fun h9 => absurd h9 (by decide)) (fun _ => ?_)
      refine z_aload 24 rfl rfl rfl ?_
      refine z_iload 25 rfl rfl rfl ?_
      refine z_cv1 28 rfl rfl (by first | exact c1 | exact cp1 | exact hwr.1 | exact hC1.1 | exact hC2.1 | exact hC3.1 | fail "lk") rfl (Nat.le_refl _) (Nat.le_refl _) ?_
      refine c_ansN hC (by decide) (fun h1 hC1 hX1 => ?_)
      refine z_ireti rfl (Nat.le_refl _) (Nat.le_refl _) ?_
      obtain ⟨hr, hcl⟩ := cf_0 hc7
      obtain ⟨P, hP, rfl, hp1, hp2⟩ := ixP cp0 (inR_t hr)
      rw [hp2] at hcl
      have e9 : sp_encode A (nI P) ru = (-1, A.tell) := by
        rw [sp_encode, if_pos hr, hp2, if_pos hcl, if_neg (of_decide_eq_false hc14)]
      rw [e9] at q
      exact q h1 hC1.inv hX1
set_option maxRecDepth 100000 in
theorem c_transcode {d : Nat} {h : mH} {A : Ab} {pad : Nat → Nat} {sp : Option Nat} {res wrk : Nat} {p ru q9 by9 : Int32} {Q : mP} (hC : CI h A pad sp res wrk) (hA : AbW A) (hFN : ∀ x, fbN A.fbs 40 x ≤ 16)  (q : ∀ h', CInv h' (sp_transcode A p ru q9 by9).2 → KpX h h' → Q (some (.int (sp_transcode A p ru q9 by9).1)) h') : mWP (d + 9) 121 [.ref 1, .int p, .int ru, .int q9, .int by9] h Q := by
  obtain ⟨c1, cr, cp, cb, cu, cq, cs, ck, cru, cm⟩ := id hC
  obtain ⟨cp0, ⟨pf, cp1, cp2⟩, cp3, cp4, cp5⟩ := id cp
  obtain ⟨hPB, hKb, hGd, hbb, hub, hsg1, hsg2, hFW, hFd⟩ := id hA
  obtain ⟨lb, hlb⟩ := cs.2.1
  refine z_in [some (.ref 1), some (.int p), some (.int ru), some (.int q9), some (.int by9), none] (by rfl) rfl rfl rfl ?_
  refine z_aload 1 rfl rfl rfl ?_
  refine z_iload 2 rfl rfl rfl ?_
  refine z_iload 3 rfl rfl rfl ?_
  refine z_cv2 6 rfl rfl (by first | exact c1 | exact cp1 | exact hC4.1 | exact dp1 | exact hwr.1 | exact hC1.1 | exact hC2.1 | exact hC3.1 | fail "lk") rfl (Nat.le_refl _) (Nat.le_refl _) ?_
  refine c_bothClosedFinding hC ?_
  refine z_istore 8 rfl rfl rfl rfl ?_
  refine z_iload 10 rfl rfl rfl ?_
  first | refine z_ine 13 rfl rfl (fun hc10 => ?_) (fun hc10 => ?_)
  · refine z_iload 33 rfl rfl rfl ?_
    refine z_ine 36 rfl rfl (fun _ => ?_) (fun h9 => absurd h9 hc10)
    refine z_iload 59 rfl rfl rfl ?_
    refine z_ieq 62 rfl rfl (fun h9 => absurd h9 hc10) (fun _ => ?_)
    refine z_aload 63 rfl rfl rfl ?_
    refine z_iload 65 rfl rfl rfl ?_
    refine z_cv1 68 rfl rfl (by first | exact c1 | exact cp1 | exact hC4.1 | exact dp1 | exact hwr.1 | exact hC1.1 | exact hC2.1 | exact hC3.1 | fail "lk") rfl (Nat.le_refl _) (Nat.le_refl _) ?_
    refine c_ansN hC (bfI_n hc10) (fun h1 hC1 hX1 => ?_)
    refine z_ireti rfl (Nat.le_refl _) (Nat.le_refl _) ?_
    have e9 : sp_transcode A p ru q9 by9 = (bfI A.pgs p q9, A.tell) := bf_sp hc10
    rw [e9] at q
    exact q h1 hC1.inv hX1
  · refine z_iload 14 rfl rfl rfl ?_
    refine z_cs1 17 rfl rfl rfl (Nat.le_refl _) (Nat.le_refl _) ?_
    refine c_isReadRule ?_
    first | refine z_beq 20 rfl rfl (fun hc17 => ?_) (fun hc17 => ?_)
    · refine z_push 29 (-1) rfl rfl rfl ?_
      refine z_istore 31 rfl rfl rfl rfl ?_
      refine z_iload 33 rfl rfl rfl ?_
      refine z_jne 36 rfl rfl (fun _ => ?_) (fun h9 => absurd h9 (by decide))
      refine z_iload 59 rfl rfl rfl ?_
      refine z_jeq 62 rfl rfl (fun h9 => absurd h9 (by decide)) (fun _ => ?_)
      refine z_aload 63 rfl rfl rfl ?_
      refine z_iload 65 rfl rfl rfl ?_
      refine z_cv1 68 rfl rfl (by first | exact c1 | exact cp1 | exact hC4.1 | exact dp1 | exact hwr.1 | exact hC1.1 | exact hC2.1 | exact hC3.1 | fail "lk") rfl (Nat.le_refl _) (Nat.le_refl _) ?_
      refine c_ansN hC (by decide) (fun h1 hC1 hX1 => ?_)
      refine z_ireti rfl (Nat.le_refl _) (Nat.le_refl _) ?_
      have hb9 := bf_0 hc10
      have e9 : sp_transcode A p ru q9 by9 = (-1, A.tell) := by
        rw [sp_transcode, if_pos hb9.1, if_pos hb9.2, if_neg (fun h9 => of_decide_eq_false hc17 h9.1)]
      rw [e9] at q
      exact q h1 hC1.inv hX1
    · refine z_iload 22 rfl rfl rfl ?_
      refine z_cs1 25 rfl rfl rfl (Nat.le_refl _) (Nat.le_refl _) ?_
      refine c_isWriteRule ?_
      first | refine z_bne 28 rfl rfl (fun hc25 => ?_) (fun hc25 => ?_)
      · refine z_iload 33 rfl rfl rfl ?_
        refine z_ine 36 rfl rfl (fun h9 => absurd hc10 h9) (fun _ => ?_)
        have hru8 : 0 ≤ ru.toInt ∧ ru.toInt ≤ 3 := of_decide_eq_true hc17
        have hrb8 : 0 ≤ by9.toInt ∧ by9.toInt ≤ 4 := of_decide_eq_true hc25
        obtain ⟨⟨hr, hrq⟩, hcl, hclq⟩ := bf_0 hc10
        obtain ⟨P, hP, rfl, hp1, hp2⟩ := ixP cp0 (inR_t hr)
        obtain ⟨U, hU, rfl, hu1, hu2⟩ := ixP cp0 (inR_t hrq)
        rw [hp2] at hcl
        rw [hu2] at hclq
        obtain ⟨RU, hRU, rfl, hru1, hru2⟩ := ix_of (x := ru) (n := 4) (by omega)
        obtain ⟨RB, hRB, rfl, hrb1, hrb2⟩ := ix_of (x := by9) (n := 5) (by omega)
        refine z_aload 37 rfl rfl rfl ?_
        refine z_aload 38 rfl rfl rfl ?_
        refine z_get 41 rfl rfl (by first | exact c1 | exact cp1 | exact hC4.1 | exact dp1 | exact hwr.1 | exact hC1.1 | exact hC2.1 | exact hC3.1 | fail "lk") rfl ?_
        refine z_iload 42 rfl rfl rfl ?_
        refine z_qld 43 rfl rfl (by first | exact c1 | exact cp1 | exact hC4.1 | exact dp1 | exact hwr.1 | exact hC1.1 | exact hC2.1 | exact hC3.1 | fail "lk") (by decide) rfl (by omega) (by omega) (cp2 P hP) ?_
        refine z_iload 44 rfl rfl rfl ?_
        refine z_aload 45 rfl rfl rfl ?_
        refine z_get 48 rfl rfl (by first | exact c1 | exact cp1 | exact hC4.1 | exact dp1 | exact hwr.1 | exact hC1.1 | exact hC2.1 | exact hC3.1 | fail "lk") rfl ?_
        refine z_cv3 51 rfl rfl (by first | exact c1 | exact cp1 | exact hC4.1 | exact dp1 | exact hwr.1 | exact hC1.1 | exact hC2.1 | exact hC3.1 | fail "lk") rfl (Nat.le_refl _) (Nat.le_refl _) ?_
        refine c_readAll hC hA hP hcl (by omega) (Or.inr ⟨rfl, rfl⟩) hlb (fun us fl hX0 h4 hC4 hw4 hr9 hF4 hs4 => ?_) (fun a us fl hX0 h4 hC4 hF4 hs4 => ?_)
        · have hul := hw4.2.1
          have e2 : (rdPg A P RU).2.1 = us := by rw [hX0]
          have hus : ∀ j, us.getD j 0 < 65536 := fun j => by rw [← e2]; exact getD_all (rdPg_ub (hPB P hP) hbb (nPt_lt hsg1)) (by decide) j
          obtain ⟨dp0, ⟨df, dp1, dp2⟩, dp3, dp4, dp5⟩ := id hC4.2.2.1
          obtain ⟨lw, hlw⟩ := hC4.2.2.2.2.2.2.1.1
          obtain ⟨p5, ru5, st5, l5, u5, hwr⟩ := hC4.2.2.2.2.2.2.1.2.2.2.1
          refine z_push 52 (nI 0) rfl rfl rfl ?_
          refine z_min 55 _ rfl rfl rfl (Nat.le_refl _) (Nat.le_refl _) (show _ = nI 0 from (zminN (by omega) (by omega)).trans (by rw [Nat.min_zero])) ?_
          refine z_istore 57 rfl rfl rfl rfl ?_
          refine z_iload 59 rfl rfl rfl ?_
          refine z_zeq 62 rfl rfl (by omega) (fun _ => ?_) (fun h9 => absurd h9 (by omega))
          refine z_aload 70 rfl rfl rfl ?_
          refine z_get 73 rfl rfl (by first | exact c1 | exact cp1 | exact hC4.1 | exact dp1 | exact hwr.1 | exact hC1.1 | exact hC2.1 | exact hC3.1 | fail "lk") rfl ?_
          refine z_aload 74 rfl rfl rfl ?_
          refine z_get 77 rfl rfl (by first | exact c1 | exact cp1 | exact hC4.1 | exact dp1 | exact hwr.1 | exact hC1.1 | exact hC2.1 | exact hC3.1 | fail "lk") rfl ?_
          refine z_iload 78 rfl rfl rfl ?_
          refine z_qld 79 rfl rfl (by first | exact c1 | exact cp1 | exact hC4.1 | exact dp1 | exact hwr.1 | exact hC1.1 | exact hC2.1 | exact hC3.1 | fail "lk") (by decide) rfl (by omega) (by omega) (dp2 U hU) ?_
          refine z_iload 81 rfl rfl rfl ?_
          refine z_push 82 (nI 0) rfl rfl rfl ?_
          refine z_cv3 85 rfl rfl (by first | exact c1 | exact cp1 | exact hC4.1 | exact dp1 | exact hwr.1 | exact hC1.1 | exact hC2.1 | exact hC3.1 | fail "lk") rfl (Nat.le_refl _) (Nat.le_refl _) ?_
          refine c_Wr_open hwr (fun h1 hWr1 hF1 => ?_)
          have hC1 := hC4.wk (hlw.e (fun x x1 x2 => hF1.2 x (by omega))) hWr1 (fun x x1 x2 => hF1.2 x (by omega)) hF1.1
          refine z_aload 86 rfl rfl rfl ?_
          refine z_aload 87 rfl rfl rfl ?_
          refine z_aload 88 rfl rfl rfl ?_
          refine z_aload 89 rfl rfl rfl ?_
          refine z_get 92 rfl rfl (by first | exact c1 | exact cp1 | exact hC4.1 | exact dp1 | exact hwr.1 | exact hC1.1 | exact hC2.1 | exact hC3.1 | fail "lk") rfl ?_
          refine z_cv1 95 rfl rfl (by first | exact c1 | exact cp1 | exact hC4.1 | exact dp1 | exact hwr.1 | exact hC1.1 | exact hC2.1 | exact hC3.1 | fail "lk") rfl (Nat.le_refl _) (Nat.le_refl _) ?_
          refine c_writeAll hC1 hA hFN hU hclq (by omega) (Or.inr rfl) (by decide) (hw4.e (fun x x1 x2 => hF1.2 x (by omega))) hus hWr1 (fun bs hX h2 hC2 hw2 hF2 hs2 => ?_) (fun a hX h2 hC2 hF2 hs2 => ?_) (fun hX h2 hC2 hF2 hs2 => ?_)
          · skip
            refine z_push 96 (nI 2) rfl rfl rfl ?_
            refine z_cv2 99 rfl rfl (by first | exact c1 | exact cp1 | exact hC4.1 | exact dp1 | exact hwr.1 | exact hC1.1 | exact hC2.1 | exact hC3.1 | fail "lk") rfl (Nat.le_refl _) (Nat.le_refl _) ?_
            have hul := hw2.2.1
            refine c_keepP hC2 hw2 (by rw [nI_toInt (by omega)]; omega) (fun h3 hC3 hF3 => ?_)
            refine z_cv1 102 rfl rfl (by first | exact c1 | exact cp1 | exact hC4.1 | exact dp1 | exact hwr.1 | exact hC1.1 | exact hC2.1 | exact hC3.1 | fail "lk") rfl (Nat.le_refl _) (Nat.le_refl _) ?_
            refine c_ansP hC3 (by rw [nI_toInt (by omega)]; omega) ?_
            refine z_ireti rfl (Nat.le_refl _) (Nat.le_refl _) ?_
            have e9 : sp_transcode A (nI P) (nI RU) (nI U) (nI RB) = (nI bs.length, A.wRes (2, bs)) := by
              rw [sp_transcode, if_pos ⟨hr, hrq⟩, hp2, hu2, if_pos ⟨hcl, hclq⟩, if_pos ⟨hru8, hrb8⟩, hru2, hrb2, hX0]
              show enR A (wrPg A U RB us 6000 0) = _
              rw [hX]
              rfl
            rw [e9] at q
            exact q h3 hC3.inv ⟨fun x hx => (hF3.2 x (by omega)).trans ((hF2 x (by omega) (by omega)).trans ((hF1.2 x (by omega)).trans (hF4 x (by omega) (by omega)))), by rw [hF3.1, hs2]; exact (by rw [hF1.1, hs4]; exact Nat.le_refl _)⟩
          · skip
            refine z_push 96 (nI 2) rfl rfl rfl ?_
            refine z_cv2 99 rfl rfl (by first | exact c1 | exact cp1 | exact hC4.1 | exact dp1 | exact hwr.1 | exact hC1.1 | exact hC2.1 | exact hC3.1 | fail "lk") rfl (Nat.le_refl _) (Nat.le_refl _) ?_
            refine c_keepN hC2 (by decide) ?_
            refine z_cv1 102 rfl rfl (by first | exact c1 | exact cp1 | exact hC4.1 | exact dp1 | exact hwr.1 | exact hC1.1 | exact hC2.1 | exact hC3.1 | fail "lk") rfl (Nat.le_refl _) (Nat.le_refl _) ?_
            refine c_ansN hC2 (by decide) (fun h3 hC3 hX3 => ?_)
            refine z_ireti rfl (Nat.le_refl _) (Nat.le_refl _) ?_
            have e9 : sp_transcode A (nI P) (nI RU) (nI U) (nI RB) = (-10, (A.wPlc a).tell) := by
              rw [sp_transcode, if_pos ⟨hr, hrq⟩, hp2, hu2, if_pos ⟨hcl, hclq⟩, if_pos ⟨hru8, hrb8⟩, hru2, hrb2, hX0]
              show enR A (wrPg A U RB us 6000 0) = _
              rw [hX]
              rfl
            rw [e9] at q
            exact q h3 hC3.inv (KpX.trans (h1 := h2) ⟨fun x hx => (hF2 x (by omega) (by omega) (by omega)).trans ((hF1.2 x (by omega)).trans (hF4 x (by omega) (by omega))), by rw [hs2]; exact (by rw [hF1.1, hs4]; exact Nat.le_refl _)⟩ hX3)
          · skip
            refine z_push 96 (nI 2) rfl rfl rfl ?_
            refine z_cv2 99 rfl rfl (by first | exact c1 | exact cp1 | exact hC4.1 | exact dp1 | exact hwr.1 | exact hC1.1 | exact hC2.1 | exact hC3.1 | fail "lk") rfl (Nat.le_refl _) (Nat.le_refl _) ?_
            refine c_keepN hC2 (by decide) ?_
            refine z_cv1 102 rfl rfl (by first | exact c1 | exact cp1 | exact hC4.1 | exact dp1 | exact hwr.1 | exact hC1.1 | exact hC2.1 | exact hC3.1 | fail "lk") rfl (Nat.le_refl _) (Nat.le_refl _) ?_
            refine c_ansN hC2 (by decide) (fun h3 hC3 hX3 => ?_)
            refine z_ireti rfl (Nat.le_refl _) (Nat.le_refl _) ?_
            have e9 : sp_transcode A (nI P) (nI RU) (nI U) (nI RB) = (-6, A.tell) := by
              rw [sp_transcode, if_pos ⟨hr, hrq⟩, hp2, hu2, if_pos ⟨hcl, hclq⟩, if_pos ⟨hru8, hrb8⟩, hru2, hrb2, hX0]
              show enR A (wrPg A U RB us 6000 0) = _
              rw [hX]
              rfl
            rw [e9] at q
            exact q h3 hC3.inv (KpX.trans (h1 := h2) ⟨fun x hx => (hF2 x (by omega) (by omega)).trans ((hF1.2 x (by omega)).trans (hF4 x (by omega) (by omega))), by rw [hs2]; exact (by rw [hF1.1, hs4]; exact Nat.le_refl _)⟩ hX3)
        · skip
          refine z_push 52 (nI 0) rfl rfl rfl ?_
          refine z_min 55 _ rfl rfl rfl (Nat.le_refl _) (Nat.le_refl _) (show _ = (-9 : Int32) from by decide) ?_
          refine z_istore 57 rfl rfl rfl rfl ?_
          refine z_iload 59 rfl rfl rfl ?_
          refine z_jeq 62 rfl rfl (fun h9 => absurd h9 (by decide)) (fun _ => ?_)
          refine z_aload 63 rfl rfl rfl ?_
          refine z_iload 65 rfl rfl rfl ?_
          refine z_cv1 68 rfl rfl (by first | exact c1 | exact cp1 | exact hC4.1 | exact dp1 | exact hwr.1 | exact hC1.1 | exact hC2.1 | exact hC3.1 | fail "lk") rfl (Nat.le_refl _) (Nat.le_refl _) ?_
          refine c_ansN hC4 (by decide) (fun h1 hC1 hX1 => ?_)
          refine z_ireti rfl (Nat.le_refl _) (Nat.le_refl _) ?_
          have e9 : sp_transcode A (nI P) (nI RU) (nI U) (nI RB) = (-9, (A.wPlc a).tell) := by
            rw [sp_transcode, if_pos ⟨hr, hrq⟩, hp2, hu2, if_pos ⟨hcl, hclq⟩, if_pos ⟨hru8, hrb8⟩, hru2, hrb2, hX0]
          rw [e9] at q
          exact q h1 hC1.inv (KpX.trans (h1 := h4) ⟨fun x hx => hF4 x (by omega) (by omega) (by omega), by rw [hs4]; exact Nat.le_refl _⟩ hX1)
      · refine z_push 29 (-1) rfl rfl rfl ?_
        refine z_istore 31 rfl rfl rfl rfl ?_
        refine z_iload 33 rfl rfl rfl ?_
        refine z_jne 36 rfl rfl (fun _ => ?_) (fun h9 => absurd h9 (by decide))
        refine z_iload 59 rfl rfl rfl ?_
        refine z_jeq 62 rfl rfl (fun h9 => absurd h9 (by decide)) (fun _ => ?_)
        refine z_aload 63 rfl rfl rfl ?_
        refine z_iload 65 rfl rfl rfl ?_
        refine z_cv1 68 rfl rfl (by first | exact c1 | exact cp1 | exact hC4.1 | exact dp1 | exact hwr.1 | exact hC1.1 | exact hC2.1 | exact hC3.1 | fail "lk") rfl (Nat.le_refl _) (Nat.le_refl _) ?_
        refine c_ansN hC (by decide) (fun h1 hC1 hX1 => ?_)
        refine z_ireti rfl (Nat.le_refl _) (Nat.le_refl _) ?_
        have hb9 := bf_0 hc10
        have e9 : sp_transcode A p ru q9 by9 = (-1, A.tell) := by
          rw [sp_transcode, if_pos hb9.1, if_pos hb9.2, if_neg (fun h9 => of_decide_eq_false hc25 h9.2)]
        rw [e9] at q
        exact q h1 hC1.inv hX1
