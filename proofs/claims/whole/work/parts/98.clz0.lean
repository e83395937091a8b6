/-! the class: receive -/
theorem tiA_1 {bs : List Nat} (h : 100 < bs.getD 0 0 ∨ tiE bs (bs.getD 0 0) [] 1 = none) : tiA bs = none := by
  unfold tiA
  split
  · rename_i h1
    rcases h with h2 | h2
    · omega
    · rw [h2]
  · rfl
theorem tiA_2 {bs : List Nat} {E : List En} {x : Nat} (h0 : tiE bs (bs.getD 0 0) [] 1 = some (E, x)) (h : bs.length ≤ x ∨ 10 < bs.getD x 0 ∨ tiS bs (bs.getD x 0) [] (x + 1) = none) : tiA bs = none := by
  unfold tiA
  split
  · rw [h0]
    simp only
    split
    · rename_i h1
      rcases h with h2 | h2 | h2
      · omega
      · omega
      · rw [h2]
    · rfl
  · rfl
theorem tiA_3 {bs : List Nat} {E : List En} {H : List Sh} {x y : Nat} (h0 : tiE bs (bs.getD 0 0) [] 1 = some (E, x)) (h1 : tiS bs (bs.getD x 0) [] (x + 1) = some (H, y)) (h : ¬ y = bs.length ∨ ∃ a, gdA E H = some a) : tiA bs = none := by
  unfold tiA
  split
  · rw [h0]
    simp only
    split
    · rw [h1]
      simp only
      rw [if_neg]
      rintro ⟨h3, h4⟩
      rcases h with h2 | ⟨a, h2⟩
      · exact h2 h3
      · rw [h2] at h4; cases h4
    · rfl
  · rfl
theorem tiA_4 {bs : List Nat} {E : List En} {H : List Sh} {x y : Nat} (hl : 0 < bs.length) (h9 : bs.getD 0 0 ≤ 100) (h0 : tiE bs (bs.getD 0 0) [] 1 = some (E, x)) (hx : x < bs.length) (h8 : bs.getD x 0 ≤ 10) (h1 : tiS bs (bs.getD x 0) [] (x + 1) = some (H, y)) (h2 : y = bs.length) (h3 : gdA E H = none) : tiA bs = some (E, H) := by
  unfold tiA
  rw [if_pos ⟨hl, h9⟩, h0]
  simp only
  rw [if_pos ⟨hx, h8⟩, h1]
  simp only
  rw [if_pos ⟨h2, by rw [h3]; rfl⟩]
theorem rc_tx {bs : List Nat} (h : 4 ≤ bs.length) : txF bs (bs.length - 2) 2 = bs.getD (bs.length - 2) 0 * 2 ^ 8 + bs.getD (bs.length - 1) 0 := by
  have e1 : nb bs (bs.length - 2 + 0) = bs.getD (bs.length - 2) 0 := by rw [nb, if_pos (by omega)]; rfl
  have e2 : nb bs (bs.length - 2 + 1) = bs.getD (bs.length - 1) 0 := by rw [nb, if_pos (by omega), show bs.length - 2 + 1 = bs.length - 1 by omega]
  show (0 * 2 ^ 8 + nb bs (bs.length - 2 + 0)) * 2 ^ 8 + nb bs (bs.length - 2 + 1) = _
  rw [e1, e2]; omega
theorem PgC0.e {h h' : mH} {p : Nat} {E : List En} {H : List Sh} (a : PgC0 h p E H) (f : Eqv p (p + 20) h h') : PgC0 h' p E H := by
  have h1 : PgC h p 0 E H := Or.inl ⟨rfl, a⟩
  rcases h1.e f with ⟨_, h2⟩ | ⟨h2, _⟩
  · exact h2
  · exact absurd rfl h2
set_option maxRecDepth 100000 in
theorem c_rcT {d : Nat} {h0 h : mH} {A : Ab} {pad : Nat → Nat} {res wrk s nc ns : Nat} {o2 o3 : Option Value} {Q : mP} (hC : CI h A pad (some s) res wrk) (hA : AbW A) (hl : A.pgs.length < 10) (hM : ∀ D m, A.mcs D = some m → m.1 < A.pgs.length) (hn : 4 ≤ A.bys.length) (hrc : rcS9 A = true) (hnc : nc ≤ 20) (hns : ns ≤ 1863) (hK : KpX h0 h) (q : ∀ h', CInv h' (sp_receive A).2 → KpX h0 h' → Q (some (.int (sp_receive A).1)) h') : mZ (d + 5) tk_137 20 1863 Q 77 [some (.ref 1), some (.int (nI (A.bys.length - 2))), o2, o3] [] h nc ns := by
  obtain ⟨c1, cr, cp, cb, cu, cq, cs, ck, cru, cm⟩ := id hC
  obtain ⟨cp0, ⟨pf, cp1, cp2⟩, cp3, cp4, cp5⟩ := id cp
  obtain ⟨hPB, hKb, hGd, hbb, hub, hsg1, hsg2, hFW, hFd⟩ := id hA
  obtain ⟨b1, b2, ⟨E0, H0, hPO⟩, b4⟩ := cp5 s rfl
  obtain ⟨m8, rc8, hd8, nx8, od8, T8, N8, A8, S8, ⟨hpg, hEA, hSA, _⟩, _⟩ := id hPO
  obtain ⟨_, _, _, _, f15, h15⟩ := cs
  have hbl9 := cb.2.1
  have hbl : (A.bys.take (A.bys.length - 2)).length = A.bys.length - 2 := by rw [List.length_take]; omega
  have hgt : ∀ j, j < A.bys.length - 2 → A.bys.getD j 0 = (A.bys.take (A.bys.length - 2)).getD j 0 := fun j hj => by rw [getD_take9, if_pos hj]
  refine z_aload 78 rfl rfl rfl ?_
  refine z_get 81 rfl rfl (by first | exact c1 | exact hpg | exact hEA.2.choose_spec.choose_spec.choose_spec.choose_spec.choose_spec.1.1 | exact hCe2.1 | exact hpg2 | exact hSA2.2.choose_spec.choose_spec.choose_spec.choose_spec.1.1 | exact hCe3.1 | exact hpg3 | exact hCe4.1 | exact c14 | exact hC5.1 | fail "lk") rfl ?_
  refine z_astore 82 rfl rfl rfl rfl ?_
  refine z_aload 83 rfl rfl rfl ?_
  refine z_get 86 rfl rfl (by first | exact c1 | exact hpg | exact hEA.2.choose_spec.choose_spec.choose_spec.choose_spec.choose_spec.1.1 | exact hCe2.1 | exact hpg2 | exact hSA2.2.choose_spec.choose_spec.choose_spec.choose_spec.1.1 | exact hCe3.1 | exact hpg3 | exact hCe4.1 | exact c14 | exact hC5.1 | fail "lk") rfl ?_
  refine z_aload 87 rfl rfl rfl ?_
  refine z_get 90 rfl rfl (by first | exact c1 | exact hpg | exact hEA.2.choose_spec.choose_spec.choose_spec.choose_spec.choose_spec.1.1 | exact hCe2.1 | exact hpg2 | exact hSA2.2.choose_spec.choose_spec.choose_spec.choose_spec.1.1 | exact hCe3.1 | exact hpg3 | exact hCe4.1 | exact c14 | exact hC5.1 | fail "lk") rfl ?_
  refine z_push 91 (nI 0) rfl rfl rfl ?_
  refine z_iload 92 rfl rfl rfl ?_
  refine z_cv3 95 rfl rfl (by first | exact c1 | exact hpg | exact hEA.2.choose_spec.choose_spec.choose_spec.choose_spec.choose_spec.1.1 | exact hCe2.1 | exact hpg2 | exact hSA2.2.choose_spec.choose_spec.choose_spec.choose_spec.1.1 | exact hCe3.1 | exact hpg3 | exact hCe4.1 | exact c14 | exact hC5.1 | fail "lk") rfl (by omega) (by omega) ?_
  refine c_En_readFrom hEA cb (by decide) (by omega) hbb hbl (by omega) (by omega) (by omega) hgt (fun hti h2 E2 hE2 hF2 => ?_) (fun E x hx100 htE hxs hWE h2 hE2 hF2 => ?_)
  · have hP2 := hPO.en hE2 hF2
    have f2 : ∀ x, (x < s ∨ s + 20 ≤ x) → h2.2 x = h.2 x := fun x hx => hF2.2 x (by omega)
    have hCe2 := hC.spr hP2 ((f2 15 (by omega)).trans h15) (fun x hx _ => f2 x hx) hF2.1
    have hpg2 := (hF2.2 s (by omega)).trans hpg
    refine z_istore 96 rfl rfl rfl rfl ?_
    refine z_iload 97 rfl rfl rfl ?_
    refine z_jlt 100 rfl rfl (fun _ => ?_) (fun h9 => absurd h9 (by decide))
    refine z_iload 115 rfl rfl rfl ?_
    refine z_iload 116 rfl rfl rfl ?_
    refine z_cne 119 rfl rfl (fun _ => ?_) (fun h9 => absurd h9.symm (nI_ne1 (by omega)))
    refine z_aload 131 rfl rfl rfl ?_
    refine z_push 133 (-8) rfl rfl rfl ?_
    refine z_cv1 136 rfl rfl (by first | exact c1 | exact hpg | exact hEA.2.choose_spec.choose_spec.choose_spec.choose_spec.choose_spec.1.1 | exact hCe2.1 | exact hpg2 | exact hSA2.2.choose_spec.choose_spec.choose_spec.choose_spec.1.1 | exact hCe3.1 | exact hpg3 | exact hCe4.1 | exact c14 | exact hC5.1 | fail "lk") rfl (by omega) (by omega) ?_
    refine c_ansN hCe2 (by decide) (fun h1 hC1 hX1 => ?_)
    refine z_ireti rfl (by omega) (by omega) ?_
    have e9 : sp_receive A = (-8, A.tell) := by
      rw [sp_receive, if_neg (by omega), if_pos hrc, tiA_1 hti]
    rw [e9] at q
    exact q h1 hC1.inv (hK.trans (KpX.trans (h1 := h2) ⟨fun x hx => (hF2.2 x (by omega)), by rw [hF2.1]; exact Nat.le_refl _⟩ hX1))
  · have hP2 := hPO.en hE2 hF2
    have f2 : ∀ x, (x < s ∨ s + 20 ≤ x) → h2.2 x = h.2 x := fun x hx => hF2.2 x (by omega)
    have hCe2 := hC.spr hP2 ((f2 15 (by omega)).trans h15) (fun x hx _ => f2 x hx) hF2.1
    have hpg2 := (hF2.2 s (by omega)).trans hpg
    have hSA2 := hSA.e (h' := h2) (fun x x1 x2 => hF2.2 x (by omega))
    refine z_istore 96 rfl rfl rfl rfl ?_
    refine z_iload 97 rfl rfl rfl ?_
    refine z_zlt 100 rfl rfl (by omega) (fun h9 => absurd h9 (by omega)) (fun _ => ?_)
    refine z_aload 101 rfl rfl rfl ?_
    refine z_get 104 rfl rfl (by first | exact c1 | exact hpg | exact hEA.2.choose_spec.choose_spec.choose_spec.choose_spec.choose_spec.1.1 | exact hCe2.1 | exact hpg2 | exact hSA2.2.choose_spec.choose_spec.choose_spec.choose_spec.1.1 | exact hCe3.1 | exact hpg3 | exact hCe4.1 | exact c14 | exact hC5.1 | fail "lk") rfl ?_
    refine z_aload 105 rfl rfl rfl ?_
    refine z_get 108 rfl rfl (by first | exact c1 | exact hpg | exact hEA.2.choose_spec.choose_spec.choose_spec.choose_spec.choose_spec.1.1 | exact hCe2.1 | exact hpg2 | exact hSA2.2.choose_spec.choose_spec.choose_spec.choose_spec.1.1 | exact hCe3.1 | exact hpg3 | exact hCe4.1 | exact c14 | exact hC5.1 | fail "lk") rfl ?_
    refine z_iload 109 rfl rfl rfl ?_
    refine z_iload 110 rfl rfl rfl ?_
    refine z_cv3 113 rfl rfl (by first | exact c1 | exact hpg | exact hEA.2.choose_spec.choose_spec.choose_spec.choose_spec.choose_spec.1.1 | exact hCe2.1 | exact hpg2 | exact hSA2.2.choose_spec.choose_spec.choose_spec.choose_spec.1.1 | exact hCe3.1 | exact hpg3 | exact hCe4.1 | exact c14 | exact hC5.1 | fail "lk") rfl (by omega) (by omega) ?_
    refine c_Sh_readFrom hSA2 hWE hCe2.2.2.2.1 (by decide) (by omega) hbb hbl (by omega) hxs (by omega) hgt (fun hti h3 H3 hS3 hF3 => ?_) (fun H hx10 htS hys hWH h3 hS3 hF3 => ?_)
    · have hP3 := hP2.sh hS3 hF3
      have f3 : ∀ x, (x < s ∨ s + 20 ≤ x) → h3.2 x = h.2 x := fun x hx => (hF3.2 x (by omega)).trans (f2 x hx)
      have hCe3 := hC.spr hP3 ((f3 15 (by omega)).trans h15) (fun x hx _ => f3 x hx) (hF3.1.trans hF2.1)
      have hpg3 := (hF3.2 s (by omega)).trans hpg2
      refine z_istore 114 rfl rfl rfl rfl ?_
      refine z_iload 115 rfl rfl rfl ?_
      refine z_iload 116 rfl rfl rfl ?_
      refine z_cne 119 rfl rfl (fun _ => ?_) (fun h9 => absurd h9.symm (nI_ne1 (by omega)))
      refine z_aload 131 rfl rfl rfl ?_
      refine z_push 133 (-8) rfl rfl rfl ?_
      refine z_cv1 136 rfl rfl (by first | exact c1 | exact hpg | exact hEA.2.choose_spec.choose_spec.choose_spec.choose_spec.choose_spec.1.1 | exact hCe2.1 | exact hpg2 | exact hSA2.2.choose_spec.choose_spec.choose_spec.choose_spec.1.1 | exact hCe3.1 | exact hpg3 | exact hCe4.1 | exact c14 | exact hC5.1 | fail "lk") rfl (by omega) (by omega) ?_
      refine c_ansN hCe3 (by decide) (fun h1 hC1 hX1 => ?_)
      refine z_ireti rfl (by omega) (by omega) ?_
      have e9 : sp_receive A = (-8, A.tell) := by
        rw [sp_receive, if_neg (by omega), if_pos hrc, tiA_2 htE (by rw [hbl]; exact hti)]
      rw [e9] at q
      exact q h1 hC1.inv (hK.trans (KpX.trans (h1 := h3) ⟨fun x hx => (hF3.2 x (by omega)).trans (hF2.2 x (by omega)), by rw [hF3.1, hF2.1]; exact Nat.le_refl _⟩ hX1))
    · have hP3 := hP2.sh hS3 hF3
      have f3 : ∀ x, (x < s ∨ s + 20 ≤ x) → h3.2 x = h.2 x := fun x hx => (hF3.2 x (by omega)).trans (f2 x hx)
      have hCe3 := hC.spr hP3 ((f3 15 (by omega)).trans h15) (fun x hx _ => f3 x hx) (hF3.1.trans hF2.1)
      have hpg3 := (hF3.2 s (by omega)).trans hpg2
      refine z_istore 114 rfl rfl rfl rfl ?_
      refine z_iload 115 rfl rfl rfl ?_
      refine z_iload 116 rfl rfl rfl ?_
      refine z_nne 119 rfl rfl (by omega) (by omega) (fun hc116 => ?_) (fun hc116 => ?_)
      · refine z_aload 131 rfl rfl rfl ?_
        refine z_push 133 (-8) rfl rfl rfl ?_
        refine z_cv1 136 rfl rfl (by first | exact c1 | exact hpg | exact hEA.2.choose_spec.choose_spec.choose_spec.choose_spec.choose_spec.1.1 | exact hCe2.1 | exact hpg2 | exact hSA2.2.choose_spec.choose_spec.choose_spec.choose_spec.1.1 | exact hCe3.1 | exact hpg3 | exact hCe4.1 | exact c14 | exact hC5.1 | fail "lk") rfl (by omega) (by omega) ?_
        refine c_ansN hCe3 (by decide) (fun h1 hC1 hX1 => ?_)
        refine z_ireti rfl (by omega) (by omega) ?_
        have e9 : sp_receive A = (-8, A.tell) := by
          rw [sp_receive, if_neg (by omega), if_pos hrc, tiA_3 htE htS (Or.inl (by omega))]
        rw [e9] at q
        exact q h1 hC1.inv (hK.trans (KpX.trans (h1 := h3) ⟨fun x hx => (hF3.2 x (by omega)).trans (hF2.2 x (by omega)), by rw [hF3.1, hF2.1]; exact Nat.le_refl _⟩ hX1))
      · refine z_aload 120 rfl rfl rfl ?_
        refine z_aload 121 rfl rfl rfl ?_
        refine z_get 124 rfl rfl (by first | exact c1 | exact hpg | exact hEA.2.choose_spec.choose_spec.choose_spec.choose_spec.choose_spec.1.1 | exact hCe2.1 | exact hpg2 | exact hSA2.2.choose_spec.choose_spec.choose_spec.choose_spec.1.1 | exact hCe3.1 | exact hpg3 | exact hCe4.1 | exact c14 | exact hC5.1 | fail "lk") rfl ?_
        refine z_cv1 127 rfl rfl (by first | exact c1 | exact hpg | exact hEA.2.choose_spec.choose_spec.choose_spec.choose_spec.choose_spec.1.1 | exact hCe2.1 | exact hpg2 | exact hSA2.2.choose_spec.choose_spec.choose_spec.choose_spec.1.1 | exact hCe3.1 | exact hpg3 | exact hCe4.1 | exact c14 | exact hC5.1 | fail "lk") rfl (by omega) (by omega) ?_
        refine c_isGood hpg3 (hE2.e (fun x x1 x2 => hF3.2 x (by omega))) hS3 hWH ((f3 15 (by omega)).trans h15) (fun hgd => ?_) (fun a9 b9 e9 hgd h4 hN4 hF4 => ?_)
        · skip
          refine z_zne 130 rfl rfl (by omega) (fun _ => ?_) (fun h9 => absurd h9 (by omega))
          refine z_aload 138 rfl rfl rfl ?_
          refine z_cv0 141 rfl rfl (by first | exact c1 | exact hpg | exact hEA.2.choose_spec.choose_spec.choose_spec.choose_spec.choose_spec.1.1 | exact hCe2.1 | exact hpg2 | exact hSA2.2.choose_spec.choose_spec.choose_spec.choose_spec.1.1 | exact hCe3.1 | exact hpg3 | exact hCe4.1 | exact c14 | exact hC5.1 | fail "lk") rfl (by omega) (by omega) ?_
          refine c_settle hP3 hWH hgd (fun h4 hPC4 hF4 => ?_)
          have c14 := (hF4.2 1 (by omega)).trans ((f3 1 (by omega)).trans c1)
          refine z_aload 142 rfl rfl rfl ?_
          refine z_null 143 rfl rfl ?_
          refine z_put 146 rfl rfl (by first | exact c1 | exact hpg | exact hEA.2.choose_spec.choose_spec.choose_spec.choose_spec.choose_spec.1.1 | exact hCe2.1 | exact hpg2 | exact hSA2.2.choose_spec.choose_spec.choose_spec.choose_spec.1.1 | exact hCe3.1 | exact hpg3 | exact hCe4.1 | exact c14 | exact hC5.1 | fail "lk") rfl (mFn rfl) ?_
          refine z_ab 1 (oX A.pgs.length none res A.res.1 wrk A.plc A.fnd) h4 (mg_eq _ _ _) (fun x hx => by simp only [mSet, if_neg hx]) rfl (fun h5 hc5 kh5 zh5 => ?_)
          have hC5 := hC.nos hc5 (fun x hx hx2 => (kh5 x hx2).trans ((hF4.2 x (by omega)).trans (f3 x hx))) (zh5.trans (hF4.1.trans (hF3.1.trans hF2.1)))
          have hPC5 := hPC4.e (h' := h5) (fun x x1 x2 => kh5 x (by omega))
          refine z_aload 147 rfl rfl rfl ?_
          refine z_aload 148 rfl rfl rfl ?_
          refine z_cv1 151 rfl rfl (by first | exact c1 | exact hpg | exact hEA.2.choose_spec.choose_spec.choose_spec.choose_spec.choose_spec.1.1 | exact hCe2.1 | exact hpg2 | exact hSA2.2.choose_spec.choose_spec.choose_spec.choose_spec.1.1 | exact hCe3.1 | exact hpg3 | exact hCe4.1 | exact c14 | exact hC5.1 | fail "lk") rfl (by omega) (by omega) ?_
          refine c_addPage (b := s) (K := 0) (c := true) (E := E) (H := H) hC5 hl (Or.inl ⟨rfl, Or.inl ⟨rfl, hPC5⟩⟩) b1 (by rw [zh5, hF4.1, hF3.1, hF2.1]; exact b2) b4 (fun s9 h9 => by cases h9) hM (fun h6 hC6 hF6 => ?_)
          refine z_ireti rfl (by omega) (by omega) ?_
          have e9 : sp_receive A = (nI A.pgs.length, A.wPgs (A.pgs ++ [(0, true, E, H)])) := by
            rw [sp_receive, if_neg (by omega), if_pos hrc, tiA_4 (by omega) hx100 htE (by omega) hx10 htS (by omega) hgd]
          rw [e9] at q
          exact q h6 hC6.inv (hK.trans ⟨fun x hx => (hF6.2 x (by omega)).trans ((kh5 x (by omega)).trans ((hF4.2 x (by omega)).trans (f3 x (by omega)))), by rw [hF6.1, zh5, hF4.1, hF3.1, hF2.1]; exact Nat.le_refl _⟩)
        · obtain ⟨f9, hN5, _⟩ := hN4
          have hCe4 := hCe3.spr (hP3.e (fun x x1 x2 => hF4.2 x (by omega))) hN5 (fun x hx hx2 => hF4.2 x (by omega)) hF4.1
          refine z_zne 130 rfl rfl (by omega) (fun h9 => absurd h9 (by omega)) (fun _ => ?_)
          refine z_aload 131 rfl rfl rfl ?_
          refine z_push 133 (-8) rfl rfl rfl ?_
          refine z_cv1 136 rfl rfl (by first | exact c1 | exact hpg | exact hEA.2.choose_spec.choose_spec.choose_spec.choose_spec.choose_spec.1.1 | exact hCe2.1 | exact hpg2 | exact hSA2.2.choose_spec.choose_spec.choose_spec.choose_spec.1.1 | exact hCe3.1 | exact hpg3 | exact hCe4.1 | exact c14 | exact hC5.1 | fail "lk") rfl (by omega) (by omega) ?_
          refine c_ansN hCe4 (by decide) (fun h1 hC1 hX1 => ?_)
          refine z_ireti rfl (by omega) (by omega) ?_
          have e9 : sp_receive A = (-8, A.tell) := by
            rw [sp_receive, if_neg (by omega), if_pos hrc, tiA_3 htE htS (Or.inr ⟨_, hgd⟩)]
          rw [e9] at q
          exact q h1 hC1.inv (hK.trans (KpX.trans (h1 := h4) ⟨fun x hx => (hF4.2 x (by omega)).trans ((hF3.2 x (by omega)).trans (hF2.2 x (by omega))), by rw [hF4.1, hF3.1, hF2.1]; exact Nat.le_refl _⟩ hX1))
set_option maxRecDepth 100000 in
theorem c_receive {d : Nat} {h : mH} {A : Ab} {pad : Nat → Nat} {sp : Option Nat} {res wrk : Nat}  {Q : mP} (hC : CI h A pad sp res wrk) (hA : AbW A) (h143 : 143 ≤ h.1) (hM : ∀ D m, A.mcs D = some m → m.1 < A.pgs.length)  (q : ∀ h', CInv h' (sp_receive A).2 → KpX h h' → Q (some (.int (sp_receive A).1)) h') : mWP (d + 6) 137 [.ref 1] h Q := by
  obtain ⟨c1, cr, cp, cb, cu, cq, cs, ck, cru, cm⟩ := id hC
  obtain ⟨cp0, ⟨pf, cp1, cp2⟩, cp3, cp4, cp5⟩ := id cp
  obtain ⟨hPB, hKb, hGd, hbb, hub, hsg1, hsg2, hFW, hFd⟩ := id hA
  have hbl9 := cb.2.1
  have htx := txF_b (a := A.bys.length - 2) hbb 2
  have hsm : smN A.bys (A.bys.length - 2) % 65521 < 65521 := Nat.mod_lt _ (by decide)
  refine z_in [some (.ref 1), none, none, none] (by rfl) rfl rfl rfl ?_
  refine z_aload 1 rfl rfl rfl ?_
  refine z_get 4 rfl rfl (by first | exact c1 | exact cb.1 | exact hc2 | fail "lk") rfl ?_
  refine z_push 6 (nI 10) rfl rfl rfl ?_
  refine z_nlt 9 rfl rfl (by omega) (by omega) (fun hc6 => ?_) (fun hc6 => ?_)
  · refine z_aload 17 rfl rfl rfl ?_
    refine z_get 20 rfl rfl (by first | exact c1 | exact cb.1 | exact hc2 | fail "lk") rfl ?_
    refine z_get 23 rfl rfl (by first | exact c1 | exact cb.1 | exact hc2 | fail "lk") rfl ?_
    refine z_push 24 (nI 2) rfl rfl rfl ?_
    rcases (show A.bys.length = 0 ∨ A.bys.length = 1 ∨ 2 ≤ A.bys.length by omega) with hb | hb | hb
    · rw [hb]
      refine z_bop 25 _ rfl rfl (show _ = (-2 : Int32) from by decide) ?_
      refine z_istore 26 rfl rfl rfl rfl ?_
      refine z_iload 27 rfl rfl rfl ?_
      refine z_push 28 (nI 2) rfl rfl rfl ?_
      refine z_tlt 31 rfl rfl (fun _ => ?_) (fun h9 => absurd h9 (by decide))
      refine z_aload 52 rfl rfl rfl ?_
      refine z_push 54 (-13) rfl rfl rfl ?_
      refine z_cv1 57 rfl rfl (by first | exact c1 | exact cb.1 | exact hc2 | fail "lk") rfl (by omega) (by omega) ?_
      refine c_ansN hC (by decide) (fun h1 hC1 hX1 => ?_)
      refine z_ireti rfl (by omega) (by omega) ?_
      have e9 : sp_receive A = (-13, A.tell) := by
        rw [sp_receive, if_neg (by omega), if_neg (by rw [rcS9, decide_eq_false (fun h9 => by omega)]; decide)]
      rw [e9] at q
      exact q h1 hC1.inv hX1
    · rw [hb]
      refine z_bop 25 _ rfl rfl (show _ = (-1 : Int32) from by decide) ?_
      refine z_istore 26 rfl rfl rfl rfl ?_
      refine z_iload 27 rfl rfl rfl ?_
      refine z_push 28 (nI 2) rfl rfl rfl ?_
      refine z_tlt 31 rfl rfl (fun _ => ?_) (fun h9 => absurd h9 (by decide))
      refine z_aload 52 rfl rfl rfl ?_
      refine z_push 54 (-13) rfl rfl rfl ?_
      refine z_cv1 57 rfl rfl (by first | exact c1 | exact cb.1 | exact hc2 | fail "lk") rfl (by omega) (by omega) ?_
      refine c_ansN hC (by decide) (fun h1 hC1 hX1 => ?_)
      refine z_ireti rfl (by omega) (by omega) ?_
      have e9 : sp_receive A = (-13, A.tell) := by
        rw [sp_receive, if_neg (by omega), if_neg (by rw [rcS9, decide_eq_false (fun h9 => by omega)]; decide)]
      rw [e9] at q
      exact q h1 hC1.inv hX1
    · skip
      refine z_bop 25 _ rfl rfl (zb_1 (by omega)) ?_
      refine z_istore 26 rfl rfl rfl rfl ?_
      refine z_iload 27 rfl rfl rfl ?_
      refine z_push 28 (nI 2) rfl rfl rfl ?_
      refine z_nlt 31 rfl rfl (by omega) (by omega) (fun hc28 => ?_) (fun hc28 => ?_)
      · refine z_aload 52 rfl rfl rfl ?_
        refine z_push 54 (-13) rfl rfl rfl ?_
        refine z_cv1 57 rfl rfl (by first | exact c1 | exact cb.1 | exact hc2 | fail "lk") rfl (by omega) (by omega) ?_
        refine c_ansN hC (by decide) (fun h1 hC1 hX1 => ?_)
        refine z_ireti rfl (by omega) (by omega) ?_
        have e9 : sp_receive A = (-13, A.tell) := by
          rw [sp_receive, if_neg (by omega), if_neg (by rw [rcS9, decide_eq_false (fun h9 => by omega)]; decide)]
        rw [e9] at q
        exact q h1 hC1.inv hX1
      · refine z_aload 32 rfl rfl rfl ?_
        refine z_get 35 rfl rfl (by first | exact c1 | exact cb.1 | exact hc2 | fail "lk") rfl ?_
        refine z_iload 36 rfl rfl rfl ?_
        refine z_push 37 (nI 2) rfl rfl rfl ?_
        refine z_cv2 40 rfl rfl (by first | exact c1 | exact cb.1 | exact hc2 | fail "lk") rfl (by omega) (by omega) ?_
        refine w_numberAt cb (by decide) hbb (by decide) (by omega) ?_
        refine z_aload 41 rfl rfl rfl ?_
        refine z_get 44 rfl rfl (by first | exact c1 | exact cb.1 | exact hc2 | fail "lk") rfl ?_
        refine z_iload 45 rfl rfl rfl ?_
        refine z_cs2 48 rfl rfl rfl (by omega) (by omega) ?_
        refine c_checkSum cb (by decide) hbb (by omega) (by omega) ?_
        refine z_neq 51 rfl rfl (by omega) (by omega) (fun hc48 => ?_) (fun hc48 => ?_)
        · have hrc : rcS9 A = true := decide_eq_true ⟨by omega, by rw [← rc_tx (by omega)]; exact hc48.symm⟩
          rcases sp with _ | s
          · skip
            refine z_aload 59 rfl rfl rfl ?_
            refine z_get 62 rfl rfl (by first | exact c1 | exact cb.1 | exact hc2 | fail "lk") rfl ?_
            refine z_nnN 65 rfl rfl ?_
            refine z_aload 66 rfl rfl rfl ?_
            refine z_newA 69 h.1 rfl rfl rfl (by omega) (by omega) ?_
            first | refine z_dup 70 rfl rfl ?_ | refine z_dupi 70 rfl rfl ?_
            refine z_push 71 (nI 0) rfl rfl rfl ?_
            refine z_ci1 74 rfl rfl rfl (by omega) (by omega) ?_
            refine c_Pg_init0 (mw_eq _ _ _) rfl (fun h2 z2 hP2 hf2 => ?_)
            have f2 : ∀ x, x < h.1 → h2.2 x = h.2 x := fun x hx => (hf2 x hx).trans (mw_ne (by omega) rfl)
            have hc2 := (f2 1 (by omega)).trans c1
            refine z_put 77 rfl rfl (by first | exact c1 | exact cb.1 | exact hc2 | fail "lk") rfl (mFo rfl) ?_
            refine z_ab 1 (oX A.pgs.length (some h.1) res A.res.1 wrk A.plc A.fnd) h2 (mg_eq _ _ _) (fun x hx => by simp only [mSet, if_neg hx]) rfl (fun h3 hc3 kh3 zh3 => ?_)
            have hC3 := hC.mk (hP2.e (h' := h3) (fun x x1 x2 => kh3 x (by omega))) hc3 rfl h143 (fun x hx hx2 => (kh3 x hx2).trans (f2 x hx)) (zh3.trans z2)
            exact c_rcT hC3 hA (by omega) hM (by omega) hrc (by omega) (by omega) ⟨fun x hx => (kh3 x (by omega)).trans (f2 x (by omega)), by omega⟩ q
          · skip
            refine z_aload 59 rfl rfl rfl ?_
            refine z_get 62 rfl rfl (by first | exact c1 | exact cb.1 | exact hc2 | fail "lk") rfl ?_
            refine z_nn rfl ?_
            exact c_rcT hC hA (by omega) hM (by omega) hrc (by omega) (by omega) KpX.rfl q
        · refine z_aload 52 rfl rfl rfl ?_
          refine z_push 54 (-13) rfl rfl rfl ?_
          refine z_cv1 57 rfl rfl (by first | exact c1 | exact cb.1 | exact hc2 | fail "lk") rfl (by omega) (by omega) ?_
          refine c_ansN hC (by decide) (fun h1 hC1 hX1 => ?_)
          refine z_ireti rfl (by omega) (by omega) ?_
          have e9 : sp_receive A = (-13, A.tell) := by
            rw [sp_receive, if_neg (by omega), if_neg (by rw [rcS9, decide_eq_false (fun h9 => hc48 (by rw [rc_tx (by omega)]; exact h9.2.symm))]; decide)]
          rw [e9] at q
          exact q h1 hC1.inv hX1
  · refine z_aload 10 rfl rfl rfl ?_
    refine z_push 12 (-6) rfl rfl rfl ?_
    refine z_cv1 15 rfl rfl (by first | exact c1 | exact cb.1 | exact hc2 | fail "lk") rfl (by omega) (by omega) ?_
    refine c_ansN hC (by decide) (fun h1 hC1 hX1 => ?_)
    refine z_ireti rfl (by omega) (by omega) ?_
    have e9 : sp_receive A = (-6, A.tell) := by
      rw [sp_receive, if_pos (by omega)]
    rw [e9] at q
    exact q h1 hC1.inv hX1
