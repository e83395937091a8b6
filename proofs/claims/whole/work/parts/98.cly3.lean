/-! the class: lengths -/
theorem CI.wr {h h' : mH} {A : Ab} {pad : Nat → Nat} {sp : Option Nat} {res wrk p ru st : Nat} {l2 u : List Nat} (hC : CI h A pad sp res wrk) (hWr : WrAt h' 43 16 p ru st l2 u) (f : ∀ x, (x < 43 ∨ 48 ≤ x) → h'.2 x = h.2 x) (hs : h'.1 = h.1) : CI h' A pad sp res wrk := by
  have cr := hC.2.1
  obtain ⟨lw, s1⟩ := hC.2.2.2.2.2.2.1.1
  exact hC.wk (s1.e (fun x x1 x2 => f x (by omega))) hWr (fun x x1 _ => f x x1) hs
theorem PgC.rc {h : mH} {p K : Nat} {E : List En} {H : List Sh} (a : PgC h p K E H) (hg : ∀ k, k < H.length → shG H k < 4) : ∃ m rc, h.2 p = oPg K true p m rc ∧ rc < 16 ∧ ∀ s, s < 4 → rc.testBit s = ((rchd H).testBit s && (decide (K = 0) || decide (s = 0))) := by
  rcases a with ⟨e, m, rc, hd, nx, od, T, N, A, S, ht, _, _, _, _, hrc, _⟩ | ⟨e, e2, e3, e4, m, T, N, A, S, ht, _⟩
  · subst e hrc
    exact ⟨m, _, ht.1, rcK_lt hg 4 (by decide), fun s hs => by simp⟩
  · subst e3 e4
    refine ⟨m, 1, ht, by decide, fun s hs => ?_⟩
    rw [decide_eq_false e]
    match s, hs with
    | 0, _ => rfl
    | 1, _ => rfl
    | 2, _ => rfl
    | 3, _ => rfl
theorem wr1_ind {F : List Fb} {K : Nat} {E : List En} {H : List Sh} {sg a st st2 : Nat} {us : List Nat} {y : List Nat × Nat} (h : wr1 F K E H 0 sg us a st = some y) : ∃ y2, wr1 F K E H 0 sg us a st2 = some y2 := by
  unfold wr1 at h ⊢
  split at h
  · cases h
  · rename_i e
    rw [if_neg e]
    unfold wp1 at h ⊢
    split at h
    · rename_i x hx; exact ⟨_, rfl⟩
    · cases h
theorem wrA_ind {F : List Fb} {K : Nat} {E : List En} {H : List Sh} {sg m : Nat} {us : List Nat} : ∀ (k a st st2 : Nat) (l l2 : List Nat), (wrA F K E H 0 sg us m k a st l).1 = 0 → (wrA F K E H 0 sg us m k a st2 l2).1 ≠ 1
  | 0, a, st, st2, l, l2, h => by rw [wrA]; decide
  | k + 1, a, st, st2, l, l2, h => by
    by_cases h1 : us.length ≤ a
    · rw [wrA, if_pos h1]
      split
      · exact fun h9 => by cases h9
      · exact fun h9 => by cases h9
    · rcases hy : wr1 F K E H 0 sg us a st with _ | y
      · rw [wrA_n h1 hy] at h; cases h
      · obtain ⟨y2, hy2⟩ := wr1_ind (st2 := st2) hy
        by_cases h2 : l.length + y.1.length ≤ m
        · rw [wrA_g h1 hy h2] at h
          by_cases h3 : l2.length + y2.1.length ≤ m
          · rw [wrA_g h1 hy2 h3]; exact wrA_ind k _ _ _ _ _ h
          · rw [wrA_f h1 hy2 (by omega)]; exact fun h9 => by cases h9
        · rw [wrA_f h1 hy (by omega)] at h; cases h
theorem wr1_len0 {F : List Fb} {K sg a st rule : Nat} {us : List Nat} {E : List En} {H : List Sh} (hW : TbW E H) (hs : sg < 1114112) (hb : ∀ j, us.getD j 0 < 65536) (hr : rule ≠ 4) {y : List Nat × Nat} (h : wr1 F K E H rule sg us a st = some y) : y.1.length ≤ 10 := by
  unfold wr1 at h
  split at h
  · exact wl1_len hW hs h
  · rcases unA_c (a := a) hb with ⟨e, _⟩ | ⟨_, e⟩ | ⟨_, _, e, _⟩
    · contradiction
    · exact wp1_len1 hW hs (by omega) hr h
    · exact wp1_len1 hW hs e hr h
set_option maxRecDepth 100000 in
theorem c_writtenLength {d : Nat} {h0 : mH} {A : Ab} {pad : Nat → Nat} {sp : Option Nat} {res wrk : Nat} {P s0 : Nat} {Q : mP} (hC : CI h0 A pad sp res wrk) (hA : AbW A) (hFN : ∀ x, fbN A.fbs 40 x ≤ 16) (hP : P < A.pgs.length) (hcl : pgC A.pgs P = true) (hs0 : SOk (pgK A.pgs P) (pgH A.pgs P) s0) (hk0 : pgK A.pgs P ≠ 0 → s0 = 0)  (q0 : ∀ bs, (wrPg A P 0 A.uns 1000000 s0) = (0, 0, bs) → bs.length ≤ 10010 → ∀ h', CI h' A pad sp res wrk → (∀ x, (x < 43 ∨ 48 ≤ x) → h'.2 x = h0.2 x) → h'.1 = h0.1 → Q (some (.int (nI bs.length))) h') (q1 : ∀ a, (wrPg A P 0 A.uns 1000000 s0) = (1, a, []) → ∀ h', CI h' (A.wPlc a) pad sp res wrk → (∀ x, x ≠ 1 → (x < 43 ∨ 48 ≤ x) → h'.2 x = h0.2 x) → h'.1 = h0.1 → Q (some (.int (-10))) h') : mWP (d + 8) 165 [.ref 1, .ref (pad P), .int (nI s0)] h0 Q := by
  obtain ⟨c1, cr, cp, cb, cu, cq, cs, ck, cru, cm⟩ := id hC
  obtain ⟨cp0, ⟨pf, cp1, cp2⟩, cp3, cp4, cp5⟩ := id cp
  obtain ⟨hPB, hKb, hGd, hbb, hub, hsg1, hsg2, hFW, hFd⟩ := id hA
  have hW := hPB P hP
  have hG := hGd P hP hcl
  have hs2 := nPt_lt hsg2
  obtain ⟨hpad, hpad2, hPR⟩ := cp3 P hP
  have hPC0 : PgC h0 (pad P) (pgK A.pgs P) (pgE A.pgs P) (pgH A.pgs P) := PgR.cl (by rw [← hcl]; exact hPR)
  have hul := cu.2.1
  obtain ⟨p5, ru5, st5, l5, u5, hwr⟩ := cs.2.2.2.1
  have loop : ∀ k9 a st l lb u h o5, A.uns.length < a + k9 → a ≤ A.uns.length → SOk (pgK A.pgs P) (pgH A.pgs P) st → (pgK A.pgs P ≠ 0 → st = 0) → l.length ≤ 10 * a → (wrPg A P 0 A.uns 1000000 s0) = wrA A.fbs (pgK A.pgs P) (pgE A.pgs P) (pgH A.pgs P) 0 A.sgn.2 A.uns 1000000 k9 a st l → WrAt h 43 16 (pad P) 0 st lb u → (∀ x, (x < 43 ∨ 48 ≤ x) → h.2 x = h0.2 x) → h.1 = h0.1 → mZ (d + 7) tk_165 0 0 Q 15 [some (.ref 1), some (.ref (pad P)), some (.int (nI s0)), some (.int (nI l.length)), some (.int (nI a)), o5] [] h 0 0 := by
    intro k9
    induction k9 with
    | zero => intro a st l lb u h o5 h1 h2; omega
    | succ k9 ih =>
      intro a st l lb u h o5 h1 h2 hs hK0 hll hX hWr hFx hsz
      have hrow : RwAt h 5 1000 A.uns := cu.e (fun x x1 x2 => hFx x (by omega))
      obtain ⟨w1, w2, f, w3, w4⟩ := id hrow
      have hru2 : RuAt h 16 A.sgn.1 A.sgn.2 A.fbs := cru.e (fun x x1 x2 => hFx x (by omega))
      have hPC : PgC h (pad P) (pgK A.pgs P) (pgE A.pgs P) (pgH A.pgs P) := hPC0.e (fun x x1 x2 => hFx x (by omega))
      have hCI := hC.wr hWr hFx hsz
      refine z_iload 17 rfl rfl rfl ?_
      refine z_aload 18 rfl rfl rfl ?_
      refine z_get 21 rfl rfl (by first | exact hCI.1 | exact hrow.1 | exact w3 | exact hWr.1 | exact h2x | exact hw2.1 | exact hw2.2.1.1 | fail "lk") rfl ?_
      refine z_get 24 rfl rfl (by first | exact hCI.1 | exact hrow.1 | exact w3 | exact hWr.1 | exact h2x | exact hw2.1 | exact hw2.2.1.1 | fail "lk") rfl ?_
      refine z_nge 27 rfl rfl (by omega) (by omega) (fun hc24 => ?_) (fun hc24 => ?_)
      · refine z_aload 99 rfl rfl rfl ?_
        refine z_get 102 rfl rfl (by first | exact hCI.1 | exact hrow.1 | exact w3 | exact hWr.1 | exact h2x | exact hw2.1 | exact hw2.2.1.1 | fail "lk") rfl ?_
        refine z_cv0 105 rfl rfl (by first | exact hCI.1 | exact hrow.1 | exact w3 | exact hWr.1 | exact h2x | exact hw2.1 | exact hw2.2.1.1 | fail "lk") rfl (Nat.le_refl _) (Nat.le_refl _) ?_
        refine c_finish hWr hPC hs.1 (gh_g hG hs) hK0 (by omega) (fun h2 hw2 hF2 => ?_)
        have hF2x : ∀ x, (x < 43 ∨ 48 ≤ x) → h2.2 x = h0.2 x := fun x x1 => (hF2.2 x (by omega)).trans (hFx x x1)
        have hs2z := hF2.1.trans hsz
        have hCI2 := hC.wr hw2 hF2x hs2z
        have h2x := hCI2.1
        have hgl := ghW_len (K := pgK A.pgs P) (st := st) (H := pgH A.pgs P)
        refine z_iload 106 rfl rfl rfl ?_
        refine z_aload 107 rfl rfl rfl ?_
        refine z_get 110 rfl rfl (by first | exact hCI.1 | exact hrow.1 | exact w3 | exact hWr.1 | exact h2x | exact hw2.1 | exact hw2.2.1.1 | fail "lk") rfl ?_
        refine z_get 113 rfl rfl (by first | exact hCI.1 | exact hrow.1 | exact w3 | exact hWr.1 | exact h2x | exact hw2.1 | exact hw2.2.1.1 | fail "lk") rfl ?_
        refine z_get 116 rfl rfl (by first | exact hCI.1 | exact hrow.1 | exact w3 | exact hWr.1 | exact h2x | exact hw2.1 | exact hw2.2.1.1 | fail "lk") rfl ?_
        refine z_bop 117 _ rfl rfl (by first | with_reducible exact zb_0 _ _ | exact zd_0 _ _) ?_
        refine z_ireti rfl (Nat.le_refl _) (Nat.le_refl _) ?_
        rw [wrA_e (by omega) (by omega)] at hX
        have h9 := q0 _ hX (by rw [List.length_append]; omega) h2 hCI2 hF2x hs2z
        rw [List.length_append] at h9
        exact h9
      · refine z_aload 28 rfl rfl rfl ?_
        refine z_get 31 rfl rfl (by first | exact hCI.1 | exact hrow.1 | exact w3 | exact hWr.1 | exact h2x | exact hw2.1 | exact hw2.2.1.1 | fail "lk") rfl ?_
        refine z_iload 33 rfl rfl rfl ?_
        refine z_cv1 36 rfl rfl (by first | exact hCI.1 | exact hrow.1 | exact w3 | exact hWr.1 | exact h2x | exact hw2.1 | exact hw2.2.1.1 | fail "lk") rfl (Nat.le_refl _) (Nat.le_refl _) ?_
        refine w_pointAt hrow (by omega) hub (by omega) ?_
        rcases unA_c (a := a) hub with ⟨hu0, hu2⟩ | ⟨hu1, hu2⟩ | ⟨hu1, hu2, hu3, hu4⟩
        · rw [show uP A.uns a = -1 from if_pos hu0]
          refine z_istore 38 rfl rfl rfl rfl ?_
          refine z_aload 39 rfl rfl rfl ?_
          refine z_get 42 rfl rfl (by first | exact hCI.1 | exact hrow.1 | exact w3 | exact hWr.1 | exact h2x | exact hw2.1 | exact hw2.2.1.1 | fail "lk") rfl ?_
          refine z_iload 44 rfl rfl rfl ?_
          refine z_aload 45 rfl rfl rfl ?_
          refine z_get 48 rfl rfl (by first | exact hCI.1 | exact hrow.1 | exact w3 | exact hWr.1 | exact h2x | exact hw2.1 | exact hw2.2.1.1 | fail "lk") rfl ?_
          refine z_get 51 rfl rfl (by first | exact hCI.1 | exact hrow.1 | exact w3 | exact hWr.1 | exact h2x | exact hw2.1 | exact hw2.2.1.1 | fail "lk") rfl ?_
          refine z_iload 53 rfl rfl rfl ?_
          refine z_ald 54 rfl rfl (by first | exact hCI.1 | exact hrow.1 | exact w3 | exact hWr.1 | exact h2x | exact hw2.1 | exact hw2.2.1.1 | fail "lk") rfl (by omega) (by omega) ?_
          rw [w4 a (by omega)]
          refine z_cv2 57 rfl rfl (by first | exact hCI.1 | exact hrow.1 | exact w3 | exact hWr.1 | exact h2x | exact hw2.1 | exact hw2.2.1.1 | fail "lk") rfl (Nat.le_refl _) (Nat.le_refl _) ?_
          refine c_writeL hWr hru2 hPC hW hG hs hK0 hFW hFd hFN hs2 (by decide) (by omega) (by omega) (hub a) (fun hn h2 u2 hw2 hF2 => ?_) (fun y hy h2 u2 hw2 hF2 => ?_)
          · have hn1 : wr1 A.fbs (pgK A.pgs P) (pgE A.pgs P) (pgH A.pgs P) 0 A.sgn.2 A.uns a st = none := by
              rw [wr1]
              first | (rw [if_pos hu0, hu2]; exact hn) | (rw [if_neg hu0]; exact hn)
            have hF2x : ∀ x, (x < 43 ∨ 48 ≤ x) → h2.2 x = h0.2 x := fun x x1 => (hF2.2 x (by omega)).trans (hFx x x1)
            have hs2z := hF2.1.trans hsz
            have hCI2 := hC.wr hw2 hF2x hs2z
            have h2x := hCI2.1
            refine z_zne 60 rfl rfl (by omega) (fun h9 => absurd h9 (by omega)) (fun _ => ?_)
            refine z_aload 61 rfl rfl rfl ?_
            refine z_iload 63 rfl rfl rfl ?_
            refine z_put 66 rfl rfl (by first | exact hCI.1 | exact hrow.1 | exact w3 | exact hWr.1 | exact h2x | exact hw2.1 | exact hw2.2.1.1 | fail "lk") rfl (mFi rfl) ?_
            refine z_ab 1 (oX A.pgs.length sp res A.res.1 wrk a A.fnd) h2 (mg_eq _ _ _) (fun x hx => by simp only [mSet, if_neg hx]) rfl (fun h4 hc4 kh4 zh4 => ?_)
            refine z_push 68 (-10) rfl rfl rfl ?_
            refine z_ireti rfl (Nat.le_refl _) (Nat.le_refl _) ?_
            rw [wrA_n (by omega) hn1] at hX
            exact q1 a hX h4 (hCI2.plc hc4 kh4 zh4) (fun x x1 x2 => (kh4 x x1).trans (hF2x x x2)) (zh4.trans hs2z)
          · have hy1 : wr1 A.fbs (pgK A.pgs P) (pgE A.pgs P) (pgH A.pgs P) 0 A.sgn.2 A.uns a st = some y := by
              rw [wr1]
              first | (rw [if_pos hu0, hu2]; exact hy) | (rw [if_neg hu0]; exact hy)
            have hyl := wr1_len0 hW hs2 hub (by decide) hy1
            have hF2x : ∀ x, (x < 43 ∨ 48 ≤ x) → h2.2 x = h0.2 x := fun x x1 => (hF2.2 x (by omega)).trans (hFx x x1)
            have hs2z := hF2.1.trans hsz
            have hCI2 := hC.wr hw2 hF2x hs2z
            have h2x := hCI2.1
            refine z_zne 60 rfl rfl (by omega) (fun _ => ?_) (fun h9 => absurd h9 (by omega))
            refine z_iload 70 rfl rfl rfl ?_
            refine z_aload 71 rfl rfl rfl ?_
            refine z_get 74 rfl rfl (by first | exact hCI.1 | exact hrow.1 | exact w3 | exact hWr.1 | exact h2x | exact hw2.1 | exact hw2.2.1.1 | fail "lk") rfl ?_
            refine z_get 77 rfl rfl (by first | exact hCI.1 | exact hrow.1 | exact w3 | exact hWr.1 | exact h2x | exact hw2.1 | exact hw2.2.1.1 | fail "lk") rfl ?_
            refine z_get 80 rfl rfl (by first | exact hCI.1 | exact hrow.1 | exact w3 | exact hWr.1 | exact h2x | exact hw2.1 | exact hw2.2.1.1 | fail "lk") rfl ?_
            refine z_bop 81 _ rfl rfl (by first | with_reducible exact zb_0 _ _ | exact zd_0 _ _) ?_
            refine z_istore 82 rfl rfl rfl rfl ?_
            refine z_iload 84 rfl rfl rfl ?_
            refine z_iload 86 rfl rfl rfl ?_
            refine z_cs1 89 rfl rfl rfl (Nat.le_refl _) (Nat.le_refl _) ?_
            refine c_lowHalvesOf ?_
            rw [show jLh (-1) = nI 0 from by decide]
            refine z_bop 90 _ rfl rfl (by first | with_reducible exact zb_0 _ _ | exact zd_0 _ _) ?_
            refine z_istore 92 rfl rfl rfl rfl ?_
            refine z_iinc 95 _ rfl rfl rfl rfl (by first | with_reducible exact zi_1 _ | rfl) ?_
            refine z_goto rfl ?_
            rw [wrA_g (by omega) hy1 (by omega), if_neg (by omega)] at hX
            have h9 := ih (a + 1) y.2 (l ++ y.1) y.1 u2 h2 (some (.int (-1))) (by omega) (by omega) (wr1_ok hG hs y hy1) (wr1_k0 hK0 hy1) (by rw [List.length_append]; omega) hX hw2 hF2x hs2z
            rw [List.length_append] at h9
            exact h9
        · have hu0 : ¬ (unA A.uns a).1 = 0 := by omega
          rw [show uP A.uns a = nI (unA A.uns a).2 from if_neg hu0]
          refine z_istore 38 rfl rfl rfl rfl ?_
          refine z_aload 39 rfl rfl rfl ?_
          refine z_get 42 rfl rfl (by first | exact hCI.1 | exact hrow.1 | exact w3 | exact hWr.1 | exact h2x | exact hw2.1 | exact hw2.2.1.1 | fail "lk") rfl ?_
          refine z_iload 44 rfl rfl rfl ?_
          refine z_aload 45 rfl rfl rfl ?_
          refine z_get 48 rfl rfl (by first | exact hCI.1 | exact hrow.1 | exact w3 | exact hWr.1 | exact h2x | exact hw2.1 | exact hw2.2.1.1 | fail "lk") rfl ?_
          refine z_get 51 rfl rfl (by first | exact hCI.1 | exact hrow.1 | exact w3 | exact hWr.1 | exact h2x | exact hw2.1 | exact hw2.2.1.1 | fail "lk") rfl ?_
          refine z_iload 53 rfl rfl rfl ?_
          refine z_ald 54 rfl rfl (by first | exact hCI.1 | exact hrow.1 | exact w3 | exact hWr.1 | exact h2x | exact hw2.1 | exact hw2.2.1.1 | fail "lk") rfl (by omega) (by omega) ?_
          rw [w4 a (by omega)]
          refine z_cv2 57 rfl rfl (by first | exact hCI.1 | exact hrow.1 | exact w3 | exact hWr.1 | exact h2x | exact hw2.1 | exact hw2.2.1.1 | fail "lk") rfl (Nat.le_refl _) (Nat.le_refl _) ?_
          refine c_write hWr hru2 hPC hW hG hs hK0 hFW hFd hFN hs2 (by decide) (by omega) (by omega) (by omega) (fun hn h2 u2 hw2 hF2 => ?_) (fun y hy h2 u2 hw2 hF2 => ?_)
          · have hn1 : wr1 A.fbs (pgK A.pgs P) (pgE A.pgs P) (pgH A.pgs P) 0 A.sgn.2 A.uns a st = none := by
              rw [wr1]
              first | (rw [if_pos hu0, hu2]; exact hn) | (rw [if_neg hu0]; exact hn)
            have hF2x : ∀ x, (x < 43 ∨ 48 ≤ x) → h2.2 x = h0.2 x := fun x x1 => (hF2.2 x (by omega)).trans (hFx x x1)
            have hs2z := hF2.1.trans hsz
            have hCI2 := hC.wr hw2 hF2x hs2z
            have h2x := hCI2.1
            refine z_zne 60 rfl rfl (by omega) (fun h9 => absurd h9 (by omega)) (fun _ => ?_)
            refine z_aload 61 rfl rfl rfl ?_
            refine z_iload 63 rfl rfl rfl ?_
            refine z_put 66 rfl rfl (by first | exact hCI.1 | exact hrow.1 | exact w3 | exact hWr.1 | exact h2x | exact hw2.1 | exact hw2.2.1.1 | fail "lk") rfl (mFi rfl) ?_
            refine z_ab 1 (oX A.pgs.length sp res A.res.1 wrk a A.fnd) h2 (mg_eq _ _ _) (fun x hx => by simp only [mSet, if_neg hx]) rfl (fun h4 hc4 kh4 zh4 => ?_)
            refine z_push 68 (-10) rfl rfl rfl ?_
            refine z_ireti rfl (Nat.le_refl _) (Nat.le_refl _) ?_
            rw [wrA_n (by omega) hn1] at hX
            exact q1 a hX h4 (hCI2.plc hc4 kh4 zh4) (fun x x1 x2 => (kh4 x x1).trans (hF2x x x2)) (zh4.trans hs2z)
          · have hy1 : wr1 A.fbs (pgK A.pgs P) (pgE A.pgs P) (pgH A.pgs P) 0 A.sgn.2 A.uns a st = some y := by
              rw [wr1]
              first | (rw [if_pos hu0, hu2]; exact hy) | (rw [if_neg hu0]; exact hy)
            have hyl := wr1_len0 hW hs2 hub (by decide) hy1
            have hF2x : ∀ x, (x < 43 ∨ 48 ≤ x) → h2.2 x = h0.2 x := fun x x1 => (hF2.2 x (by omega)).trans (hFx x x1)
            have hs2z := hF2.1.trans hsz
            have hCI2 := hC.wr hw2 hF2x hs2z
            have h2x := hCI2.1
            refine z_zne 60 rfl rfl (by omega) (fun _ => ?_) (fun h9 => absurd h9 (by omega))
            refine z_iload 70 rfl rfl rfl ?_
            refine z_aload 71 rfl rfl rfl ?_
            refine z_get 74 rfl rfl (by first | exact hCI.1 | exact hrow.1 | exact w3 | exact hWr.1 | exact h2x | exact hw2.1 | exact hw2.2.1.1 | fail "lk") rfl ?_
            refine z_get 77 rfl rfl (by first | exact hCI.1 | exact hrow.1 | exact w3 | exact hWr.1 | exact h2x | exact hw2.1 | exact hw2.2.1.1 | fail "lk") rfl ?_
            refine z_get 80 rfl rfl (by first | exact hCI.1 | exact hrow.1 | exact w3 | exact hWr.1 | exact h2x | exact hw2.1 | exact hw2.2.1.1 | fail "lk") rfl ?_
            refine z_bop 81 _ rfl rfl (by first | with_reducible exact zb_0 _ _ | exact zd_0 _ _) ?_
            refine z_istore 82 rfl rfl rfl rfl ?_
            refine z_iload 84 rfl rfl rfl ?_
            refine z_iload 86 rfl rfl rfl ?_
            refine z_cs1 89 rfl rfl rfl (Nat.le_refl _) (Nat.le_refl _) ?_
            refine c_lowHalvesOf ?_
            rw [jLh_0 hu2]
            refine z_bop 90 _ rfl rfl (by first | with_reducible exact zb_0 _ _ | exact zd_0 _ _) ?_
            refine z_istore 92 rfl rfl rfl rfl ?_
            refine z_iinc 95 _ rfl rfl rfl rfl (by first | with_reducible exact zi_1 _ | rfl) ?_
            refine z_goto rfl ?_
            rw [wrA_g (by omega) hy1 (by omega), if_neg (by omega)] at hX
            have h9 := ih (a + 1) y.2 (l ++ y.1) y.1 u2 h2 (some (.int (nI (unA A.uns a).2))) (by omega) (by omega) (wr1_ok hG hs y hy1) (wr1_k0 hK0 hy1) (by rw [List.length_append]; omega) hX hw2 hF2x hs2z
            rw [List.length_append] at h9
            exact h9
        · have hu0 : ¬ (unA A.uns a).1 = 0 := by omega
          rw [show uP A.uns a = nI (unA A.uns a).2 from if_neg hu0]
          refine z_istore 38 rfl rfl rfl rfl ?_
          refine z_aload 39 rfl rfl rfl ?_
          refine z_get 42 rfl rfl (by first | exact hCI.1 | exact hrow.1 | exact w3 | exact hWr.1 | exact h2x | exact hw2.1 | exact hw2.2.1.1 | fail "lk") rfl ?_
          refine z_iload 44 rfl rfl rfl ?_
          refine z_aload 45 rfl rfl rfl ?_
          refine z_get 48 rfl rfl (by first | exact hCI.1 | exact hrow.1 | exact w3 | exact hWr.1 | exact h2x | exact hw2.1 | exact hw2.2.1.1 | fail "lk") rfl ?_
          refine z_get 51 rfl rfl (by first | exact hCI.1 | exact hrow.1 | exact w3 | exact hWr.1 | exact h2x | exact hw2.1 | exact hw2.2.1.1 | fail "lk") rfl ?_
          refine z_iload 53 rfl rfl rfl ?_
          refine z_ald 54 rfl rfl (by first | exact hCI.1 | exact hrow.1 | exact w3 | exact hWr.1 | exact h2x | exact hw2.1 | exact hw2.2.1.1 | fail "lk") rfl (by omega) (by omega) ?_
          rw [w4 a (by omega)]
          refine z_cv2 57 rfl rfl (by first | exact hCI.1 | exact hrow.1 | exact w3 | exact hWr.1 | exact h2x | exact hw2.1 | exact hw2.2.1.1 | fail "lk") rfl (Nat.le_refl _) (Nat.le_refl _) ?_
          refine c_write hWr hru2 hPC hW hG hs hK0 hFW hFd hFN hs2 (by decide) (by omega) (by omega) (by omega) (fun hn h2 u2 hw2 hF2 => ?_) (fun y hy h2 u2 hw2 hF2 => ?_)
          · have hn1 : wr1 A.fbs (pgK A.pgs P) (pgE A.pgs P) (pgH A.pgs P) 0 A.sgn.2 A.uns a st = none := by
              rw [wr1]
              first | (rw [if_pos hu0, hu2]; exact hn) | (rw [if_neg hu0]; exact hn)
            have hF2x : ∀ x, (x < 43 ∨ 48 ≤ x) → h2.2 x = h0.2 x := fun x x1 => (hF2.2 x (by omega)).trans (hFx x x1)
            have hs2z := hF2.1.trans hsz
            have hCI2 := hC.wr hw2 hF2x hs2z
            have h2x := hCI2.1
            refine z_zne 60 rfl rfl (by omega) (fun h9 => absurd h9 (by omega)) (fun _ => ?_)
            refine z_aload 61 rfl rfl rfl ?_
            refine z_iload 63 rfl rfl rfl ?_
            refine z_put 66 rfl rfl (by first | exact hCI.1 | exact hrow.1 | exact w3 | exact hWr.1 | exact h2x | exact hw2.1 | exact hw2.2.1.1 | fail "lk") rfl (mFi rfl) ?_
            refine z_ab 1 (oX A.pgs.length sp res A.res.1 wrk a A.fnd) h2 (mg_eq _ _ _) (fun x hx => by simp only [mSet, if_neg hx]) rfl (fun h4 hc4 kh4 zh4 => ?_)
            refine z_push 68 (-10) rfl rfl rfl ?_
            refine z_ireti rfl (Nat.le_refl _) (Nat.le_refl _) ?_
            rw [wrA_n (by omega) hn1] at hX
            exact q1 a hX h4 (hCI2.plc hc4 kh4 zh4) (fun x x1 x2 => (kh4 x x1).trans (hF2x x x2)) (zh4.trans hs2z)
          · have hy1 : wr1 A.fbs (pgK A.pgs P) (pgE A.pgs P) (pgH A.pgs P) 0 A.sgn.2 A.uns a st = some y := by
              rw [wr1]
              first | (rw [if_pos hu0, hu2]; exact hy) | (rw [if_neg hu0]; exact hy)
            have hyl := wr1_len0 hW hs2 hub (by decide) hy1
            have hF2x : ∀ x, (x < 43 ∨ 48 ≤ x) → h2.2 x = h0.2 x := fun x x1 => (hF2.2 x (by omega)).trans (hFx x x1)
            have hs2z := hF2.1.trans hsz
            have hCI2 := hC.wr hw2 hF2x hs2z
            have h2x := hCI2.1
            refine z_zne 60 rfl rfl (by omega) (fun _ => ?_) (fun h9 => absurd h9 (by omega))
            refine z_iload 70 rfl rfl rfl ?_
            refine z_aload 71 rfl rfl rfl ?_
            refine z_get 74 rfl rfl (by first | exact hCI.1 | exact hrow.1 | exact w3 | exact hWr.1 | exact h2x | exact hw2.1 | exact hw2.2.1.1 | fail "lk") rfl ?_
            refine z_get 77 rfl rfl (by first | exact hCI.1 | exact hrow.1 | exact w3 | exact hWr.1 | exact h2x | exact hw2.1 | exact hw2.2.1.1 | fail "lk") rfl ?_
            refine z_get 80 rfl rfl (by first | exact hCI.1 | exact hrow.1 | exact w3 | exact hWr.1 | exact h2x | exact hw2.1 | exact hw2.2.1.1 | fail "lk") rfl ?_
            refine z_bop 81 _ rfl rfl (by first | with_reducible exact zb_0 _ _ | exact zd_0 _ _) ?_
            refine z_istore 82 rfl rfl rfl rfl ?_
            refine z_iload 84 rfl rfl rfl ?_
            refine z_iload 86 rfl rfl rfl ?_
            refine z_cs1 89 rfl rfl rfl (Nat.le_refl _) (Nat.le_refl _) ?_
            refine c_lowHalvesOf ?_
            rw [jLh_1 hu2 hu3]
            refine z_bop 90 _ rfl rfl (by first | with_reducible exact zb_0 _ _ | exact zd_0 _ _) ?_
            refine z_istore 92 rfl rfl rfl rfl ?_
            refine z_iinc 95 _ rfl rfl rfl rfl (by first | with_reducible exact zi_1 _ | rfl) ?_
            refine z_goto rfl ?_
            rw [wrA_g (by omega) hy1 (by omega), if_pos hu1] at hX
            have h9 := ih (a + 2) y.2 (l ++ y.1) y.1 u2 h2 (some (.int (nI (unA A.uns a).2))) (by omega) (by omega) (wr1_ok hG hs y hy1) (wr1_k0 hK0 hy1) (by rw [List.length_append]; omega) hX hw2 hF2x hs2z
            rw [List.length_append] at h9
            exact h9
  refine z_in [some (.ref 1), some (.ref (pad P)), some (.int (nI s0)), none, none, none] (by rfl) rfl rfl rfl ?_
  refine z_aload 1 rfl rfl rfl ?_
  refine z_get 4 rfl rfl (by first | exact c1 | exact hwr.1 | fail "lk") rfl ?_
  refine z_aload 5 rfl rfl rfl ?_
  refine z_push 6 (nI 0) rfl rfl rfl ?_
  refine z_iload 7 rfl rfl rfl ?_
  refine z_cv3 10 rfl rfl (by first | exact c1 | exact hwr.1 | fail "lk") rfl (Nat.le_refl _) (Nat.le_refl _) ?_
  refine c_Wr_open hwr (fun h1 hWr1 hF1 => ?_)
  refine z_push 11 (nI 0) rfl rfl rfl ?_
  refine z_istore 12 rfl rfl rfl rfl ?_
  refine z_push 13 (nI 0) rfl rfl rfl ?_
  refine z_istore 15 rfl rfl rfl rfl ?_
  exact loop (A.uns.length + 1) 0 s0 [] [] u5 h1 none (by omega) (by omega) hs0 hk0 (Nat.zero_le _) rfl hWr1 (fun x x1 => hF1.2 x (by omega)) hF1.1
theorem lnU_mn {b n : Nat} : lnU 0 (some b) n = some (min b n) := by
  show (if (0 = 0 ∧ n < b) ∨ (0 ≠ 0 ∧ b < n) then some n else some b) = _
  by_cases h : n < b
  · rw [if_pos (Or.inl ⟨rfl, h⟩), Nat.min_eq_right (by omega)]
  · rw [if_neg (fun h9 => by rcases h9 with ⟨_, h9⟩ | ⟨h9, _⟩; exact h h9; exact h9 rfl), Nat.min_eq_left (by omega)]
theorem lnU_mx {w b n : Nat} (hw : w ≠ 0) : lnU w (some b) n = some (max b n) := by
  show (if (w = 0 ∧ n < b) ∨ (w ≠ 0 ∧ b < n) then some n else some b) = _
  by_cases h : b < n
  · rw [if_pos (Or.inr ⟨hw, h⟩), Nat.max_eq_right (by omega)]
  · rw [if_neg (fun h9 => by rcases h9 with ⟨h9, _⟩ | ⟨_, h9⟩; exact hw h9; exact h h9), Nat.max_eq_left (by omega)]
theorem lnOn_t {A : Ab} {P s : Nat} (h : lnOn A P s = true) : (rchd (pgH A.pgs P)).testBit s = true ∧ (s ≠ 0 → ¬ pgK A.pgs P ≠ 0) := by
  unfold lnOn at h
  rw [Bool.and_eq_true, Bool.or_eq_true, decide_eq_true_eq, decide_eq_true_eq] at h
  exact ⟨h.1, fun h1 h2 => by rcases h.2 with h3 | h3; exact h2 h3; exact h1 h3⟩
set_option maxRecDepth 100000 in
theorem c_lengths {d : Nat} {h0 : mH} {A : Ab} {pad : Nat → Nat} {sp : Option Nat} {res wrk : Nat} {p w : Int32} {Q : mP} (hC : CI h0 A pad sp res wrk) (hA : AbW A) (hFN : ∀ x, fbN A.fbs 40 x ≤ 16)  (q : ∀ h', CInv h' (sp_lengths A p w).2 → KpX h0 h' → Q (some (.int (sp_lengths A p w).1)) h') : mWP (d + 9) 135 [.ref 1, .int p, .int w] h0 Q := by
  obtain ⟨c1, cr, cp, cb, cu, cq, cs, ck, cru, cm⟩ := id hC
  obtain ⟨cp0, ⟨pf, cp1, cp2⟩, cp3, cp4, cp5⟩ := id cp
  obtain ⟨hPB, hKb, hGd, hbb, hub, hsg1, hsg2, hFW, hFd⟩ := id hA
  refine z_in [some (.ref 1), some (.int p), some (.int w), none, none, none, none] (by rfl) rfl rfl rfl ?_
  refine z_aload 1 rfl rfl rfl ?_
  refine z_iload 2 rfl rfl rfl ?_
  refine z_cv1 5 rfl rfl (by first | exact c1 | exact cp1 | exact hC2.1 | fail "lk") rfl (Nat.le_refl _) (Nat.le_refl _) ?_
  refine c_closedFinding hC ?_
  refine z_istore 6 rfl rfl rfl rfl ?_
  refine z_iload 7 rfl rfl rfl ?_
  first | refine z_ine 10 rfl rfl (fun hc7 => ?_) (fun hc7 => ?_)
  · refine z_iload 22 rfl rfl rfl ?_
    refine z_ieq 25 rfl rfl (fun h9 => absurd h9 hc7) (fun _ => ?_)
    refine z_aload 26 rfl rfl rfl ?_
    refine z_iload 27 rfl rfl rfl ?_
    refine z_cv1 30 rfl rfl (by first | exact c1 | exact cp1 | exact hC2.1 | fail "lk") rfl (Nat.le_refl _) (Nat.le_refl _) ?_
    refine c_ansN hC (cfI_n hc7) (fun h1 hC1 hX1 => ?_)
    refine z_ireti rfl (Nat.le_refl _) (Nat.le_refl _) ?_
    have e9 : sp_lengths A p w = (cfI A.pgs p, A.tell) := cf_sp hc7
    rw [e9] at q
    exact q h1 hC1.inv hX1
  · refine z_iload 11 rfl rfl rfl ?_
    first | refine z_jlt 14 rfl rfl (fun hc11 => ?_) (fun hc11 => ?_)
    · refine z_push 20 (-1) rfl rfl rfl ?_
      refine z_istore 21 rfl rfl rfl rfl ?_
      refine z_iload 22 rfl rfl rfl ?_
      refine z_jeq 25 rfl rfl (fun h9 => absurd h9 (by decide)) (fun _ => ?_)
      refine z_aload 26 rfl rfl rfl ?_
      refine z_iload 27 rfl rfl rfl ?_
      refine z_cv1 30 rfl rfl (by first | exact c1 | exact cp1 | exact hC2.1 | fail "lk") rfl (Nat.le_refl _) (Nat.le_refl _) ?_
      refine c_ansN hC (by decide) (fun h1 hC1 hX1 => ?_)
      refine z_ireti rfl (Nat.le_refl _) (Nat.le_refl _) ?_
      obtain ⟨hr, hcl⟩ := cf_0 hc7
      obtain ⟨P, hP, rfl, hp1, hp2⟩ := ixP cp0 (inR_t hr)
      rw [hp2] at hcl
      have e9 : sp_lengths A (nI P) w = (-1, A.tell) := by
        rw [sp_lengths, if_pos hr, hp2, if_pos hcl, if_neg (by omega)]
      rw [e9] at q
      exact q h1 hC1.inv hX1
    · refine z_iload 15 rfl rfl rfl ?_
      refine z_push 16 (nI 1) rfl rfl rfl ?_
      refine z_kle 19 rfl rfl (by omega) (fun hc16 => ?_) (fun hc16 => ?_)
      · refine z_iload 22 rfl rfl rfl ?_
        refine z_ieq 25 rfl rfl (fun _ => ?_) (fun h9 => absurd hc7 h9)
        obtain ⟨hr, hcl⟩ := cf_0 hc7
        obtain ⟨P, hP, rfl, hp1, hp2⟩ := ixP cp0 (inR_t hr)
        rw [hp2] at hcl
        obtain ⟨W, hW9, rfl, hw1, hw2⟩ := ix_of (x := w) (n := 2) (by omega)
        have hw8 : 0 ≤ (nI W).toInt ∧ (nI W).toInt ≤ 1 := by omega
        refine z_aload 32 rfl rfl rfl ?_
        refine z_aload 33 rfl rfl rfl ?_
        refine z_get 36 rfl rfl (by first | exact c1 | exact cp1 | exact hC2.1 | fail "lk") rfl ?_
        refine z_iload 37 rfl rfl rfl ?_
        refine z_qld 38 rfl rfl (by first | exact c1 | exact cp1 | exact hC2.1 | fail "lk") (by decide) rfl (by omega) (by omega) (cp2 P hP) ?_
        refine z_push 39 (nI 0) rfl rfl rfl ?_
        refine z_cv2 42 rfl rfl (by first | exact c1 | exact cp1 | exact hC2.1 | fail "lk") rfl (Nat.le_refl _) (Nat.le_refl _) ?_
        have hW := hPB P hP
        have hgg : ∀ k, k < (pgH A.pgs P).length → shG (pgH A.pgs P) k < 4 := fun k hk => (hW.2.2.2 k hk).2.2.1
        have loop : (wrPg A P 0 A.uns 1000000 0).1 = 0 → ∀ m9 s b h o6, 4 < s + m9 → 1 ≤ s → s ≤ 4 → b ≤ 10010 → lnF A P W 4 0 none = lnF A P W (4 - s) s (some b) → CI h A pad sp res wrk → (∀ x, (x < 43 ∨ 48 ≤ x) → h.2 x = h0.2 x) → h.1 = h0.1 → mZ (d + 8) tk_135 0 0 Q 47 [some (.ref 1), some (.int (nI P)), some (.int (nI W)), some (.int (cfI A.pgs (nI P))), some (.int (nI b)), some (.int (nI s)), o6] [] h 0 0 := by
          intro hX0 m9
          induction m9 with
          | zero => intro s b h o6 h1 h2 h3; omega
          | succ m9 ih =>
            intro s b h o6 h1 h2 h3 hb hD hC hFx hsz
            obtain ⟨c1, cr, cp, cb, cu, cq, cs, ck, cru, cm⟩ := id hC
            obtain ⟨cp0, ⟨pf, cp1, cp2⟩, cp3, cp4, cp5⟩ := id cp
            have hPC : PgC h (pad P) (pgK A.pgs P) (pgE A.pgs P) (pgH A.pgs P) := PgR.cl (by rw [← hcl]; exact (cp3 P hP).2.2)
            obtain ⟨m8, rc8, hpg, hrc, htb⟩ := hPC.rc hgg
            refine z_iload 49 rfl rfl rfl ?_
            refine z_zlt 52 rfl rfl (by omega) (fun h9 => absurd h9 (by omega)) (fun _ => ?_)
            refine z_iload 54 rfl rfl rfl ?_
            refine z_push 55 (nI 4) rfl rfl rfl ?_
            refine z_nge 58 rfl rfl (by omega) (by omega) (fun hc55 => ?_) (fun hc55 => ?_)
            · refine z_aload 116 rfl rfl rfl ?_
              refine z_iload 118 rfl rfl rfl ?_
              refine z_cv1 121 rfl rfl (by first | exact c1 | exact cp1 | exact hpg | exact hC2.1 | fail "lk") rfl (Nat.le_refl _) (Nat.le_refl _) ?_
              refine c_ansP hC (by rw [nI_toInt (by omega)]; omega) ?_
              refine z_ireti rfl (Nat.le_refl _) (Nat.le_refl _) ?_
              obtain rfl : s = 4 := by omega
              rw [show 4 - 4 = 0 from rfl, lnF] at hD
              have e9 : sp_lengths A (nI P) (nI W) = (nI b, A) := by
                rw [sp_lengths, if_pos hr, hp2, if_pos hcl, if_pos hw8, hw2, hD]
                rfl
              rw [e9] at q
              exact q h hC.inv ⟨fun x hx => hFx x (by omega), by rw [hsz]; exact Nat.le_refl _⟩
            · refine z_aload 59 rfl rfl rfl ?_
              refine z_get 62 rfl rfl (by first | exact c1 | exact cp1 | exact hpg | exact hC2.1 | fail "lk") rfl ?_
              refine z_iload 63 rfl rfl rfl ?_
              refine z_qld 64 rfl rfl (by first | exact c1 | exact cp1 | exact hpg | exact hC2.1 | fail "lk") (by decide) rfl (by omega) (by omega) (cp2 P hP) ?_
              refine z_iload 66 rfl rfl rfl ?_
              refine z_cv1 69 rfl rfl (by first | exact c1 | exact cp1 | exact hpg | exact hC2.1 | fail "lk") rfl (Nat.le_refl _) (Nat.le_refl _) ?_
              refine c_isReached hpg hrc (by omega) ?_
              rw [htb s (by omega), show ((rchd (pgH A.pgs P)).testBit s && (decide (pgK A.pgs P = 0) || decide (s = 0))) = lnOn A P s from rfl]
              rw [lnF_s (by omega)] at hD
              first | refine z_beq 72 rfl rfl (fun hc69 => ?_) (fun hc69 => ?_)
              · refine z_iinc 112 _ rfl rfl rfl rfl (by first | with_reducible exact zi_1 _ | rfl) ?_
                refine z_goto rfl ?_
                refine ih (s + 1) b h _ (by omega) (by omega) (by omega) hb ?_ hC hFx hsz
                rw [hD, if_neg (by rw [hc69]; decide)]
              · refine z_aload 73 rfl rfl rfl ?_
                refine z_aload 74 rfl rfl rfl ?_
                refine z_get 77 rfl rfl (by first | exact c1 | exact cp1 | exact hpg | exact hC2.1 | fail "lk") rfl ?_
                refine z_iload 78 rfl rfl rfl ?_
                refine z_qld 79 rfl rfl (by first | exact c1 | exact cp1 | exact hpg | exact hC2.1 | fail "lk") (by decide) rfl (by omega) (by omega) (cp2 P hP) ?_
                refine z_iload 81 rfl rfl rfl ?_
                refine z_cv2 84 rfl rfl (by first | exact c1 | exact cp1 | exact hpg | exact hC2.1 | fail "lk") rfl (Nat.le_refl _) (Nat.le_refl _) ?_
                refine c_writtenLength hC hA hFN hP hcl ⟨by omega, fun _ => ⟨by omega, (lnOn_t hc69).1⟩⟩ (fun h9 => absurd h9 ((lnOn_t hc69).2 (by omega))) (fun bs hX hbl h2 hC2 hF2 hs2 => ?_) (fun a hX => absurd (show (wrPg A P 0 A.uns 1000000 s).1 = 1 by rw [hX]) (wrA_ind _ _ _ _ _ _ hX0))
                rw [if_pos hc69, if_pos (by rw [hX]), hX] at hD
                refine z_istore 86 rfl rfl rfl rfl ?_
                refine z_iload 87 rfl rfl rfl ?_
                first | refine z_zne 90 rfl rfl (by omega) (fun hc87 => ?_) (fun hc87 => ?_)
                · refine z_iload 102 rfl rfl rfl ?_
                  refine z_iload 104 rfl rfl rfl ?_
                  refine z_max 107 _ rfl rfl rfl (Nat.le_refl _) (Nat.le_refl _) (zmaxN (by omega) (by omega)) ?_
                  refine z_istore 109 rfl rfl rfl rfl ?_
                  refine z_iinc 112 _ rfl rfl rfl rfl (by first | with_reducible exact zi_1 _ | rfl) ?_
                  refine z_goto rfl ?_
                  refine ih (s + 1) (max b bs.length) h2 _ (by omega) (by omega) (by omega) (by omega) ?_ hC2 (fun x x1 => (hF2 x x1).trans (hFx x x1)) (hs2.trans hsz)
                  rw [hD, lnU_mx hc87]
                · refine z_iload 92 rfl rfl rfl ?_
                  refine z_iload 94 rfl rfl rfl ?_
                  refine z_min 97 _ rfl rfl rfl (Nat.le_refl _) (Nat.le_refl _) (zminN (by omega) (by omega)) ?_
                  refine z_goto rfl ?_
                  refine z_istore 109 rfl rfl rfl rfl ?_
                  refine z_iinc 112 _ rfl rfl rfl rfl (by first | with_reducible exact zi_1 _ | rfl) ?_
                  refine z_goto rfl ?_
                  refine ih (s + 1) (min b bs.length) h2 _ (by omega) (by omega) (by omega) (by omega) ?_ hC2 (fun x x1 => (hF2 x x1).trans (hFx x x1)) (hs2.trans hsz)
                  rw [hD, hc87, lnU_mn]
        have hln0 : lnOn A P 0 = true := by unfold lnOn; rw [(Rs0 (pgH A.pgs P)).2]; simp
        refine c_writtenLength hC hA hFN hP hcl (SOk0 _ _) (fun _ => rfl) (fun bs hX hbl h2 hC2 hF2 hs2 => ?_) (fun a hX h2 hC2 hF2 hs2 => ?_)
        · skip
          refine z_istore 44 rfl rfl rfl rfl ?_
          refine z_push 45 (nI 1) rfl rfl rfl ?_
          refine z_istore 47 rfl rfl rfl rfl ?_
          refine loop (by rw [hX]) 4 1 bs.length h2 none (by omega) (by omega) (by omega) hbl ?_ hC2 hF2 hs2
          rw [show lnF A P W 4 0 none = _ from lnF_s (s := 0) (by decide), if_pos hln0, if_pos (by rw [hX]), hX]
          rfl
        · skip
          refine z_istore 44 rfl rfl rfl rfl ?_
          refine z_push 45 (nI 1) rfl rfl rfl ?_
          refine z_istore 47 rfl rfl rfl rfl ?_
          refine z_iload 49 rfl rfl rfl ?_
          refine z_jlt 52 rfl rfl (fun _ => ?_) (fun h9 => absurd h9 (by decide))
          refine z_aload 116 rfl rfl rfl ?_
          refine z_iload 118 rfl rfl rfl ?_
          refine z_cv1 121 rfl rfl (by first | exact c1 | exact cp1 | exact hC2.1 | fail "lk") rfl (Nat.le_refl _) (Nat.le_refl _) ?_
          refine c_ansN hC2 (by decide) (fun h1 hC1 hX1 => ?_)
          refine z_ireti rfl (Nat.le_refl _) (Nat.le_refl _) ?_
          have e9 : sp_lengths A (nI P) (nI W) = (-10, (A.wPlc a).tell) := by
            rw [sp_lengths, if_pos hr, hp2, if_pos hcl, if_pos hw8, hw2, show lnF A P W 4 0 none = _ from lnF_s (s := 0) (by decide), if_pos hln0, hX]
            rfl
          rw [e9] at q
          exact q h1 hC1.inv (KpX.trans (h1 := h2) ⟨fun x hx => hF2 x (by omega) (by omega), by rw [hs2]; exact Nat.le_refl _⟩ hX1)
      · refine z_push 20 (-1) rfl rfl rfl ?_
        refine z_istore 21 rfl rfl rfl rfl ?_
        refine z_iload 22 rfl rfl rfl ?_
        refine z_jeq 25 rfl rfl (fun h9 => absurd h9 (by decide)) (fun _ => ?_)
        refine z_aload 26 rfl rfl rfl ?_
        refine z_iload 27 rfl rfl rfl ?_
        refine z_cv1 30 rfl rfl (by first | exact c1 | exact cp1 | exact hC2.1 | fail "lk") rfl (Nat.le_refl _) (Nat.le_refl _) ?_
        refine c_ansN hC (by decide) (fun h1 hC1 hX1 => ?_)
        refine z_ireti rfl (Nat.le_refl _) (Nat.le_refl _) ?_
        obtain ⟨hr, hcl⟩ := cf_0 hc7
        obtain ⟨P, hP, rfl, hp1, hp2⟩ := ixP cp0 (inR_t hr)
        rw [hp2] at hcl
        have e9 : sp_lengths A (nI P) w = (-1, A.tell) := by
          rw [sp_lengths, if_pos hr, hp2, if_pos hcl, if_neg (by omega)]
        rw [e9] at q
        exact q h1 hC1.inv hX1
