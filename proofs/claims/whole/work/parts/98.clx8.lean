/-! the class: reading the bytes -/
set_option maxRecDepth 100000 in
theorem c_readAll {d : Nat} {h0 : mH} {A : Ab} {pad : Nat → Nat} {sp : Option Nat} {res wrk : Nat} {P rule o n : Nat} {l0 : List Nat} {Q : mP} (hC : CI h0 A pad sp res wrk) (hA : AbW A) (hP : P < A.pgs.length) (hcl : pgC A.pgs P = true) (hru : rule < 4) (ho : (o = wrk ∧ n = 6000) ∨ (o = 11 ∧ n = 2000)) (hw0 : RwAt h0 o n l0)  (q0 : ∀ us fl, (rdPg A P rule) = (none, us, fl) → ∀ h', CI h' A pad sp res wrk → RwAt h' o n us → (∃ st pn, RdAt h' 41 16 (pad P) rule st pn fl) → (∀ x, (x < 41 ∨ 43 ≤ x) → (x < o ∨ o + 2 ≤ x) → h'.2 x = h0.2 x) → h'.1 = h0.1 → Q (some (.int (nI us.length))) h') (q1 : ∀ a us fl, (rdPg A P rule) = (some a, us, fl) → ∀ h', CI h' (A.wPlc a) pad sp res wrk → (∀ x, x ≠ 1 → (x < 41 ∨ 43 ≤ x) → (x < o ∨ o + 2 ≤ x) → h'.2 x = h0.2 x) → h'.1 = h0.1 → Q (some (.int (-9))) h') : mWP (d + 6) 162 [.ref 1, .ref (pad P), .int (nI rule), .ref o] h0 Q := by
  obtain ⟨c1, cr, cp, cb, cu, cq, cs, ck, cru, cm⟩ := id hC
  obtain ⟨cp0, ⟨pf, cp1, cp2⟩, cp3, cp4, cp5⟩ := id cp
  obtain ⟨hPB, hKb, hGd, hbb, hub, hsg1, hsg2, hFW, hFd⟩ := id hA
  have hW := hPB P hP
  have hs1 := nPt_lt hsg1
  obtain ⟨hpad, hpad2, hPR⟩ := cp3 P hP
  have hPC0 : PgC h0 (pad P) (pgK A.pgs P) (pgE A.pgs P) (pgH A.pgs P) := PgR.cl (by rw [← hcl]; exact hPR)
  have hbl := cb.2.1
  obtain ⟨p1, ru1, st1, pn1, mal1, hrd⟩ := cs.2.2.1
  have loop : ∀ m9 a st pn us fl h o5, A.bys.length < a + m9 → a ≤ A.bys.length → us.length ≤ 2 * a → st < 4 → pn ≤ 4 → (rdPg A P rule) = rdA (pgK A.pgs P) (pgE A.pgs P) (pgH A.pgs P) rule A.sgn.1 m9 a st pn (A.bys.drop a) us fl → RdAt h 41 16 (pad P) rule st pn fl → RwAt h o n us → (∀ x, (x < 41 ∨ 43 ≤ x) → (x < o ∨ o + 2 ≤ x) → h.2 x = h0.2 x) → h.1 = h0.1 → mZ (d + 5) tk_162 0 0 Q 16 [some (.ref 1), some (.ref (pad P)), some (.int (nI rule)), some (.ref o), some (.int (nI a)), o5] [] h 0 0 := by
    intro m9
    induction m9 with
    | zero => intro a st pn us fl h o5 h1 h2; omega
    | succ m9 ih =>
      intro a st pn us fl h o5 h1 h2 hul hst4 hpn4 hX hr hw hFx hsz
      have hk1 := (hFx 1 (by omega) (by omega)).trans c1
      have hwb : RwAt h 3 1000 A.bys := cb.e (fun x x1 x2 => hFx x (by omega) (by omega))
      obtain ⟨w1, w2, f, hw3, hw4⟩ := id hwb
      have hru16 : h.2 16 = oRu 16 A.sgn.1 A.sgn.2 A.fbs.length := (hFx 16 (by omega) (by omega)).trans cru.1
      have hPC : PgC h (pad P) (pgK A.pgs P) (pgE A.pgs P) (pgH A.pgs P) := hPC0.e (fun x x1 x2 => hFx x (by omega) (by omega))
      have hCI : CI h A pad sp res wrk := by
        obtain ⟨⟨lw, s1⟩, ⟨lb, s2⟩, _, ⟨_, _, _, _, _, s4⟩, _, s5⟩ := cs
        refine hC.sc ?_ (fun x x1 x2 x3 x4 => hFx x (by omega) (by omega)) hsz
        rcases ho with ⟨e1, e2⟩ | ⟨e1, e2⟩
        · subst e1 e2
          exact ⟨⟨us, hw⟩, ⟨lb, s2.e (fun x x1 x2 => hFx x (by omega) (by omega))⟩, ⟨_, _, _, _, _, hr⟩, ⟨_, _, _, _, _, s4.e (fun x x1 x2 => hFx x (by omega) (by omega))⟩, _, (hFx _ (by omega) (by omega)).trans s5⟩
        · subst e1 e2
          exact ⟨⟨lw, s1.e (fun x x1 x2 => hFx x (by omega) (by omega))⟩, ⟨us, hw⟩, ⟨_, _, _, _, _, hr⟩, ⟨_, _, _, _, _, s4.e (fun x x1 x2 => hFx x (by omega) (by omega))⟩, _, (hFx _ (by omega) (by omega)).trans s5⟩
      refine z_iload 18 rfl rfl rfl ?_
      refine z_aload 19 rfl rfl rfl ?_
      refine z_get 22 rfl rfl (by first | exact hk1 | exact hwb.1 | exact hr.1 | exact hw.1 | exact (hF2x 1 (by omega) (by omega)).trans hk1 | fail "lk") rfl ?_
      refine z_get 25 rfl rfl (by first | exact hk1 | exact hwb.1 | exact hr.1 | exact hw.1 | exact (hF2x 1 (by omega) (by omega)).trans hk1 | fail "lk") rfl ?_
      refine z_nge 28 rfl rfl (by omega) (by omega) (fun hc25 => ?_) (fun hc25 => ?_)
      · refine z_aload 81 rfl rfl rfl ?_
        refine z_get 84 rfl rfl (by first | exact hk1 | exact hwb.1 | exact hr.1 | exact hw.1 | exact (hF2x 1 (by omega) (by omega)).trans hk1 | fail "lk") rfl ?_
        refine z_ireti rfl (Nat.le_refl _) (Nat.le_refl _) ?_
        have hX2 : (rdPg A P rule) = (none, us, fl) := by rw [hX, rdA, if_pos (by rw [List.length_drop]; omega)]
        exact q0 us fl hX2 h hCI hw ⟨st, pn, hr⟩ hFx hsz
      · refine z_aload 29 rfl rfl rfl ?_
        refine z_get 32 rfl rfl (by first | exact hk1 | exact hwb.1 | exact hr.1 | exact hw.1 | exact (hF2x 1 (by omega) (by omega)).trans hk1 | fail "lk") rfl ?_
        refine z_aload 33 rfl rfl rfl ?_
        refine z_get 36 rfl rfl (by first | exact hk1 | exact hwb.1 | exact hr.1 | exact hw.1 | exact (hF2x 1 (by omega) (by omega)).trans hk1 | fail "lk") rfl ?_
        refine z_get 39 rfl rfl (by first | exact hk1 | exact hwb.1 | exact hr.1 | exact hw.1 | exact (hF2x 1 (by omega) (by omega)).trans hk1 | fail "lk") rfl ?_
        refine z_iload 41 rfl rfl rfl ?_
        refine z_aload 42 rfl rfl rfl ?_
        refine z_get 45 rfl rfl (by first | exact hk1 | exact hwb.1 | exact hr.1 | exact hw.1 | exact (hF2x 1 (by omega) (by omega)).trans hk1 | fail "lk") rfl ?_
        refine z_get 48 rfl rfl (by first | exact hk1 | exact hwb.1 | exact hr.1 | exact hw.1 | exact (hF2x 1 (by omega) (by omega)).trans hk1 | fail "lk") rfl ?_
        refine z_push 49 (nI 1) rfl rfl rfl ?_
        refine z_aload 50 rfl rfl rfl ?_
        refine z_cv5 53 rfl rfl (by first | exact hk1 | exact hwb.1 | exact hr.1 | exact hw.1 | exact (hF2x 1 (by omega) (by omega)).trans hk1 | fail "lk") rfl (Nat.le_refl _) (Nat.le_refl _) ?_
        have hbd : ∀ j, (A.bys.drop a).getD j 0 < 256 := fun j => by rw [getD_drop9]; exact hbb _
        have hdl : (A.bys.drop a).length = A.bys.length - a := List.length_drop
        have hrb := rd1_b (rule := rule) (sg := A.sgn.1) (last := true) (K := pgK A.pgs P) (st := st) (pn := pn) hW hbd (show 1 ≤ (A.bys.drop a).length by omega) hst4 hpn4
        rw [rdA, if_neg (show ¬ (A.bys.drop a).length = 0 by omega)] at hX
        rw [show nI A.bys.length = nI (a + (A.bys.drop a).length) by rw [hdl]; congr 1; omega]
        refine c_step (a := a) (bs := A.bys.drop a) (last := true) hr hru16 hw hPC hW hw3 (by decide) (by omega) (by omega) (fun j hj => by rw [getD_drop9]; exact hw4 _ (by omega)) hbd hst4 hpn4 hru hs1 (by omega) (by omega) (by omega) (by omega) (by omega) (by omega) (fun h2 hr2 hw2 hF2 => ?_)
        have hF2x : ∀ x, (x < 41 ∨ 43 ≤ x) → (x < o ∨ o + 2 ≤ x) → h2.2 x = h.2 x := fun x x1 x2 => hF2.2 x ⟨x1, x2, trivial⟩
        by_cases h3 : (rd1 (pgK A.pgs P) (pgE A.pgs P) (pgH A.pgs P) rule A.sgn.1 true st pn (A.bys.drop a)).1 = 0
        · rw [rI, if_pos ⟨h3, (hrb.2.2.2.2.2.2 h3 rfl).2⟩]
          refine z_istore 55 rfl rfl rfl rfl ?_
          refine z_iload 57 rfl rfl rfl ?_
          refine z_push 58 (nI 1) rfl rfl rfl ?_
          refine z_tge 61 rfl rfl (fun h9 => absurd h9 (by decide)) (fun _ => ?_)
          refine z_aload 62 rfl rfl rfl ?_
          refine z_iload 64 rfl rfl rfl ?_
          refine z_put 67 rfl rfl (by first | exact hk1 | exact hwb.1 | exact hr.1 | exact hw.1 | exact (hF2x 1 (by omega) (by omega)).trans hk1 | fail "lk") rfl (mFi rfl) ?_
          refine z_ab 1 (oX A.pgs.length sp res A.res.1 wrk a A.fnd) h2 (mg_eq _ _ _) (fun x hx => by simp only [mSet, if_neg hx]) rfl (fun h3' hc3 kh3' zh3' => ?_)
          refine z_push 69 (-9) rfl rfl rfl ?_
          refine z_ireti rfl (Nat.le_refl _) (Nat.le_refl _) ?_
          have hX2 : (rdPg A P rule) = (some a, us, fl + 1) := by rw [hX, if_pos h3]
          have hus : (rd1 (pgK A.pgs P) (pgE A.pgs P) (pgH A.pgs P) rule A.sgn.1 true st pn (A.bys.drop a)).2.2.2.1 = [] := hrb.2.2.2.2.2.1 h3
          rw [hus, List.append_nil] at hw2
          have hCI2 : CI h2 A pad sp res wrk := by
            obtain ⟨⟨lw, s1⟩, ⟨lb, s2⟩, _, ⟨_, _, _, _, _, s4⟩, _, s5⟩ := cs
            refine hC.sc ?_ (fun x x1 x2 x3 x4 => (hF2x x (by omega) (by omega)).trans (hFx x (by omega) (by omega))) (hF2.1.trans hsz)
            rcases ho with ⟨e1, e2⟩ | ⟨e1, e2⟩
            · subst e1 e2
              exact ⟨⟨us, hw2⟩, ⟨lb, s2.e (fun x x1 x2 => (hF2x x (by omega) (by omega)).trans (hFx x (by omega) (by omega)))⟩, ⟨_, _, _, _, _, hr2⟩, ⟨_, _, _, _, _, s4.e (fun x x1 x2 => (hF2x x (by omega) (by omega)).trans (hFx x (by omega) (by omega)))⟩, _, (hF2x _ (by omega) (by omega)).trans ((hFx _ (by omega) (by omega)).trans s5)⟩
            · subst e1 e2
              exact ⟨⟨lw, s1.e (fun x x1 x2 => (hF2x x (by omega) (by omega)).trans (hFx x (by omega) (by omega)))⟩, ⟨us, hw2⟩, ⟨_, _, _, _, _, hr2⟩, ⟨_, _, _, _, _, s4.e (fun x x1 x2 => (hF2x x (by omega) (by omega)).trans (hFx x (by omega) (by omega)))⟩, _, (hF2x _ (by omega) (by omega)).trans ((hFx _ (by omega) (by omega)).trans s5)⟩
          exact q1 a us (fl + 1) hX2 h3' (hCI2.plc hc3 kh3' zh3') (fun x x1 x2 x3 => (kh3' x x1).trans ((hF2x x x2 x3).trans (hFx x x2 x3))) (zh3'.trans (hF2.1.trans hsz))
        · rw [rI, if_neg (fun h9 => h3 h9.1)]
          refine z_istore 55 rfl rfl rfl rfl ?_
          refine z_iload 57 rfl rfl rfl ?_
          refine z_push 58 (nI 1) rfl rfl rfl ?_
          refine z_nge 61 rfl rfl (by omega) (by omega) (fun _ => ?_) (fun h9 => absurd h9 (by omega))
          refine z_iload 72 rfl rfl rfl ?_
          refine z_iload 74 rfl rfl rfl ?_
          refine z_bop 75 _ rfl rfl (by first | with_reducible exact zb_0 _ _ | exact zd_0 _ _) ?_
          refine z_istore 77 rfl rfl rfl rfl ?_
          refine z_goto rfl ?_
          rw [if_neg h3] at hX
          refine ih (a + (rd1 (pgK A.pgs P) (pgE A.pgs P) (pgH A.pgs P) rule A.sgn.1 true st pn (A.bys.drop a)).1) _ _ (us ++ (rd1 (pgK A.pgs P) (pgE A.pgs P) (pgH A.pgs P) rule A.sgn.1 true st pn (A.bys.drop a)).2.2.2.1) (fl + (rd1 (pgK A.pgs P) (pgE A.pgs P) (pgH A.pgs P) rule A.sgn.1 true st pn (A.bys.drop a)).2.2.2.2) h2 _ (by omega) (by omega) (by rw [List.length_append]; omega) hrb.2.1 hrb.2.2.1 ?_ ?_ hw2 (fun x x1 x2 => (hF2x x x1 x2).trans (hFx x x1 x2)) (hF2.1.trans hsz)
          · rw [hX, List.drop_drop]
          · have hpr : pnR (rd1 (pgK A.pgs P) (pgE A.pgs P) (pgH A.pgs P) rule A.sgn.1 true st pn (A.bys.drop a)) = (rd1 (pgK A.pgs P) (pgE A.pgs P) (pgH A.pgs P) rule A.sgn.1 true st pn (A.bys.drop a)).2.2.1 := if_neg (fun h9 => h3 h9.1)
            rw [hpr] at hr2
            exact hr2
  refine z_in [some (.ref 1), some (.ref (pad P)), some (.int (nI rule)), some (.ref o), none, none] (by rfl) rfl rfl rfl ?_
  refine z_aload 1 rfl rfl rfl ?_
  refine z_cv0 4 rfl rfl (by first | exact hw0.1 | exact h1x | exact hrd1.1 | fail "lk") rfl (Nat.le_refl _) (Nat.le_refl _) ?_
  refine w_clear hw0 (fun h1 hw1 hF1 => ?_)
  have h1x := (hF1.2 1 (by omega)).trans c1
  have hrd1 := hrd.e (h' := h1) (fun x x1 x2 => hF1.2 x (by omega))
  refine z_aload 5 rfl rfl rfl ?_
  refine z_get 8 rfl rfl (by first | exact hw0.1 | exact h1x | exact hrd1.1 | fail "lk") rfl ?_
  refine z_aload 9 rfl rfl rfl ?_
  refine z_iload 10 rfl rfl rfl ?_
  refine z_cv2 13 rfl rfl (by first | exact hw0.1 | exact h1x | exact hrd1.1 | fail "lk") rfl (Nat.le_refl _) (Nat.le_refl _) ?_
  refine c_Rd_open hrd1 (fun h2 hr2 hF2 => ?_)
  refine z_push 14 (nI 0) rfl rfl rfl ?_
  refine z_istore 16 rfl rfl rfl rfl ?_
  exact loop (A.bys.length + 1) 0 0 4 [] 0 h2 _ (by omega) (by omega) (Nat.zero_le _) (by decide) (by decide) rfl hr2 (hw1.e (fun x x1 x2 => hF2.2 x (by omega))) (fun x x1 x2 => (hF2.2 x (by omega)).trans (hF1.2 x (by omega))) (hF2.1.trans hF1.1)
