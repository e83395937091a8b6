/-! the class: machines that read -/
set_option maxRecDepth 100000 in
theorem c_Mc_readKept {d : Nat} {h0 : mH} {a R p : Nat} {wr : Bool} {ph : Int32} {rule sr9 pn9 sw : Nat} {ks9 : List Nat} {fed pl fi : Nat} {q9 : List Nat} {K rs ws cnt : Nat} {E : List En} {H : List Sh} {last : Bool} {Q : mP} (hM : McAt h0 a R p wr ph rule sr9 pn9 sw ks9 fed pl fi q9) (hR : h0.2 R = oRu R rs ws cnt) (hP : PgC h0 p K E H) (hW : TbW E H) (hb : ∀ j, ks9.getD j 0 < 256) (hsr : sr9 < 4) (hpn : pn9 ≤ 4) (hru : rule < 4) (hrs : rs < 1114112) (hfk : ks9.length ≤ fed) (hq9 : q9.length + 8 ≤ 429) (hRa : R + 5 ≤ a) (hpa : p + 20 ≤ a ∨ a + 12 ≤ p)  (q0 : ∀ sr pn ks us, rdK K E H rule rs last (ks9.length + 1) sr9 pn9 ks9 [] = (false, sr, pn, ks, us) → ∀ h', McAt h' a R p wr ph rule sr pn sw ks fed pl fi (q9 ++ us) → Fr a (a + 12) h0 h' → Q (some (.int (nI (q9.length + us.length)))) h') (q1 : ∀ sr pn ks us, rdK K E H rule rs last (ks9.length + 1) sr9 pn9 ks9 [] = (true, sr, pn, ks, us) → ∀ h', McAt h' a R p wr (nI 2) rule sr 4 sw [] fed (fed - ks.length) fi (q9 ++ us) → Fr a (a + 12) h0 h' → Q (some (.int (-9))) h') : mWP (d + 6) 29 [.ref a, .int (bI last)] h0 Q := by
  obtain ⟨x1, x2, ⟨bl, x3⟩, x4, ⟨mal9, x5⟩, l, u, x6⟩ := hM
  have hks4 := x2.1
  obtain ⟨X, hXd⟩ : ∃ X, rdK K E H rule rs last (ks9.length + 1) sr9 pn9 ks9 [] = X := ⟨_, rfl⟩
  simp only [hXd] at q0 q1
  have exF : ∀ u9 sr pn ks us mal h, X = (false, sr, pn, ks, us) → u9 < 2 ^ 31 → h.2 a = oMc a wr ph ks.length fed pl fi q9.length → KpAt h (a + 1) ks → RwAt h (a + 2) 128 us → RgAt h (a + 4) fi q9 → RdAt h (a + 5) R p rule sr pn mal → Fr a (a + 7) h0 h → ks.length ≤ fed → us.length ≤ 8 → mZ (d + 5) tk_29 0 0 Q 76 [some (.ref a), some (.int (bI last)), some (.int (nI u9))] [] h 0 0 := by
    intro u9 sr pn ks us mal h hX hu9 hm hk hbr hg hrd hF hfk hu8
    refine z_aload 77 rfl rfl rfl ?_
    refine z_aload 78 rfl rfl rfl ?_
    refine z_get 81 rfl rfl (by first | exact hm | exact hm2 | fail "lk") rfl ?_
    refine z_cv1 84 rfl rfl (by first | exact hm | exact hm2 | fail "lk") rfl (Nat.le_refl _) (Nat.le_refl _) ?_
    refine c_Mc_pour hm hg hbr (by decide) (by omega) (by omega) (fun h2 hm2 hg2 hF2 => ?_)
    have hF2x : ∀ x, (x < a ∨ a + 1 ≤ x) → (x < a + 4 ∨ a + 5 ≤ x) → h2.2 x = h.2 x := fun x x1 x2 => hF2.2 x ⟨x1, x2, trivial⟩
    have hw2 : WrAt h2 (a + 7) R p rule sw l u := x6.e (fun y y1 y2 => (hF2x y (by omega) (by omega)).trans (hF.2 y (by omega)))
    have hM2 : McAt h2 a R p wr ph rule sr pn sw ks fed pl fi (q9 ++ us) := ⟨by rw [List.length_append]; exact hm2, hk.e (hF2x _ (by omega) (by omega)), ⟨us, hbr.e (fun y y1 y2 => hF2x y (by omega) (by omega))⟩, hg2, ⟨mal, hrd.e (fun y y1 y2 => hF2x y (by omega) (by omega))⟩, l, u, hw2⟩
    have hFr2 : Fr a (a + 12) h0 h2 := ⟨hF2.1.trans hF.1, fun x hx => (hF2x x (by omega) (by omega)).trans (hF.2 x (by omega))⟩
    refine z_iload 85 rfl rfl rfl ?_
    refine z_zge 88 rfl rfl (by omega) (fun _ => ?_) (fun h9 => absurd h9 (by omega))
    refine z_aload 107 rfl rfl rfl ?_
    refine z_get 110 rfl rfl (by first | exact hm | exact hm2 | fail "lk") rfl ?_
    refine z_ireti rfl (Nat.le_refl _) (Nat.le_refl _) ?_
    exact q0 _ _ _ _ hX h2 hM2 hFr2
  have exT : ∀ sr pn1 pn ks us mal h, X = (true, sr, pn1, ks, us) → pn = 4 → h.2 a = oMc a wr ph ks.length fed pl fi q9.length → KpAt h (a + 1) ks → RwAt h (a + 2) 128 us → RgAt h (a + 4) fi q9 → RdAt h (a + 5) R p rule sr pn mal → Fr a (a + 7) h0 h → ks.length ≤ fed → us.length ≤ 8 → mZ (d + 5) tk_29 0 0 Q 76 [some (.ref a), some (.int (bI last)), some (.int (-9))] [] h 0 0 := by
    intro sr pn1 pn ks us mal h hX hp4 hm hk hbr hg hrd hF hfk hu8
    rw [hp4] at hrd
    refine z_aload 77 rfl rfl rfl ?_
    refine z_aload 78 rfl rfl rfl ?_
    refine z_get 81 rfl rfl (by first | exact hm | exact hm2 | fail "lk") rfl ?_
    refine z_cv1 84 rfl rfl (by first | exact hm | exact hm2 | fail "lk") rfl (Nat.le_refl _) (Nat.le_refl _) ?_
    refine c_Mc_pour hm hg hbr (by decide) (by omega) (by omega) (fun h2 hm2 hg2 hF2 => ?_)
    have hF2x : ∀ x, (x < a ∨ a + 1 ≤ x) → (x < a + 4 ∨ a + 5 ≤ x) → h2.2 x = h.2 x := fun x x1 x2 => hF2.2 x ⟨x1, x2, trivial⟩
    have hw2 : WrAt h2 (a + 7) R p rule sw l u := x6.e (fun y y1 y2 => (hF2x y (by omega) (by omega)).trans (hF.2 y (by omega)))
    have hM2 : McAt h2 a R p wr ph rule sr 4 sw ks fed pl fi (q9 ++ us) := ⟨by rw [List.length_append]; exact hm2, hk.e (hF2x _ (by omega) (by omega)), ⟨us, hbr.e (fun y y1 y2 => hF2x y (by omega) (by omega))⟩, hg2, ⟨mal, hrd.e (fun y y1 y2 => hF2x y (by omega) (by omega))⟩, l, u, hw2⟩
    have hFr2 : Fr a (a + 12) h0 h2 := ⟨hF2.1.trans hF.1, fun x hx => (hF2x x (by omega) (by omega)).trans (hF.2 x (by omega))⟩
    refine z_iload 85 rfl rfl rfl ?_
    refine z_jge 88 rfl rfl (fun h9 => absurd h9 (by decide)) (fun _ => ?_)
    refine z_aload 89 rfl rfl rfl ?_
    refine z_aload 90 rfl rfl rfl ?_
    refine z_get 93 rfl rfl (by first | exact hm | exact hm2 | fail "lk") rfl ?_
    refine z_aload 94 rfl rfl rfl ?_
    refine z_get 97 rfl rfl (by first | exact hm | exact hm2 | fail "lk") rfl ?_
    refine z_bop 98 _ rfl rfl (by first | with_reducible exact zb_1 (by omega) | exact zd_1 _ _) ?_
    refine z_push 100 (-9) rfl rfl rfl ?_
    refine z_cv2 103 rfl rfl (by first | exact hm | exact hm2 | fail "lk") rfl (Nat.le_refl _) (Nat.le_refl _) ?_
    refine c_Mc_stopAt hM2 (fun h3 hM3 hF3 => ?_)
    refine z_goto rfl ?_
    refine z_ireti rfl (Nat.le_refl _) (Nat.le_refl _) ?_
    exact q1 _ _ _ _ hX h3 hM3 ⟨hF3.1.trans hFr2.1, fun x hx => (hF3.2 x (by omega)).trans (hFr2.2 x hx)⟩
  have loop : ∀ m9 u9 sr pn ks us mal h, ks.length < m9 → 1 ≤ u9 → u9 < 2 ^ 31 → us.length + 2 * ks.length ≤ 8 → (∀ j, ks.getD j 0 < 256) → sr < 4 → pn ≤ 4 → X = rdK K E H rule rs last m9 sr pn ks us → h.2 a = oMc a wr ph ks.length fed pl fi q9.length → KpAt h (a + 1) ks → RwAt h (a + 2) 128 us → RgAt h (a + 4) fi q9 → RdAt h (a + 5) R p rule sr pn mal → Fr a (a + 7) h0 h → ks.length ≤ fed → us.length ≤ 8 → mZ (d + 5) tk_29 0 0 Q 9 [some (.ref a), some (.int (bI last)), some (.int (nI u9))] [] h 0 0 := by
    intro m9
    induction m9 with
    | zero => intro u9 sr pn ks us mal h h1; omega
    | succ m9 ih =>
      intro u9 sr pn ks us mal h hml hu1 hu9 huk hb hsr hpn hX hm hk hbr hg hrd hF hfk hu8
      refine z_aload 10 rfl rfl rfl ?_
      refine z_get 13 rfl rfl (by first | exact hm | exact hm1 | exact hc3 | exact hrd.1 | exact hkf1 | exact (kh3 _ (by omega)).trans hkf1 | fail "lk") rfl ?_
      first | refine z_zle 16 rfl rfl (by omega) (fun hc13 => ?_) (fun hc13 => ?_)
      · rw [rdK, if_pos (by omega)] at hX
        exact exF u9 _ _ ks us _ h hX hu9 hm hk hbr hg hrd hF hfk hu8
      · refine z_iload 17 rfl rfl rfl ?_
        refine z_zle 20 rfl rfl (by omega) (fun h9 => absurd h9 (by omega)) (fun _ => ?_)
        have hP1 : PgC h p K E H := hP.e (fun x x1 x2 => hF.2 x (by omega))
        have hR1 : h.2 R = oRu R rs ws cnt := (hF.2 R (by omega)).trans hR
        obtain ⟨hk4, kf, hkf, hkv⟩ := id hk
        refine z_aload 21 rfl rfl rfl ?_
        refine z_get 24 rfl rfl (by first | exact hm | exact hm1 | exact hc3 | exact hrd.1 | exact hkf1 | exact (kh3 _ (by omega)).trans hkf1 | fail "lk") rfl ?_
        refine z_aload 25 rfl rfl rfl ?_
        refine z_get 28 rfl rfl (by first | exact hm | exact hm1 | exact hc3 | exact hrd.1 | exact hkf1 | exact (kh3 _ (by omega)).trans hkf1 | fail "lk") rfl ?_
        refine z_push 29 (nI 0) rfl rfl rfl ?_
        refine z_aload 30 rfl rfl rfl ?_
        refine z_get 33 rfl rfl (by first | exact hm | exact hm1 | exact hc3 | exact hrd.1 | exact hkf1 | exact (kh3 _ (by omega)).trans hkf1 | fail "lk") rfl ?_
        refine z_iload 34 rfl rfl rfl ?_
        refine z_aload 35 rfl rfl rfl ?_
        refine z_get 38 rfl rfl (by first | exact hm | exact hm1 | exact hc3 | exact hrd.1 | exact hkf1 | exact (kh3 _ (by omega)).trans hkf1 | fail "lk") rfl ?_
        rw [show nI ks.length = nI (0 + ks.length) by rw [Nat.zero_add]]
        refine z_cv5 41 rfl rfl (by first | exact hm | exact hm1 | exact hc3 | exact hrd.1 | exact hkf1 | exact (kh3 _ (by omega)).trans hkf1 | fail "lk") rfl (Nat.le_refl _) (Nat.le_refl _) ?_
        have hx3 : ((rd1 K E H rule rs last sr pn ks).1 = 0 ∧ (rd1 K E H rule rs last sr pn ks).2.2.2.2 = 1) ∨ ((rd1 K E H rule rs last sr pn ks).1 = 0 ∧ (rd1 K E H rule rs last sr pn ks).2.2.2.2 ≠ 1) ∨ (rd1 K E H rule rs last sr pn ks).1 ≠ 0 := by omega
        have hrb := rd1_b (rule := rule) (sg := rs) (last := last) (K := K) (st := sr) (pn := pn) hW hb (show 1 ≤ ks.length by omega) hsr hpn
        refine c_step (a := 0) (bs := ks) hrd hR1 hbr hP1 hW hkf (by decide) (by omega) (by omega) (fun j hj => by rw [Nat.zero_add]; exact hkv j hj) hb hsr hpn hru hrs (by decide) (by omega) (by omega) (by omega) (by omega) (by omega) (fun h1 hr1 hw1 hF1 => ?_)
        have hF1x : ∀ x, (x < a + 2 ∨ a + 4 ≤ x) → (x < a + 5 ∨ a + 7 ≤ x) → h1.2 x = h.2 x := fun x x1 x2 => hF1.2 x ⟨x2, x1, trivial⟩
        have hm1 : h1.2 a = oMc a wr ph ks.length fed pl fi q9.length := (hF1x a (by omega) (by omega)).trans hm
        have hg1 : RgAt h1 (a + 4) fi q9 := hg.e (hF1x _ (by omega) (by omega))
        have hk1 : KpAt h1 (a + 1) ks := hk.e (hF1x _ (by omega) (by omega))
        have hfr1 : Fr a (a + 7) h0 h1 := ⟨hF1.1.trans hF.1, fun x hx => (hF1x x (by omega) (by omega)).trans (hF.2 x hx)⟩
        have hX' := hX
        rw [rdK, if_neg (show ¬ ks.length = 0 by omega)] at hX'
        rcases hx3 with h3 | h3 | h3
        · rw [rI, if_pos h3]
          refine z_istore 42 rfl rfl rfl rfl ?_
          refine z_iload 43 rfl rfl rfl ?_
          refine z_jle 46 rfl rfl (fun _ => ?_) (fun h9 => absurd h9 (by decide))
          rw [if_pos h3.1, decide_eq_true h3.2] at hX'
          have hpr : pnR (rd1 K E H rule rs last sr pn ks) = 4 := if_pos h3
          have hus : (rd1 K E H rule rs last sr pn ks).2.2.2.1 = [] := hrb.2.2.2.2.2.1 h3.1
          rw [hus, List.append_nil] at hw1
          refine z_aload 10 rfl rfl rfl ?_
          refine z_get 13 rfl rfl (by first | exact hm1 | fail "lk") rfl ?_
          refine z_zle 16 rfl rfl (by omega) (fun h9 => absurd h9 (by omega)) (fun _ => ?_)
          refine z_iload 17 rfl rfl rfl ?_
          refine z_jle 20 rfl rfl (fun _ => ?_) (fun h9 => absurd h9 (by decide))
          exact exT _ _ _ ks us _ h1 hX' hpr hm1 hk1 hw1 hg1 hr1 hfr1 hfk hu8
        · rw [rI, if_neg (fun h9 => h3.2 h9.2), h3.1]
          refine z_istore 42 rfl rfl rfl rfl ?_
          refine z_iload 43 rfl rfl rfl ?_
          refine z_zle 46 rfl rfl (by omega) (fun _ => ?_) (fun h9 => absurd h9 (by omega))
          rw [if_pos h3.1, decide_eq_false h3.2] at hX'
          have hpr : pnR (rd1 K E H rule rs last sr pn ks) = (rd1 K E H rule rs last sr pn ks).2.2.1 := if_neg (fun h9 => h3.2 h9.2)
          have hus : (rd1 K E H rule rs last sr pn ks).2.2.2.1 = [] := hrb.2.2.2.2.2.1 h3.1
          rw [hus, List.append_nil] at hw1
          rw [hpr] at hr1
          refine z_aload 10 rfl rfl rfl ?_
          refine z_get 13 rfl rfl (by first | exact hm1 | fail "lk") rfl ?_
          refine z_zle 16 rfl rfl (by omega) (fun h9 => absurd h9 (by omega)) (fun _ => ?_)
          refine z_iload 17 rfl rfl rfl ?_
          refine z_zle 20 rfl rfl (by omega) (fun _ => ?_) (fun h9 => absurd h9 (by decide))
          exact exF 0 _ _ ks us _ h1 hX' (by decide) hm1 hk1 hw1 hg1 hr1 hfr1 hfk hu8
        · rw [rI, if_neg (fun h9 => h3 h9.1)]
          rw [if_neg h3] at hX'
          have hpr : pnR (rd1 K E H rule rs last sr pn ks) = (rd1 K E H rule rs last sr pn ks).2.2.1 := if_neg (fun h9 => h3 h9.1)
          rw [hpr] at hr1
          have hkf1 := (hF1x (a + 1) (by omega) (by omega)).trans hkf
          refine z_istore 42 rfl rfl rfl rfl ?_
          refine z_iload 43 rfl rfl rfl ?_
          refine z_zle 46 rfl rfl (by omega) (fun h9 => absurd h9 (by omega)) (fun _ => ?_)
          refine z_aload 47 rfl rfl rfl ?_
          first | refine z_dup 48 rfl rfl ?_ | refine z_dupi 48 rfl rfl ?_
          refine z_get 51 rfl rfl (by first | exact hm | exact hm1 | exact hc3 | exact hrd.1 | exact hkf1 | exact (kh3 _ (by omega)).trans hkf1 | fail "lk") rfl ?_
          refine z_iload 52 rfl rfl rfl ?_
          refine z_bop 53 _ rfl rfl (by first | with_reducible exact zb_1 (by omega) | exact zd_1 _ _) ?_
          refine z_put 56 rfl rfl (by first | exact hm | exact hm1 | exact hc3 | exact hrd.1 | exact hkf1 | exact (kh3 _ (by omega)).trans hkf1 | fail "lk") rfl (mFi rfl) ?_
          refine z_ab a (oMc a wr ph (ks.length - (rd1 K E H rule rs last sr pn ks).1) fed pl fi q9.length) h1 (mg_eq _ _ _) (fun x hx => by simp only [mSet, if_neg hx]) rfl (fun h3 hc3 kh3 zh3 => ?_)
          refine z_aload 57 rfl rfl rfl ?_
          refine z_get 60 rfl rfl (by first | exact hm | exact hm1 | exact hc3 | exact hrd.1 | exact hkf1 | exact (kh3 _ (by omega)).trans hkf1 | fail "lk") rfl ?_
          refine z_iload 61 rfl rfl rfl ?_
          refine z_aload 62 rfl rfl rfl ?_
          refine z_get 65 rfl rfl (by first | exact hm | exact hm1 | exact hc3 | exact hrd.1 | exact hkf1 | exact (kh3 _ (by omega)).trans hkf1 | fail "lk") rfl ?_
          refine z_push 66 (nI 0) rfl rfl rfl ?_
          refine z_aload 67 rfl rfl rfl ?_
          refine z_get 70 rfl rfl (by first | exact hm | exact hm1 | exact hc3 | exact hrd.1 | exact hkf1 | exact (kh3 _ (by omega)).trans hkf1 | fail "lk") rfl ?_
          refine z_copy 73 rfl rfl rfl (by first | exact hm | exact hm1 | exact hc3 | exact hrd.1 | exact hkf1 | exact (kh3 _ (by omega)).trans hkf1 | fail "lk") (by first | exact hm | exact hm1 | exact hc3 | exact hrd.1 | exact hkf1 | exact (kh3 _ (by omega)).trans hkf1 | fail "lk") rfl rfl rfl (by omega) (by omega) (by omega) (by omega) ?_
          refine z_ab (a + 1) (aI 4 (va_cpy kf kf (rd1 K E H rule rs last sr pn ks).1 0 (ks.length - (rd1 K E H rule rs last sr pn ks).1))) h3 (mg_eq _ _ _) (fun x hx => by simp only [mSet, if_neg hx]) rfl (fun h4 hk4c kh4 zh4 => ?_)
          refine z_goto rfl ?_
          have hln : (ks.drop (rd1 K E H rule rs last sr pn ks).1).length = ks.length - (rd1 K E H rule rs last sr pn ks).1 := List.length_drop
          refine ih (rd1 K E H rule rs last sr pn ks).1 _ _ (ks.drop (rd1 K E H rule rs last sr pn ks).1) (us ++ (rd1 K E H rule rs last sr pn ks).2.2.2.1) _ h4 (by omega) (by omega) (by omega) (by rw [List.length_append]; omega) (fun j => by rw [getD_drop9]; exact hb _) hrb.2.1 hrb.2.2.1 hX' ?_ ⟨by omega, _, hk4c, fun j hj => ?_⟩ (hw1.e (fun y y1 y2 => (kh4 y (by omega)).trans (kh3 y (by omega)))) (hg1.e ((kh4 _ (by omega)).trans (kh3 _ (by omega)))) (hr1.e (fun y y1 y2 => (kh4 y (by omega)).trans (kh3 y (by omega)))) ⟨zh4.trans (zh3.trans hfr1.1), fun x hx => (kh4 x (by omega)).trans ((kh3 x (by omega)).trans (hfr1.2 x hx))⟩ (by omega) (by rw [List.length_append]; omega)
          · rw [hln]; exact (kh4 a (by omega)).trans hc3
          · rw [pk_cpy_in (by omega) (by omega), getD_drop9, Nat.sub_zero]
            exact hkv _ (by omega)
  refine z_in [some (.ref a), some (.int (bI last)), none] (by rfl) rfl rfl rfl ?_
  refine z_aload 1 rfl rfl rfl ?_
  refine z_get 4 rfl rfl (by first | exact x1 | exact x3.1 | fail "lk") rfl ?_
  refine z_cv0 7 rfl rfl (by first | exact x1 | exact x3.1 | fail "lk") rfl (Nat.le_refl _) (Nat.le_refl _) ?_
  refine w_clear x3 (fun h1 hw1 hF1 => ?_)
  refine z_push 8 (nI 1) rfl rfl rfl ?_
  refine z_istore 9 rfl rfl rfl rfl ?_
  exact loop (ks9.length + 1) 1 sr9 pn9 ks9 [] mal9 h1 (by omega) (by omega) (by decide) (by show 0 + _ ≤ 8; omega) hb hsr hpn hXd.symm ((hF1.2 a (by omega)).trans x1) (x2.e (hF1.2 _ (by omega))) hw1 (x4.e (hF1.2 _ (by omega))) (x5.e (fun y y1 y2 => hF1.2 y (by omega))) ⟨hF1.1, fun x hx => hF1.2 x (by omega)⟩ hfk (by decide)
