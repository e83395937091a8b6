/-! the class: machines that write, ending -/
set_option maxRecDepth 100000 in
theorem c_eU_t {d : Nat} {h : mH} {a R p : Nat} {wr : Bool} {ph : Int32} {rule sr pn sw : Nat} {ks : List Nat} {fed pl fi : Nat} {q9 : List Nat}  {K rs ws : Nat} {E : List En} {H : List Sh} {F : List Fb} {Q : mP} (hM : McAt h a R p wr ph rule sr pn sw ks fed pl fi q9) (hE : WEnv h R p K E H F rule rs ws) (hs : SOk K H sw) (hK0 : K ≠ 0 → sw = 0) (hRa : R + 5 ≤ a) (hpa : p + 20 ≤ a ∨ a + 12 ≤ p) (hq : q9.length + 10 ≤ 429) (q0 : ∀ h', McAt h' a R p wr (nI 1) rule sr pn (ghW K H sw).2 [] fed pl fi (q9 ++ (ghW K H sw).1) → Fr a (a + 12) h h' → Q (some (.int (nI (q9.length + (ghW K H sw).1.length)))) h') : mZ (d + 8) tk_31 0 0 Q 30 [some (.ref a)] [] h 0 0 := by
  obtain ⟨x1, x2, ⟨bl, x3⟩, x4, ⟨mal9, x5⟩, l, u, x6⟩ := id hM
  obtain ⟨hR, hP, hW, hG, hFW, hFd, hFN, hws, hru⟩ := id hE
  obtain ⟨k4, kf, k5, k6⟩ := id x2
  have hgl := ghW_len (K := K) (st := sw) (H := H)
  refine z_aload 31 rfl rfl rfl ?_
  refine z_push 32 (nI 0) rfl rfl rfl ?_
  refine z_put 35 rfl rfl (by first | exact x1 | exact hc1 | exact x6b.1 | exact hw2.1 | exact h2x | exact hm3 | exact hc4 | fail "lk") rfl (mFi rfl) ?_
  refine z_ab a (oMc a wr ph 0 fed pl fi q9.length) h (mg_eq _ _ _) (fun x hx => by simp only [mSet, if_neg hx]) rfl (fun h1 hc1 kh1 zh1 => ?_)
  have x6b := x6.e (h' := h1) (fun y y1 y2 => kh1 y (by omega))
  refine z_aload 36 rfl rfl rfl ?_
  refine z_get 39 rfl rfl (by first | exact x1 | exact hc1 | exact x6b.1 | exact hw2.1 | exact h2x | exact hm3 | exact hc4 | fail "lk") rfl ?_
  refine z_cv0 42 rfl rfl (by first | exact x1 | exact hc1 | exact x6b.1 | exact hw2.1 | exact h2x | exact hm3 | exact hc4 | fail "lk") rfl (Nat.le_refl _) (Nat.le_refl _) ?_
  refine c_finish x6b (hP.e (fun y y1 y2 => kh1 y (by omega))) hs.1 (gh_g hG hs) hK0 (by omega) (fun h2 hw2 hF2 => ?_)
  have h2x := (hF2.2 a (by omega)).trans hc1
  refine z_aload 43 rfl rfl rfl ?_
  refine z_aload 44 rfl rfl rfl ?_
  refine z_get 47 rfl rfl (by first | exact x1 | exact hc1 | exact x6b.1 | exact hw2.1 | exact h2x | exact hm3 | exact hc4 | fail "lk") rfl ?_
  refine z_get 50 rfl rfl (by first | exact x1 | exact hc1 | exact x6b.1 | exact hw2.1 | exact h2x | exact hm3 | exact hc4 | fail "lk") rfl ?_
  refine z_cv1 53 rfl rfl (by first | exact x1 | exact hc1 | exact x6b.1 | exact hw2.1 | exact h2x | exact hm3 | exact hc4 | fail "lk") rfl (Nat.le_refl _) (Nat.le_refl _) ?_
  refine c_Mc_pour h2x (x4.e ((hF2.2 _ (by omega)).trans (kh1 _ (by omega)))) hw2.2.1 (by decide) (by omega) (by omega) (fun h3 hm3 hg3 hF3 => ?_)
  have hF3x : ∀ x, (x < a ∨ a + 1 ≤ x) → (x < a + 4 ∨ a + 5 ≤ x) → h3.2 x = h2.2 x := fun x x1 x2 => hF3.2 x ⟨x1, x2, trivial⟩
  refine z_aload 54 rfl rfl rfl ?_
  refine z_push 55 (nI 1) rfl rfl rfl ?_
  refine z_put 58 rfl rfl (by first | exact x1 | exact hc1 | exact x6b.1 | exact hw2.1 | exact h2x | exact hm3 | exact hc4 | fail "lk") rfl (mFi rfl) ?_
  refine z_ab a (oMc a wr (nI 1) 0 fed pl fi (q9.length + (ghW K H sw).1.length)) h3 (mg_eq _ _ _) (fun x hx => by simp only [mSet, if_neg hx]) rfl (fun h4 hc4 kh4 zh4 => ?_)
  refine z_aload 59 rfl rfl rfl ?_
  refine z_get 62 rfl rfl (by first | exact x1 | exact hc1 | exact x6b.1 | exact hw2.1 | exact h2x | exact hm3 | exact hc4 | fail "lk") rfl ?_
  refine z_ireti rfl (Nat.le_refl _) (Nat.le_refl _) ?_
  exact q0 h4 ⟨by rw [List.length_append]; exact hc4, ⟨Nat.zero_le _, kf, (kh4 _ (by omega)).trans ((hF3x _ (by omega) (by omega)).trans ((hF2.2 _ (by omega)).trans ((kh1 _ (by omega)).trans k5))), fun j hj => absurd hj (Nat.not_lt_zero j)⟩, ⟨bl, x3.e (fun z y1 y2 => (kh4 z (by omega)).trans ((hF3x z (by omega) (by omega)).trans ((hF2.2 z (by omega)).trans (kh1 z (by omega)))))⟩, hg3.e (kh4 _ (by omega)), ⟨mal9, x5.e (fun z y1 y2 => (kh4 z (by omega)).trans ((hF3x z (by omega) (by omega)).trans ((hF2.2 z (by omega)).trans (kh1 z (by omega)))))⟩, _, u, hw2.e (fun z y1 y2 => (kh4 z (by omega)).trans (hF3x z (by omega) (by omega)))⟩ ⟨zh4.trans (hF3.1.trans (hF2.1.trans zh1)), fun x hx => (kh4 x (by omega)).trans ((hF3x x (by omega) (by omega)).trans ((hF2.2 x (by omega)).trans (kh1 x (by omega))))⟩
set_option maxRecDepth 100000 in
theorem c_eU0 {d : Nat} {h : mH} {a R p : Nat} {wr : Bool} {ph : Int32} {rule sr pn sw : Nat} {fed pl fi : Nat} {q9 : List Nat} {K rs ws : Nat} {E : List En} {H : List Sh} {F : List Fb} {Q : mP} (hM : McAt h a R p wr ph rule sr pn sw [] fed pl fi q9) (hE : WEnv h R p K E H F rule rs ws) (hs : SOk K H sw) (hK0 : K ≠ 0 → sw = 0) (hRa : R + 5 ≤ a) (hpa : p + 20 ≤ a ∨ a + 12 ≤ p) (hq3 : q9.length ≤ 300)  (q1 : ∀ ao st' ks' us, wsX F K E H rule ws sw [] none = (true, ao, st', ks', us) → ∀ h', McAt h' a R p wr (nI 2) rule sr pn st' [] fed (fed - 0 - 0 + ao) fi (q9 ++ us) → Fr a (a + 12) h h' → Q (some (.int (-10))) h') (q0 : ∀ ao st' ks' us, wsX F K E H rule ws sw [] none = (false, ao, st', ks', us) → ∀ h', McAt h' a R p wr (nI 1) rule sr pn st' [] fed pl fi (q9 ++ us) → Fr a (a + 12) h h' → Q (some (.int (nI (q9.length + us.length)))) h') : mWP (d + 9) 31 [.ref a] h Q := by
  obtain ⟨x1, x2, x3, x4, x5, x6⟩ := id hM
  have hnil : ([] : List Nat).length = 0 := rfl
  refine z_in [some (.ref a)] (by rfl) rfl rfl rfl ?_
  refine z_aload 1 rfl rfl rfl ?_
  refine z_get 4 rfl rfl (by first | exact x1 | fail "lk") rfl ?_
  refine z_zle 7 rfl rfl (by omega) (fun _ => ?_) (fun h9 => absurd h9 (by omega))
  refine c_eU_t hM hE hs hK0 hRa hpa (by omega) (fun h2 hM2 hF2 => ?_)
  exact q0 0 _ [] _ (by unfold wsX; simp only; rw [wsL]; simp only [List.nil_append]) h2 hM2 hF2
set_option maxRecDepth 100000 in
theorem c_eU1 {d : Nat} {h : mH} {a R p : Nat} {wr : Bool} {ph : Int32} {rule sr pn sw : Nat} {fed pl fi : Nat} {q9 : List Nat} {K rs ws : Nat} {E : List En} {H : List Sh} {F : List Fb} {k0 : Nat} {Q : mP} (hM : McAt h a R p wr ph rule sr pn sw [k0] fed pl fi q9) (hE : WEnv h R p K E H F rule rs ws) (hs : SOk K H sw) (hK0 : K ≠ 0 → sw = 0) (hRa : R + 5 ≤ a) (hpa : p + 20 ≤ a ∨ a + 12 ≤ p) (hq3 : q9.length ≤ 300) (hk1 : 55296 ≤ k0) (hk2 : k0 ≤ 56319) (hfk : 1 ≤ fed)  (q1 : ∀ ao st' ks' us, wsX F K E H rule ws sw [k0] none = (true, ao, st', ks', us) → ∀ h', McAt h' a R p wr (nI 2) rule sr pn st' [] fed (fed - 0 - 1 + ao) fi (q9 ++ us) → Fr a (a + 12) h h' → Q (some (.int (-10))) h') (q0 : ∀ ao st' ks' us, wsX F K E H rule ws sw [k0] none = (false, ao, st', ks', us) → ∀ h', McAt h' a R p wr (nI 1) rule sr pn st' [] fed pl fi (q9 ++ us) → Fr a (a + 12) h h' → Q (some (.int (nI (q9.length + us.length)))) h') : mWP (d + 9) 31 [.ref a] h Q := by
  obtain ⟨x1, x2, ⟨bl, x3⟩, x4, ⟨mal9, x5⟩, l, u, x6⟩ := id hM
  obtain ⟨hR, hP, hW, hG, hFW, hFd, hFN, hws, hru⟩ := id hE
  obtain ⟨k4, kf, k5, k6⟩ := id x2
  have k60 : kf 0 = nI k0 := k6 0 (Nat.lt_succ_self 0)
  have hws2 : wsX F K E H rule ws sw [k0] none = (match wl1 K E H rule ws k0 sw with | none => (true, 0, sw, [], []) | some y => (false, 1, (ghW K H y.2).2, [], y.1 ++ (ghW K H y.2).1)) := by unfold wsX; simp only; rw [if_neg (fun h9 => h9.2 rfl)]; generalize wl1 K E H rule ws k0 sw = z; cases z <;> rfl
  refine z_in [some (.ref a)] (by rfl) rfl rfl rfl ?_
  refine z_aload 1 rfl rfl rfl ?_
  refine z_get 4 rfl rfl (by first | exact x1 | exact k5 | fail "lk") rfl ?_
  refine z_zle 7 rfl rfl (by omega) (fun h9 => absurd h9 (Nat.succ_ne_zero 0)) (fun _ => ?_)
  refine z_aload 8 rfl rfl rfl ?_
  refine z_push 9 (-1) rfl rfl rfl ?_
  refine z_aload 10 rfl rfl rfl ?_
  refine z_get 13 rfl rfl (by first | exact x1 | exact k5 | fail "lk") rfl ?_
  refine z_push 14 (nI 0) rfl rfl rfl ?_
  refine z_ald 15 rfl rfl (by first | exact x1 | exact k5 | fail "lk") rfl (by omega) (by omega) ?_
  rw [k60]
  refine z_aload 16 rfl rfl rfl ?_
  refine z_get 19 rfl rfl (by first | exact x1 | exact k5 | fail "lk") rfl ?_
  refine z_push 20 (nI 1) rfl rfl rfl ?_
  refine z_bop 21 _ rfl rfl (by first | with_reducible exact zb_1 (by omega) | exact zd_1 _ _) ?_
  refine z_cv3 24 rfl rfl (by first | exact x1 | exact k5 | fail "lk") rfl (Nat.le_refl _) (Nat.le_refl _) ?_
  refine c_Mc_writeOutL hM hE hs hK0 hRa hpa (by omega) (fun y hy h8 => by omega) (fun hn h2 hM2 hF2 => ?_) (fun y hy h2 hM2 hF2 => ?_)
  · skip
    refine z_jge 27 rfl rfl (fun h9 => absurd h9 (by decide)) (fun _ => ?_)
    refine z_push 29 (-10) rfl rfl rfl ?_
    refine z_ireti rfl (Nat.le_refl _) (Nat.le_refl _) ?_
    refine q1 0 sw [] [] (by rw [hws2, hn]) h2 ?_ hF2
    rw [List.append_nil]
    exact hM2
  · have hy9 := hM2.2.2.2.1.2.1
    rw [List.length_append] at hy9
    refine z_zge 27 rfl rfl (by omega) (fun _ => ?_) (fun h9 => absurd h9 (by omega))
    have hyl := wl1_len hW hws hy
    have hql : (q9 ++ y.1).length = q9.length + y.1.length := List.length_append
    refine c_eU_t hM2 (hE.e (fun z y1 y2 => hF2.2 z (by omega)) (fun z y1 y2 => hF2.2 z (by omega))) (wl1_ok hG hs y hy) (wl1_k0 hK0 hy) hRa hpa (by omega) (fun h3 hM3 hF3 => ?_)
    have hz := q0 1 (ghW K H y.2).2 [] (y.1 ++ (ghW K H y.2).1) (by rw [hws2, hy]) h3 (by rw [← List.append_assoc]; exact hM3) ⟨hF3.1.trans hF2.1, fun x hx => (hF3.2 x hx).trans (hF2.2 x hx)⟩
    rw [List.length_append, ← Nat.add_assoc, ← hql] at hz
    exact hz
theorem c_Mc_endUnits {d : Nat} {h : mH} {a R p : Nat} {wr : Bool} {ph : Int32} {rule sr pn sw : Nat} {ks : List Nat} {fed pl fi : Nat} {q9 : List Nat}  {K rs ws : Nat} {E : List En} {H : List Sh} {F : List Fb} {Q : mP} (hM : McAt h a R p wr ph rule sr pn sw ks fed pl fi q9) (hE : WEnv h R p K E H F rule rs ws) (hs : SOk K H sw) (hK0 : K ≠ 0 → sw = 0) (hRa : R + 5 ≤ a) (hpa : p + 20 ≤ a ∨ a + 12 ≤ p) (hks : ks = [] ∨ ∃ k0, ks = [k0] ∧ 55296 ≤ k0 ∧ k0 ≤ 56319) (hfk : ks.length ≤ fed) (hq3 : q9.length ≤ 300) (q1 : ∀ ao st' ks' us, wsX F K E H rule ws sw ks none = (true, ao, st', ks', us) → ∀ h', McAt h' a R p wr (nI 2) rule sr pn st' [] fed (fed - 0 - ks.length + ao) fi (q9 ++ us) → Fr a (a + 12) h h' → Q (some (.int (-10))) h') (q0 : ∀ ao st' ks' us, wsX F K E H rule ws sw ks none = (false, ao, st', ks', us) → ∀ h', McAt h' a R p wr (nI 1) rule sr pn st' [] fed pl fi (q9 ++ us) → Fr a (a + 12) h h' → Q (some (.int (nI (q9.length + us.length)))) h') : mWP (d + 9) 31 [.ref a] h Q := by
  rcases hks with rfl | ⟨k0, rfl, h1, h2⟩
  · exact c_eU0 hM hE hs hK0 hRa hpa hq3 q1 q0
  · exact c_eU1 hM hE hs hK0 hRa hpa hq3 h1 h2 hfk q1 q0
