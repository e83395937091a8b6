/-! the class: machines -/
theorem z_ab {d : Nat} {t : mK} {bc bs : Nat} {Q : mP} {pc : Nat} {L : List (Option Value)} {st : List Value} {h1 : mH} {nc ns : Nat} (a : Nat) (c : mC) (h0 : mH) (e1 : h1.2 a = c) (e2 : ∀ x, x ≠ a → h1.2 x = h0.2 x) (e3 : h1.1 = h0.1) (k : ∀ h, h.2 a = c → (∀ x, x ≠ a → h.2 x = h0.2 x) → h.1 = h0.1 → mZ d t bc bs Q pc L st h nc ns) : mZ d t bc bs Q pc L st h1 nc ns := k h1 e1 e2 e3
abbrev oMc (a : Nat) (wr : Bool) (ph : Int32) (k fed pl fi wt : Nat) : mC := .inr (.inr (3, [.ref (a + 5), .ref (a + 7), .int (bI wr), .int ph, .ref (a + 1), .int (nI k), .int (nI fed), .int (nI pl), .ref (a + 2), .ref (a + 4), .int (nI fi), .int (nI wt)]))
def RgAt (h : mH) (v fi : Nat) (q : List Nat) : Prop := fi < 429 ∧ q.length ≤ 429 ∧ ∃ f : Nat → Int32, h.2 v = aI 429 f ∧ ∀ j, j < q.length → f ((fi + j) % 429) = nI (q.getD j 0)
def KpAt (h : mH) (v : Nat) (ks : List Nat) : Prop := ks.length ≤ 4 ∧ ∃ kf : Nat → Int32, h.2 v = aI 4 kf ∧ ∀ j, j < ks.length → kf j = nI (ks.getD j 0)
def McAt (h : mH) (a R p : Nat) (wr : Bool) (ph : Int32) (rule sr pn sw : Nat) (ks : List Nat) (fed pl fi : Nat) (q : List Nat) : Prop := h.2 a = oMc a wr ph ks.length fed pl fi q.length ∧ KpAt h (a + 1) ks ∧ (∃ bl, RwAt h (a + 2) 128 bl) ∧ RgAt h (a + 4) fi q ∧ (∃ mal, RdAt h (a + 5) R p rule sr pn mal) ∧ ∃ l u, WrAt h (a + 7) R p rule sw l u
theorem RgAt.e {h h' : mH} {v fi : Nat} {q : List Nat} (x : RgAt h v fi q) (e : h'.2 v = h.2 v) : RgAt h' v fi q := by
  obtain ⟨a, b, f, c, d⟩ := x
  exact ⟨a, b, f, e.trans c, d⟩
theorem KpAt.e {h h' : mH} {v : Nat} {q : List Nat} (x : KpAt h v q) (e : h'.2 v = h.2 v) : KpAt h' v q := by
  obtain ⟨a, f, c, d⟩ := x
  exact ⟨a, f, e.trans c, d⟩
theorem McAt.e {h h' : mH} {a R p : Nat} {wr : Bool} {ph : Int32} {rule sr pn sw : Nat} {ks : List Nat} {fed pl fi : Nat} {q : List Nat} (x : McAt h a R p wr ph rule sr pn sw ks fed pl fi q) (f : Eqv a (a + 12) h h') : McAt h' a R p wr ph rule sr pn sw ks fed pl fi q := by
  obtain ⟨x1, x2, ⟨bl, x3⟩, x4, ⟨mal, x5⟩, l, u, x6⟩ := x
  exact ⟨(f a (by omega) (by omega)).trans x1, x2.e (f _ (by omega) (by omega)), ⟨bl, x3.e (fun y y1 y2 => f y (by omega) (by omega))⟩, x4.e (f _ (by omega) (by omega)), ⟨mal, x5.e (fun y y1 y2 => f y (by omega) (by omega))⟩, l, u, x6.e (fun y y1 y2 => f y (by omega) (by omega))⟩
set_option maxRecDepth 100000 in
theorem c_Mc_start {d : Nat} {h : mH} {a R p : Nat} {wr : Bool} {ph : Int32} {rule sr pn sw : Nat} {ks : List Nat} {fed pl fi : Nat} {q9 : List Nat} {p2 rule2 : Nat} {w2 : Bool} {Q : mP} (hM : McAt h a R p wr ph rule sr pn sw ks fed pl fi q9)  (q : ∀ h', McAt h' a R p2 w2 (nI 0) rule2 0 4 0 [] 0 pl 0 [] → Fr a (a + 12) h h' → Q none h') : mWP (d + 3) 23 [.ref a, .ref p2, .int (bI w2), .int (nI rule2)] h Q := by
  obtain ⟨x1, x2, ⟨bl, x3⟩, x4, ⟨mal, x5⟩, l, u, x6⟩ := hM
  refine z_in [some (.ref a), some (.ref p2), some (.int (bI w2)), some (.int (nI rule2))] (by rfl) rfl rfl rfl ?_
  refine z_aload 1 rfl rfl rfl ?_
  refine z_get 4 rfl rfl (by first | exact x1 | exact x5.1 | exact x6.1 | exact x6b.1 | exact h1x | exact h2x | exact mg_eq _ _ _ | fail "lk") rfl ?_
  refine z_aload 5 rfl rfl rfl ?_
  refine z_iload 6 rfl rfl rfl ?_
  refine z_cv2 9 rfl rfl (by first | exact x1 | exact x5.1 | exact x6.1 | exact x6b.1 | exact h1x | exact h2x | exact mg_eq _ _ _ | fail "lk") rfl (Nat.le_refl _) (Nat.le_refl _) ?_
  refine c_Rd_open x5 (fun h1 hr1 hF1 => ?_)
  have h1x := (hF1.2 a (by omega)).trans x1
  have x6b := x6.e (h' := h1) (fun y y1 y2 => hF1.2 y (by omega))
  refine z_aload 10 rfl rfl rfl ?_
  refine z_get 13 rfl rfl (by first | exact x1 | exact x5.1 | exact x6.1 | exact x6b.1 | exact h1x | exact h2x | exact mg_eq _ _ _ | fail "lk") rfl ?_
  refine z_aload 14 rfl rfl rfl ?_
  refine z_iload 15 rfl rfl rfl ?_
  refine z_push 16 (nI 0) rfl rfl rfl ?_
  refine z_cv3 19 rfl rfl (by first | exact x1 | exact x5.1 | exact x6.1 | exact x6b.1 | exact h1x | exact h2x | exact mg_eq _ _ _ | fail "lk") rfl (Nat.le_refl _) (Nat.le_refl _) ?_
  refine c_Wr_open (x6.e (h' := h1) (fun y y1 y2 => hF1.2 y (by omega))) (fun h2 hw2 hF2 => ?_)
  have h2x := (hF2.2 a (by omega)).trans h1x
  refine z_aload 20 rfl rfl rfl ?_
  refine z_iload 21 rfl rfl rfl ?_
  refine z_put 24 rfl rfl (by first | exact x1 | exact x5.1 | exact x6.1 | exact x6b.1 | exact h1x | exact h2x | exact mg_eq _ _ _ | fail "lk") rfl (mFb rfl (bI_or w2)) ?_
  refine z_aload 25 rfl rfl rfl ?_
  refine z_push 26 (nI 0) rfl rfl rfl ?_
  refine z_put 29 rfl rfl (by first | exact x1 | exact x5.1 | exact x6.1 | exact x6b.1 | exact h1x | exact h2x | exact mg_eq _ _ _ | fail "lk") rfl (mFi rfl) ?_
  refine z_aload 30 rfl rfl rfl ?_
  refine z_push 31 (nI 0) rfl rfl rfl ?_
  refine z_put 34 rfl rfl (by first | exact x1 | exact x5.1 | exact x6.1 | exact x6b.1 | exact h1x | exact h2x | exact mg_eq _ _ _ | fail "lk") rfl (mFi rfl) ?_
  refine z_aload 35 rfl rfl rfl ?_
  refine z_push 36 (nI 0) rfl rfl rfl ?_
  refine z_put 39 rfl rfl (by first | exact x1 | exact x5.1 | exact x6.1 | exact x6b.1 | exact h1x | exact h2x | exact mg_eq _ _ _ | fail "lk") rfl (mFi rfl) ?_
  refine z_aload 40 rfl rfl rfl ?_
  refine z_push 41 (nI 0) rfl rfl rfl ?_
  refine z_put 44 rfl rfl (by first | exact x1 | exact x5.1 | exact x6.1 | exact x6b.1 | exact h1x | exact h2x | exact mg_eq _ _ _ | fail "lk") rfl (mFi rfl) ?_
  refine z_aload 45 rfl rfl rfl ?_
  refine z_push 46 (nI 0) rfl rfl rfl ?_
  refine z_put 49 rfl rfl (by first | exact x1 | exact x5.1 | exact x6.1 | exact x6b.1 | exact h1x | exact h2x | exact mg_eq _ _ _ | fail "lk") rfl (mFi rfl) ?_
  refine z_ab a (oMc a w2 (nI 0) 0 0 pl 0 0) h2 (mg_eq _ _ _) (fun x hx => by simp only [mSet, if_neg hx]) rfl (fun h3 hc3 kh3 zh3 => ?_)
  refine z_vret rfl (Nat.le_refl _) (Nat.le_refl _) ?_
  refine q h3 ⟨hc3, ⟨Nat.zero_le _, ?_⟩, ⟨bl, ?_⟩, ⟨by decide, Nat.zero_le _, ?_⟩, ⟨0, ?_⟩, [], u, ?_⟩ ⟨zh3.trans (hF2.1.trans hF1.1), fun y hy => (kh3 y (by omega)).trans ((hF2.2 y (by omega)).trans (hF1.2 y (by omega)))⟩
  · obtain ⟨_, kf, k1, _⟩ := x2
    exact ⟨kf, (kh3 _ (by omega)).trans ((hF2.2 _ (by omega)).trans ((hF1.2 _ (by omega)).trans k1)), fun j hj => absurd hj (Nat.not_lt_zero j)⟩
  · exact x3.e (fun y y1 y2 => (kh3 y (by omega)).trans ((hF2.2 y (by omega)).trans (hF1.2 y (by omega))))
  · obtain ⟨_, _, f, k1, _⟩ := x4
    exact ⟨f, (kh3 _ (by omega)).trans ((hF2.2 _ (by omega)).trans ((hF1.2 _ (by omega)).trans k1)), fun j hj => absurd hj (Nat.not_lt_zero j)⟩
  · exact hr1.e (fun y y1 y2 => (kh3 y (by omega)).trans (hF2.2 y (by omega)))
  · exact hw2.e (fun y y1 y2 => kh3 y (by omega))
theorem getD_c0 {x : Nat} {l : List Nat} : (x :: l).getD 0 0 = x := rfl
theorem getD_cs {x j : Nat} {l : List Nat} : (x :: l).getD (j + 1) 0 = l.getD j 0 := rfl
set_option maxRecDepth 100000 in
theorem c_Mc_takeFirst {d : Nat} {h : mH} {a R p : Nat} {wr : Bool} {ph : Int32} {rule sr pn sw : Nat} {ks : List Nat} {fed pl fi : Nat} {x9 : Nat} {q9 : List Nat} {Q : mP} (hM : McAt h a R p wr ph rule sr pn sw ks fed pl fi (x9 :: q9))  (q : ∀ h' fi', McAt h' a R p wr ph rule sr pn sw ks fed pl fi' q9 → Fr a (a + 12) h h' → Q (some (.int (nI x9))) h') : mWP (d + 1) 24 [.ref a] h Q := by
  obtain ⟨x1, x2, ⟨bl, x3⟩, ⟨y1, y2, f, y3, y4⟩, ⟨mal, x5⟩, l, u, x6⟩ := hM
  have hq : (x9 :: q9).length = q9.length + 1 := rfl
  rw [hq] at x1 y2 y4
  have y40 := y4 0 (by omega)
  rw [Nat.add_zero, Nat.mod_eq_of_lt y1, getD_c0] at y40
  refine z_in [some (.ref a), none] (by rfl) rfl rfl rfl ?_
  refine z_aload 1 rfl rfl rfl ?_
  refine z_get 4 rfl rfl (by first | exact x1 | exact y3 | exact mg_eq _ _ _ | fail "lk") rfl ?_
  refine z_aload 5 rfl rfl rfl ?_
  refine z_get 8 rfl rfl (by first | exact x1 | exact y3 | exact mg_eq _ _ _ | fail "lk") rfl ?_
  refine z_ald 9 rfl rfl (by first | exact x1 | exact y3 | exact mg_eq _ _ _ | fail "lk") rfl (by omega) (by omega) ?_
  rw [y40]
  refine z_istore 10 rfl rfl rfl rfl ?_
  refine z_aload 11 rfl rfl rfl ?_
  refine z_aload 12 rfl rfl rfl ?_
  refine z_get 15 rfl rfl (by first | exact x1 | exact y3 | exact mg_eq _ _ _ | fail "lk") rfl ?_
  refine z_push 16 (nI 1) rfl rfl rfl ?_
  refine z_bop 17 _ rfl rfl (by first | with_reducible exact zb_0 _ _ | exact zd_0 _ _) ?_
  refine z_push 20 (nI 429) rfl rfl rfl ?_
  refine z_irem 21 _ rfl rfl (by decide) (pk_rem (by omega) (by decide) (by decide)) ?_
  refine z_put 24 rfl rfl (by first | exact x1 | exact y3 | exact mg_eq _ _ _ | fail "lk") rfl (mFi rfl) ?_
  refine z_aload 25 rfl rfl rfl ?_
  first | refine z_dup 26 rfl rfl ?_ | refine z_dupi 26 rfl rfl ?_
  refine z_get 29 rfl rfl (by first | exact x1 | exact y3 | exact mg_eq _ _ _ | fail "lk") rfl ?_
  refine z_push 30 (nI 1) rfl rfl rfl ?_
  refine z_bop 31 _ rfl rfl (by first | with_reducible exact zb_1 (by omega) | exact zd_1 _ _) ?_
  refine z_put 34 rfl rfl (by first | exact x1 | exact y3 | exact mg_eq _ _ _ | fail "lk") rfl (mFi rfl) ?_
  refine z_ab a (oMc a wr ph ks.length fed pl ((fi + 1) % 429) q9.length) h (mg_eq _ _ _) (fun x hx => by simp only [mSet, if_neg hx]) rfl (fun h3 hc3 kh3 zh3 => ?_)
  refine z_iload 35 rfl rfl rfl ?_
  refine z_ireti rfl (Nat.le_refl _) (Nat.le_refl _) ?_
  refine q h3 ((fi + 1) % 429) ⟨hc3, x2.e (kh3 _ (by omega)), ⟨bl, x3.e (fun y z1 z2 => kh3 y (by omega))⟩, ⟨by omega, by omega, f, (kh3 _ (by omega)).trans y3, fun j hj => ?_⟩, ⟨mal, x5.e (fun y z1 z2 => kh3 y (by omega))⟩, l, u, x6.e (fun y z1 z2 => kh3 y (by omega))⟩ ⟨zh3, fun y hy => kh3 y (by omega)⟩
  have y5 := y4 (j + 1) (by omega)
  rw [getD_cs, show (fi + (j + 1)) % 429 = ((fi + 1) % 429 + j) % 429 by omega] at y5
  exact y5
set_option maxRecDepth 100000 in
theorem c_Mc_stopAt {d : Nat} {h : mH} {a R p : Nat} {wr : Bool} {ph : Int32} {rule sr pn sw : Nat} {ks : List Nat} {fed pl fi : Nat} {q9 : List Nat} {pl2 : Nat} {v : Int32} {Q : mP} (hM : McAt h a R p wr ph rule sr pn sw ks fed pl fi q9)  (q : ∀ h', McAt h' a R p wr (nI 2) rule sr pn sw [] fed pl2 fi q9 → Fr a (a + 1) h h' → Q (some (.int v)) h') : mWP (d + 1) 26 [.ref a, .int (nI pl2), .int v] h Q := by
  obtain ⟨x1, x2, ⟨bl, x3⟩, x4, ⟨mal, x5⟩, l, u, x6⟩ := hM
  refine z_in [some (.ref a), some (.int (nI pl2)), some (.int v)] (by rfl) rfl rfl rfl ?_
  refine z_aload 1 rfl rfl rfl ?_
  refine z_iload 2 rfl rfl rfl ?_
  refine z_put 5 rfl rfl (by first | exact x1 | exact mg_eq _ _ _ | fail "lk") rfl (mFi rfl) ?_
  refine z_aload 6 rfl rfl rfl ?_
  refine z_push 7 (nI 2) rfl rfl rfl ?_
  refine z_put 10 rfl rfl (by first | exact x1 | exact mg_eq _ _ _ | fail "lk") rfl (mFi rfl) ?_
  refine z_aload 11 rfl rfl rfl ?_
  refine z_push 12 (nI 0) rfl rfl rfl ?_
  refine z_put 15 rfl rfl (by first | exact x1 | exact mg_eq _ _ _ | fail "lk") rfl (mFi rfl) ?_
  refine z_ab a (oMc a wr (nI 2) 0 fed pl2 fi q9.length) h (mg_eq _ _ _) (fun x hx => by simp only [mSet, if_neg hx]) rfl (fun h3 hc3 kh3 zh3 => ?_)
  refine z_iload 16 rfl rfl rfl ?_
  refine z_ireti rfl (Nat.le_refl _) (Nat.le_refl _) ?_
  refine q h3 ⟨hc3, ⟨Nat.zero_le _, ?_⟩, ⟨bl, x3.e (fun y z1 z2 => kh3 y (by omega))⟩, x4.e (kh3 _ (by omega)), ⟨mal, x5.e (fun y z1 z2 => kh3 y (by omega))⟩, l, u, x6.e (fun y z1 z2 => kh3 y (by omega))⟩ ⟨zh3, fun y hy => kh3 y (by omega)⟩
  obtain ⟨_, kf, k1, _⟩ := x2
  exact ⟨kf, (kh3 _ (by omega)).trans k1, fun j hj => absurd hj (Nat.not_lt_zero j)⟩
set_option maxRecDepth 100000 in
theorem c_Mc_pour {d : Nat} {h0 : mH} {a r n k fed pl fi : Nat} {wr : Bool} {ph : Int32} {l q9 : List Nat} {Q : mP} (hm : h0.2 a = oMc a wr ph k fed pl fi q9.length) (hG : RgAt h0 (a + 4) fi q9) (hw : RwAt h0 r n l) (hn : n < 2 ^ 31) (hql : q9.length + l.length ≤ 429) (hra : (r + 2 ≤ a ∨ a < r) ∧ (r + 2 ≤ a + 4 ∨ a + 4 < r))  (q : ∀ h', h'.2 a = oMc a wr ph k fed pl fi (q9.length + l.length) → RgAt h' (a + 4) fi (q9 ++ l) → FrL [(a, a + 1), (a + 4, a + 5)] h0 h' → Q none h') : mWP (d + 1) 25 [.ref a, .ref r] h0 Q := by
  obtain ⟨y1, y2, f0, y3, y4⟩ := hG
  have loop : ∀ m9 i f h, l.length < i + m9 → i ≤ l.length → h.2 a = oMc a wr ph k fed pl fi (q9.length + i) → h.2 (a + 4) = aI 429 f → (∀ j, j < q9.length + i → f ((fi + j) % 429) = nI ((q9 ++ l).getD j 0)) → FrL [(a, a + 1), (a + 4, a + 5)] h0 h → mZ d tk_25 0 0 Q 2 [some (.ref a), some (.ref r), some (.int (nI i))] [] h 0 0 := by
    intro m9
    induction m9 with
    | zero => intro i f h h1 h2; omega
    | succ m9 ih =>
      intro i f h h1 h2 hm hv hf hF
      obtain ⟨w1, w2, g, w3, w4⟩ := hw.e (h' := h) (fun x x1 x2 => hF.2 x ⟨by show _ ∨ _; omega, by show _ ∨ _; omega, trivial⟩)
      refine z_iload 3 rfl rfl rfl ?_
      refine z_aload 4 rfl rfl rfl ?_
      refine z_get 7 rfl rfl (by first | exact hm | exact hv | exact w1 | exact w3 | exact (kh2 _ (by omega)).trans hm | fail "lk") rfl ?_
      refine z_nge 10 rfl rfl (by omega) (by omega) (fun hc7 => ?_) (fun hc7 => ?_)
      · refine z_vret rfl (Nat.le_refl _) (Nat.le_refl _) ?_
        obtain rfl : i = l.length := by omega
        exact q h hm ⟨y1, by rw [List.length_append]; exact hql, f, hv, fun j hj => hf j (by rw [List.length_append] at hj; exact hj)⟩ hF
      · refine z_aload 11 rfl rfl rfl ?_
        refine z_get 14 rfl rfl (by first | exact hm | exact hv | exact w1 | exact w3 | exact (kh2 _ (by omega)).trans hm | fail "lk") rfl ?_
        refine z_push 17 (nI 429) rfl rfl rfl ?_
        refine z_nge 20 rfl rfl (by omega) (by omega) (fun h9 => absurd h9 (by omega)) (fun _ => ?_)
        refine z_aload 21 rfl rfl rfl ?_
        refine z_get 24 rfl rfl (by first | exact hm | exact hv | exact w1 | exact w3 | exact (kh2 _ (by omega)).trans hm | fail "lk") rfl ?_
        refine z_aload 25 rfl rfl rfl ?_
        refine z_get 28 rfl rfl (by first | exact hm | exact hv | exact w1 | exact w3 | exact (kh2 _ (by omega)).trans hm | fail "lk") rfl ?_
        refine z_aload 29 rfl rfl rfl ?_
        refine z_get 32 rfl rfl (by first | exact hm | exact hv | exact w1 | exact w3 | exact (kh2 _ (by omega)).trans hm | fail "lk") rfl ?_
        refine z_bop 33 _ rfl rfl (by first | with_reducible exact zb_0 _ _ | exact zd_0 _ _) ?_
        refine z_push 36 (nI 429) rfl rfl rfl ?_
        refine z_irem 37 _ rfl rfl (by decide) (pk_rem (by omega) (by decide) (by decide)) ?_
        refine z_aload 38 rfl rfl rfl ?_
        refine z_get 41 rfl rfl (by first | exact hm | exact hv | exact w1 | exact w3 | exact (kh2 _ (by omega)).trans hm | fail "lk") rfl ?_
        refine z_iload 42 rfl rfl rfl ?_
        refine z_ald 43 rfl rfl (by first | exact hm | exact hv | exact w1 | exact w3 | exact (kh2 _ (by omega)).trans hm | fail "lk") rfl (by omega) (by omega) ?_
        rw [w4 i (by omega)]
        refine z_ast 44 rfl rfl (by first | exact hm | exact hv | exact w1 | exact w3 | exact (kh2 _ (by omega)).trans hm | fail "lk") rfl (by omega) (by omega) ?_
        refine z_ab (a + 4) (aI 429 (upd f ((fi + (q9.length + i)) % 429) (nI (l.getD i 0)))) h (mg_eq _ _ _) (fun x hx => by simp only [mSet, if_neg hx]) rfl (fun h2 hv2 kh2 zh2 => ?_)
        refine z_aload 45 rfl rfl rfl ?_
        first | refine z_dup 46 rfl rfl ?_ | refine z_dupi 46 rfl rfl ?_
        refine z_get 49 rfl rfl (by first | exact hm | exact hv | exact w1 | exact w3 | exact (kh2 _ (by omega)).trans hm | fail "lk") rfl ?_
        refine z_push 50 (nI 1) rfl rfl rfl ?_
        refine z_bop 51 _ rfl rfl (by first | with_reducible exact zb_0 _ _ | exact zd_0 _ _) ?_
        refine z_put 54 rfl rfl (by first | exact hm | exact hv | exact w1 | exact w3 | exact (kh2 _ (by omega)).trans hm | fail "lk") rfl (mFi rfl) ?_
        refine z_ab a (oMc a wr ph k fed pl fi (q9.length + i + 1)) h2 (mg_eq _ _ _) (fun x hx => by simp only [mSet, if_neg hx]) rfl (fun h3 hm3 kh3 zh3 => ?_)
        refine z_iinc 57 _ rfl rfl rfl rfl (by first | with_reducible exact zi_1 _ | rfl) ?_
        refine z_goto rfl ?_
        refine ih (i + 1) _ h3 (by omega) (by omega) hm3 ((kh3 _ (by omega)).trans hv2) (fun j hj => ?_) ⟨zh3.trans (zh2.trans hF.1), fun x hx => ?_⟩
        · unfold upd
          by_cases e : j = q9.length + i
          · subst e
            rw [if_pos rfl, getD_cat, if_neg (by omega), Nat.add_sub_cancel_left]
          · rw [if_neg (by omega)]
            exact hf j (by omega)
        · have hx1 : x < a ∨ a + 1 ≤ x := hx.1
          have hx2 : x < a + 4 ∨ a + 5 ≤ x := hx.2.1
          exact (kh3 x (by omega)).trans ((kh2 x (by omega)).trans (hF.2 x hx))
  refine z_in [some (.ref a), some (.ref r), none] (by rfl) rfl rfl rfl ?_
  refine z_push 1 (nI 0) rfl rfl rfl ?_
  refine z_istore 2 rfl rfl rfl rfl ?_
  exact loop (l.length + 1) 0 f0 h0 (by omega) (by omega) hm y3 (fun j hj => by rw [getD_apf (by omega)]; exact y4 j (by omega)) FrL.rfl
