/-! the class: Writer, routes and points -/
theorem PgC.rt {h : mH} {p K g st : Nat} {E : List En} {H : List Sh} (a : PgC h p K E H) (hg5 : g < 5) (hst : st < 4) (hg : K = 0 → ∃ l, gP H (gSt g) (decide (g ≠ 4)) st = some l) (hK0 : K ≠ 0 → st = 0) : ∃ (m rc : Nat) (T N A S : Nat → Int32) (v k : Nat), h.2 p = oPg K true p m rc ∧ RoAt h (p + 1) T N A S ∧ v < 2 ^ 32 ∧ T (g * 4 + st) = nI v ∧ byL k v = (rtB K H g st).1 ∧ k ≤ 3 ∧ N (g * 4 + st) = nI k ∧ A (g * 4 + st) = nI (rtB K H g st).2 := by
  rcases a with ⟨hK, m, rc, hd, nx, od, T, N, A, S, a1, a2, a3, a4, a5, a6, a7, a8⟩ | ⟨hK, hK4, hE, hH, m, T, N, A, S, a1, a2, a3, a4, a5⟩
  · subst hK
    obtain ⟨l, hl⟩ := hg rfl
    obtain ⟨b1, ⟨v, b2', b3, b4⟩, b5, b6⟩ := a7 g st l hg5 hst hl
    have e : rtB 0 H g st = (l.map (shV H), gS H l st) := by rw [rtB, if_pos rfl, hl]
    rw [e]
    exact ⟨m, rc, T, N, A, _, v, l.length, a1.1, a3, b2', b3, b4, b1, b5, b6⟩
  · obtain rfl := hK0 hK
    have e : rtB K H g 0 = ([], 0) := by rw [rtB, if_neg hK]
    rw [e]
    have h9 := a5 (g * 4 + 0) (by omega)
    exact ⟨m, 1, T, N, A, S, 0, 0, a1, a4, by decide, h9.1, rfl, by decide, h9.2.1, h9.2.2⟩
theorem byL_len (k v : Nat) : (byL k v).length = k := byF_len k v k 0
theorem rtB_len {h : mH} {p K g st : Nat} {E : List En} {H : List Sh} (a : PgC h p K E H) (hg5 : g < 5) (hst : st < 4) (hg : K = 0 → ∃ l, gP H (gSt g) (decide (g ≠ 4)) st = some l) (hK0 : K ≠ 0 → st = 0) : (rtB K H g st).1.length ≤ 3 := by
  obtain ⟨m, rc, T, N, A, S, v, k, _, _, _, _, h5, h6, _⟩ := a.rt hg5 hst hg hK0
  rw [← h5, byL_len]; exact h6
theorem pb_rt {K st ts n v : Nat} {H : List Sh} (ht : ts < 4) : pbW K H st ts n v = ((rtB K H ts st).1 ++ byL n v, (rtB K H ts st).2) := by
  unfold pbW rtB
  rw [show gSt ts = ts from if_neg (by omega), decide_eq_true (show ts ≠ 4 by omega)]
  split
  · rcases gP H ts true st with _ | l <;> rfl
  · rfl
theorem gh_rt {K st : Nat} {H : List Sh} : ghW K H st = rtB K H 4 st := rfl
set_option maxRecDepth 100000 in
theorem c_shiftTo {d : Nat} {h : mH} {w R p rule st g K : Nat} {l u : List Nat} {E : List En} {H : List Sh} {Q : mP} (hw : WrAt h w R p rule st l u) (hP : PgC h p K E H) (hg5 : g < 5) (hst : st < 4) (hg : K = 0 → ∃ l, gP H (gSt g) (decide (g ≠ 4)) st = some l) (hK0 : K ≠ 0 → st = 0) (hl : l.length + 3 ≤ 128) (hpw : p + 20 ≤ w ∨ w + 5 ≤ p)  (q : ∀ h', WrAt h' w R p rule (rtB K H g st).2 (l ++ (rtB K H g st).1) u → Fr w (w + 3) h h' → Q none h') : mWP (d + 2) 105 [.ref w, .int (nI g)] h Q := by
  obtain ⟨m, rc, T, N, A, S, v, k, hp, hro, hv, hT, hby, hk3, hN, hA⟩ := hP.rt hg5 hst hg hK0
  refine z_in [some (.ref w), some (.int (nI g)), none] (by rfl) rfl rfl rfl ?_
  refine z_iload 1 rfl rfl rfl ?_
  refine z_aload 2 rfl rfl rfl ?_
  refine z_get 5 rfl rfl (by first | exact hw.1 | exact hp | exact hro.1 | exact hro.2.1 | exact hro.2.2.1 | exact hw.2.1.1 | exact hw2 | exact hp2 | exact hro2.1 | exact hro2.2.2.2.1 | fail "lk") rfl ?_
  refine z_cs2 8 rfl rfl rfl (Nat.le_refl _) (Nat.le_refl _) ?_
  refine c_Ro_slotOf ?_
  refine z_istore 9 rfl rfl rfl rfl ?_
  refine z_aload 10 rfl rfl rfl ?_
  refine z_get 13 rfl rfl (by first | exact hw.1 | exact hp | exact hro.1 | exact hro.2.1 | exact hro.2.2.1 | exact hw.2.1.1 | exact hw2 | exact hp2 | exact hro2.1 | exact hro2.2.2.2.1 | fail "lk") rfl ?_
  refine z_aload 14 rfl rfl rfl ?_
  refine z_get 17 rfl rfl (by first | exact hw.1 | exact hp | exact hro.1 | exact hro.2.1 | exact hro.2.2.1 | exact hw.2.1.1 | exact hw2 | exact hp2 | exact hro2.1 | exact hro2.2.2.2.1 | fail "lk") rfl ?_
  refine z_get 20 rfl rfl (by first | exact hw.1 | exact hp | exact hro.1 | exact hro.2.1 | exact hro.2.2.1 | exact hw.2.1.1 | exact hw2 | exact hp2 | exact hro2.1 | exact hro2.2.2.2.1 | fail "lk") rfl ?_
  refine z_get 23 rfl rfl (by first | exact hw.1 | exact hp | exact hro.1 | exact hro.2.1 | exact hro.2.2.1 | exact hw.2.1.1 | exact hw2 | exact hp2 | exact hro2.1 | exact hro2.2.2.2.1 | fail "lk") rfl ?_
  refine z_iload 24 rfl rfl rfl ?_
  refine z_ald 25 rfl rfl (by first | exact hw.1 | exact hp | exact hro.1 | exact hro.2.1 | exact hro.2.2.1 | exact hw.2.1.1 | exact hw2 | exact hp2 | exact hro2.1 | exact hro2.2.2.2.1 | fail "lk") rfl (by omega) (by omega) ?_
  refine z_aload 26 rfl rfl rfl ?_
  refine z_get 29 rfl rfl (by first | exact hw.1 | exact hp | exact hro.1 | exact hro.2.1 | exact hro.2.2.1 | exact hw.2.1.1 | exact hw2 | exact hp2 | exact hro2.1 | exact hro2.2.2.2.1 | fail "lk") rfl ?_
  refine z_get 32 rfl rfl (by first | exact hw.1 | exact hp | exact hro.1 | exact hro.2.1 | exact hro.2.2.1 | exact hw.2.1.1 | exact hw2 | exact hp2 | exact hro2.1 | exact hro2.2.2.2.1 | fail "lk") rfl ?_
  refine z_get 35 rfl rfl (by first | exact hw.1 | exact hp | exact hro.1 | exact hro.2.1 | exact hro.2.2.1 | exact hw.2.1.1 | exact hw2 | exact hp2 | exact hro2.1 | exact hro2.2.2.2.1 | fail "lk") rfl ?_
  refine z_iload 36 rfl rfl rfl ?_
  refine z_ald 37 rfl rfl (by first | exact hw.1 | exact hp | exact hro.1 | exact hro.2.1 | exact hro.2.2.1 | exact hw.2.1.1 | exact hw2 | exact hp2 | exact hro2.1 | exact hro2.2.2.2.1 | fail "lk") rfl (by omega) (by omega) ?_
  refine z_cv2 40 rfl rfl (by first | exact hw.1 | exact hp | exact hro.1 | exact hro.2.1 | exact hro.2.2.1 | exact hw.2.1.1 | exact hw2 | exact hp2 | exact hro2.1 | exact hro2.2.2.2.1 | fail "lk") rfl (Nat.le_refl _) (Nat.le_refl _) ?_
  rw [hT, hN]
  refine w_addNumber hw.2.1 (by decide) (by omega) hv (by omega) (fun h2 hb2 hF => ?_)
  rw [hby] at hb2
  have hw2 : h2.2 w = oWr R w p rule st := (hF.2 w (by omega)).trans hw.1
  have hp2 : h2.2 p = oPg K true p m rc := (hF.2 p (by omega)).trans hp
  have hro2 := hro.e (hF.eqv (lo := p + 1) (hi := p + 1 + 5) (by omega))
  have hu2 := hw.2.2.e (hF.eqv (by omega))
  refine z_aload 41 rfl rfl rfl ?_
  refine z_aload 42 rfl rfl rfl ?_
  refine z_get 45 rfl rfl (by first | exact hw.1 | exact hp | exact hro.1 | exact hro.2.1 | exact hro.2.2.1 | exact hw.2.1.1 | exact hw2 | exact hp2 | exact hro2.1 | exact hro2.2.2.2.1 | fail "lk") rfl ?_
  refine z_get 48 rfl rfl (by first | exact hw.1 | exact hp | exact hro.1 | exact hro.2.1 | exact hro.2.2.1 | exact hw.2.1.1 | exact hw2 | exact hp2 | exact hro2.1 | exact hro2.2.2.2.1 | fail "lk") rfl ?_
  refine z_get 51 rfl rfl (by first | exact hw.1 | exact hp | exact hro.1 | exact hro.2.1 | exact hro.2.2.1 | exact hw.2.1.1 | exact hw2 | exact hp2 | exact hro2.1 | exact hro2.2.2.2.1 | fail "lk") rfl ?_
  refine z_iload 52 rfl rfl rfl ?_
  refine z_ald 53 rfl rfl (by first | exact hw.1 | exact hp | exact hro.1 | exact hro.2.1 | exact hro.2.2.1 | exact hw.2.1.1 | exact hw2 | exact hp2 | exact hro2.1 | exact hro2.2.2.2.1 | fail "lk") rfl (by omega) (by omega) ?_
  rw [hA]
  refine z_put 56 rfl rfl (by first | exact hw.1 | exact hp | exact hro.1 | exact hro.2.1 | exact hro.2.2.1 | exact hw.2.1.1 | exact hw2 | exact hp2 | exact hro2.1 | exact hro2.2.2.2.1 | fail "lk") rfl (mFi rfl) ?_
  obtain ⟨h3, hhh3⟩ : ∃ h9 : mH, h9 = mSet h2 w (oWr R w p rule (rtB K H g st).2) := ⟨_, rfl⟩
  refine z_gen h3 hhh3.symm ?_
  have hr3 : h3.2 w = oWr R w p rule (rtB K H g st).2 := by rw [hhh3]; exact mg_eq _ _ _
  have kh3 : ∀ x, x ≠ w → h3.2 x = h2.2 x := fun x hx => by rw [hhh3]; exact mg_ne hx rfl
  have zh3 : h3.1 = h2.1 := by rw [hhh3]; rfl
  refine z_vret rfl (Nat.le_refl _) (Nat.le_refl _) ?_
  exact q h3 ⟨hr3, hb2.e (fun x x1 x2 => kh3 x (by omega)), hu2.e (fun x x1 x2 => kh3 x (by omega))⟩ ⟨zh3.trans hF.1, fun x hx => (kh3 x (by omega)).trans (hF.2 x (by omega))⟩
set_option maxRecDepth 100000 in
theorem c_finish {d : Nat} {h : mH} {w R p rule st K : Nat} {l u : List Nat} {E : List En} {H : List Sh} {Q : mP} (hw : WrAt h w R p rule st l u) (hP : PgC h p K E H) (hst : st < 4) (hg : K = 0 → ∃ l, gP H 0 false st = some l) (hK0 : K ≠ 0 → st = 0) (hpw : p + 20 ≤ w ∨ w + 5 ≤ p)  (q : ∀ h', WrAt h' w R p rule (ghW K H st).2 (ghW K H st).1 u → Fr w (w + 3) h h' → Q none h') : mWP (d + 3) 103 [.ref w] h Q := by
  refine z_in [some (.ref w)] (by rfl) rfl rfl rfl ?_
  refine z_aload 1 rfl rfl rfl ?_
  refine z_get 4 rfl rfl (by first | exact hw.1 | exact hw.2.1.1 | exact hw2.1 | fail "lk") rfl ?_
  refine z_cv0 7 rfl rfl (by first | exact hw.1 | exact hw.2.1.1 | exact hw2.1 | fail "lk") rfl (Nat.le_refl _) (Nat.le_refl _) ?_
  refine w_clear hw.2.1 (fun h1 hb1 hF1 => ?_)
  have hw2 : WrAt h1 w R p rule st [] u := ⟨(hF1.2 w (by omega)).trans hw.1, hb1, hw.2.2.e (hF1.eqv (by omega))⟩
  refine z_aload 8 rfl rfl rfl ?_
  refine z_push 9 (nI 4) rfl rfl rfl ?_
  refine z_cv1 12 rfl rfl (by first | exact hw.1 | exact hw.2.1.1 | exact hw2.1 | fail "lk") rfl (Nat.le_refl _) (Nat.le_refl _) ?_
  refine c_shiftTo (g := 4) hw2 (hP.e (hF1.eqv (by omega))) (by decide) hst hg hK0 (by decide) hpw (fun h2 hw3 hF2 => ?_)
  refine z_vret rfl (Nat.le_refl _) (Nat.le_refl _) ?_
  exact q h2 hw3 ⟨hF2.1.trans hF1.1, fun x hx => (hF2.2 x hx).trans (hF1.2 x (by omega))⟩
set_option maxRecDepth 100000 in
theorem c_Wr_open {d : Nat} {h : mH} {w R p p0 ru st0 rule st : Nat} {l u : List Nat} {Q : mP} (hw : WrAt h w R p0 ru st0 l u)  (q : ∀ h', WrAt h' w R p rule st [] u → Fr w (w + 3) h h' → Q none h') : mWP (d + 2) 101 [.ref w, .ref p, .int (nI rule), .int (nI st)] h Q := by
  refine z_in [some (.ref w), some (.ref p), some (.int (nI rule)), some (.int (nI st))] (by rfl) rfl rfl rfl ?_
  refine z_aload 1 rfl rfl rfl ?_
  refine z_aload 2 rfl rfl rfl ?_
  refine z_put 5 rfl rfl (by first | exact hw.1 | exact mg_eq _ _ _ | exact hr3 | exact hw3.2.1.1 | fail "lk") rfl (mFo rfl) ?_
  refine z_aload 6 rfl rfl rfl ?_
  refine z_iload 7 rfl rfl rfl ?_
  refine z_put 10 rfl rfl (by first | exact hw.1 | exact mg_eq _ _ _ | exact hr3 | exact hw3.2.1.1 | fail "lk") rfl (mFi rfl) ?_
  refine z_aload 11 rfl rfl rfl ?_
  refine z_iload 12 rfl rfl rfl ?_
  refine z_put 15 rfl rfl (by first | exact hw.1 | exact mg_eq _ _ _ | exact hr3 | exact hw3.2.1.1 | fail "lk") rfl (mFi rfl) ?_
  obtain ⟨h3, hhh3⟩ : ∃ h9 : mH, h9 = mSet (mSet (mSet h w (oWr R w p ru st0)) w (oWr R w p rule st0)) w (oWr R w p rule st) := ⟨_, rfl⟩
  refine z_gen h3 hhh3.symm ?_
  have hr3 : h3.2 w = oWr R w p rule st := by rw [hhh3]; exact mg_eq _ _ _
  have kh3 : ∀ x, x ≠ w → h3.2 x = h.2 x := fun x hx => by rw [hhh3]; rw [mg_ne hx rfl, mg_ne hx rfl, mg_ne hx rfl]
  have zh3 : h3.1 = h.1 := by rw [hhh3]; rfl
  have hw3 : WrAt h3 w R p rule st l u := ⟨hr3, hw.2.1.e (fun x x1 x2 => kh3 x (by omega)), hw.2.2.e (fun x x1 x2 => kh3 x (by omega))⟩
  refine z_aload 16 rfl rfl rfl ?_
  refine z_get 19 rfl rfl (by first | exact hw.1 | exact mg_eq _ _ _ | exact hr3 | exact hw3.2.1.1 | fail "lk") rfl ?_
  refine z_cv0 22 rfl rfl (by first | exact hw.1 | exact mg_eq _ _ _ | exact hr3 | exact hw3.2.1.1 | fail "lk") rfl (Nat.le_refl _) (Nat.le_refl _) ?_
  refine w_clear hw3.2.1 (fun h4 hb4 hF4 => ?_)
  refine z_vret rfl (Nat.le_refl _) (Nat.le_refl _) ?_
  exact q h4 ⟨(hF4.2 w (by omega)).trans hr3, hb4, hw3.2.2.e (hF4.eqv (by omega))⟩ ⟨hF4.1.trans zh3, fun x hx => (hF4.2 x (by omega)).trans (kh3 x (by omega))⟩
set_option maxRecDepth 100000 in
theorem c_put0 {d : Nat} {h : mH} {w R p rule st K x : Nat} {l u : List Nat} {E : List En} {H : List Sh} {Q : mP} (hK : K = 0) (hw : WrAt h w R p rule st l u) (hP : PgC h p K E H) (hW : TbW E H) (hG : Gd K E H) (hs : SOk K H st) (hK0 : K ≠ 0 → st = 0) (hx : x < 1114112) (hl : l.length + 7 ≤ 128) (hpw : p + 20 ≤ w ∨ w + 5 ≤ p)  (q0 : fnd K E x = none → Q (some (.int (nI 0))) h) (q1 : ∀ y, fnd K E x = some y → ∀ h', WrAt h' w R p rule (pbW K H st y.1 y.2.1 y.2.2).2 (l ++ (pbW K H st y.1 y.2.1 y.2.2).1) u → Fr w (w + 3) h h' → Q (some (.int (nI 1))) h') : mWP (d + 4) 104 [.ref w, .int (nI x)] h Q := by
  obtain rfl : K = 0 := hK
  have hP0 := hP
  obtain ⟨m, rc, hd, nx, od, T, N, A, S, a1, a2, a3, a4, a5, a6, a7, a8⟩ : PgC0 h p E H := by rcases hP with h9 | h9; (exact h9.2); exact absurd rfl h9.1
  have hpb : ∀ k, k < E.length → enP E k < 1114112 := fun k hk => nPt_lt (hW.2.2.1 k hk).2.2.2.2
  refine z_in [some (.ref w), some (.int (nI x)), none, none, none] (by rfl) rfl rfl rfl ?_
  refine z_aload 1 rfl rfl rfl ?_
  refine z_get 4 rfl rfl (by first | exact hw.1 | exact a1.1 | exact hw2.1 | exact b1.1 | exact hw2.2.1.1 | fail "lk") rfl ?_
  refine z_iload 5 rfl rfl rfl ?_
  refine z_cv1 8 rfl rfl (by first | exact hw.1 | exact a1.1 | exact hw2.1 | exact b1.1 | exact hw2.2.1.1 | fail "lk") rfl (Nat.le_refl _) (Nat.le_refl _) ?_
  refine c_Pg_slotOf a1.1 a1.2.1 a2 a5 hpb hx ?_
  rcases hfd : ffd (pf2 E x) E.length 0 with _ | k
  · simp only [oI]
    refine z_istore 9 rfl rfl rfl rfl ?_
    refine z_iload 10 rfl rfl rfl ?_
    refine z_jge 13 rfl rfl (fun h9 => absurd h9 (by decide)) (fun _ => ?_)
    refine z_push 14 (nI 0) rfl rfl rfl ?_
    refine z_iretb rfl (Nat.le_refl _) (Nat.le_refl _) (by first | decide | exact bI_01 _) ?_
    exact q0 (by rw [fnd, if_pos rfl, hfd]; rfl)
  · simp only [oI]
    have hkl : k < E.length := by have := ffd_lt hfd; omega
    have hE1 := hW.1
    have hfn : fnd 0 E x = some (enS E k, enN E k, enT E k) := by rw [fnd, if_pos rfl, hfd]; rfl
    obtain ⟨w1, w2, w3, w4, w5⟩ := hW.2.2.1 k hkl
    have w7 := hW.tx hkl
    have hlg : ∃ l, gP H (gSt (enS E k)) (decide (enS E k ≠ 4)) st = some l := by
      obtain ⟨l9, h9, _⟩ := (hG rfl).1 st x _ _ _ (hs.2 rfl) hfn
      exact ⟨l9, by rw [show gSt (enS E k) = enS E k from if_neg (by omega), decide_eq_true (show enS E k ≠ 4 by omega)]; exact h9⟩
    have hrl := rtB_len hP0 (g := enS E k) (by omega) hs.1 (fun _ => hlg) hK0
    refine z_istore 9 rfl rfl rfl rfl ?_
    refine z_iload 10 rfl rfl rfl ?_
    refine z_zge 13 rfl rfl (by omega) (fun _ => ?_) (fun h9 => absurd h9 (by omega))
    refine z_aload 16 rfl rfl rfl ?_
    refine z_aload 17 rfl rfl rfl ?_
    refine z_get 20 rfl rfl (by first | exact hw.1 | exact a1.1 | exact hw2.1 | exact b1.1 | exact hw2.2.1.1 | fail "lk") rfl ?_
    refine z_iload 21 rfl rfl rfl ?_
    refine z_cv1 24 rfl rfl (by first | exact hw.1 | exact a1.1 | exact hw2.1 | exact b1.1 | exact hw2.2.1.1 | fail "lk") rfl (Nat.le_refl _) (Nat.le_refl _) ?_
    refine c_Pg_stateAt a1.1 a1.2.1 (by decide) hkl ?_
    refine z_cv1 27 rfl rfl (by first | exact hw.1 | exact a1.1 | exact hw2.1 | exact b1.1 | exact hw2.2.1.1 | fail "lk") rfl (Nat.le_refl _) (Nat.le_refl _) ?_
    refine c_shiftTo hw hP0 (by omega) hs.1 (fun _ => hlg) hK0 (by omega) hpw (fun h2 hw2 hF2 => ?_)
    have hP2 := hP0.e (hF2.eqv (by omega))
    have b1 : TbP h2 p true m rc E H hd nx := a1.e (hF2.eqv (by omega))
    refine z_aload 28 rfl rfl rfl ?_
    refine z_get 31 rfl rfl (by first | exact hw.1 | exact a1.1 | exact hw2.1 | exact b1.1 | exact hw2.2.1.1 | fail "lk") rfl ?_
    refine z_get 34 rfl rfl (by first | exact hw.1 | exact a1.1 | exact hw2.1 | exact b1.1 | exact hw2.2.1.1 | fail "lk") rfl ?_
    refine z_zne 37 rfl rfl (by omega) (fun h9 => absurd h9 (by omega)) (fun _ => ?_)
    refine z_aload 38 rfl rfl rfl ?_
    refine z_get 41 rfl rfl (by first | exact hw.1 | exact a1.1 | exact hw2.1 | exact b1.1 | exact hw2.2.1.1 | fail "lk") rfl ?_
    refine z_iload 42 rfl rfl rfl ?_
    refine z_cv1 45 rfl rfl (by first | exact hw.1 | exact a1.1 | exact hw2.1 | exact b1.1 | exact hw2.2.1.1 | fail "lk") rfl (Nat.le_refl _) (Nat.le_refl _) ?_
    refine c_Pg_textAt b1.1 b1.2.1 (by decide) hkl (by omega) (by omega) ?_
    refine z_goto rfl ?_
    refine z_lstore 60 rfl rfl rfl rfl ?_
    refine z_aload 61 rfl rfl rfl ?_
    refine z_get 64 rfl rfl (by first | exact hw.1 | exact a1.1 | exact hw2.1 | exact b1.1 | exact hw2.2.1.1 | fail "lk") rfl ?_
    refine z_lload 65 rfl rfl rfl ?_
    refine z_l2i 66 rfl rfl ?_
    refine z_lload 67 rfl rfl rfl ?_
    refine z_push 69 (nI 32) rfl rfl rfl ?_
    refine z_lsh 70 _ rfl rfl (LT_hi (by omega) (by omega)) ?_
    refine z_l2i 71 rfl rfl ?_
    refine z_cv2 74 rfl rfl (by first | exact hw.1 | exact a1.1 | exact hw2.1 | exact b1.1 | exact hw2.2.1.1 | fail "lk") rfl (Nat.le_refl _) (Nat.le_refl _) ?_
    rw [LT_lo]
    rw [lN_i]
    refine w_addNumber hw2.2.1 (by decide) (by omega) (by omega) (by rw [List.length_append]; omega) (fun h3 hb3 hF3 => ?_)
    refine z_push 75 (nI 1) rfl rfl rfl ?_
    refine z_iretb rfl (Nat.le_refl _) (Nat.le_refl _) (by first | decide | exact bI_01 _) ?_
    have e9 : pbW 0 H st (enS E k) (enN E k) (enT E k) = ((rtB 0 H (enS E k) st).1 ++ byL (enN E k) (enT E k), (rtB 0 H (enS E k) st).2) := pb_rt (by omega)
    have q9 := q1 ((enS E k), (enN E k), (enT E k)) hfn h3
    rw [e9, ← List.append_assoc] at q9
    exact q9 ⟨(hF3.2 w (by omega)).trans hw2.1, hb3, hw2.2.2.e (hF3.eqv (by omega))⟩ ⟨hF3.1.trans hF2.1, fun x hx => (hF3.2 x (by omega)).trans (hF2.2 x (by omega))⟩
set_option maxRecDepth 100000 in
theorem c_putK {d : Nat} {h : mH} {w R p rule st K x : Nat} {l u : List Nat} {E : List En} {H : List Sh} {Q : mP} (hK : K ≠ 0) (hw : WrAt h w R p rule st l u) (hP : PgC h p K E H) (hW : TbW E H) (hG : Gd K E H) (hs : SOk K H st) (hK0 : K ≠ 0 → st = 0) (hx : x < 1114112) (hl : l.length + 7 ≤ 128) (hpw : p + 20 ≤ w ∨ w + 5 ≤ p)  (q0 : fnd K E x = none → Q (some (.int (nI 0))) h) (q1 : ∀ y, fnd K E x = some y → ∀ h', WrAt h' w R p rule (pbW K H st y.1 y.2.1 y.2.2).2 (l ++ (pbW K H st y.1 y.2.1 y.2.2).1) u → Fr w (w + 3) h h' → Q (some (.int (nI 1))) h') : mWP (d + 4) 104 [.ref w, .int (nI x)] h Q := by
  have hP0 := hP
  obtain ⟨hE, hH, m, T, N, A, S, a1, a2, a3, a4, a5⟩ : PgCK h p K E H := by rcases hP with h9 | h9; (exact absurd h9.1 hK); exact h9.2.2
  have hK4 : K < 4 := by rcases hP0 with h9 | h9; (omega); exact h9.2.1
  have hfn : fnd K E x = some (0, (fmT K x).1, (fmT K x).2) := by rw [fnd, if_neg hK]
  have hfb := fnd_b hW hx hfn
  have hrl : (rtB K H 0 st).1.length ≤ 3 := rtB_len hP0 (by decide) hs.1 (fun h9 => absurd h9 hK) hK0
  refine z_in [some (.ref w), some (.int (nI x)), none, none, none] (by rfl) rfl rfl rfl ?_
  refine z_aload 1 rfl rfl rfl ?_
  refine z_get 4 rfl rfl (by first | exact hw.1 | exact a1 | exact hw2.1 | exact b1 | exact hw2.2.1.1 | fail "lk") rfl ?_
  refine z_iload 5 rfl rfl rfl ?_
  refine z_cv1 8 rfl rfl (by first | exact hw.1 | exact a1 | exact hw2.1 | exact b1 | exact hw2.2.1.1 | fail "lk") rfl (Nat.le_refl _) (Nat.le_refl _) ?_
  refine c_Pg_slotOfK a1 hK hK4 ?_
  · 
    refine z_istore 9 rfl rfl rfl rfl ?_
    refine z_iload 10 rfl rfl rfl ?_
    refine z_zge 13 rfl rfl (by omega) (fun _ => ?_) (fun h9 => absurd h9 (by omega))
    refine z_aload 16 rfl rfl rfl ?_
    refine z_aload 17 rfl rfl rfl ?_
    refine z_get 20 rfl rfl (by first | exact hw.1 | exact a1 | exact hw2.1 | exact b1 | exact hw2.2.1.1 | fail "lk") rfl ?_
    refine z_iload 21 rfl rfl rfl ?_
    refine z_cv1 24 rfl rfl (by first | exact hw.1 | exact a1 | exact hw2.1 | exact b1 | exact hw2.2.1.1 | fail "lk") rfl (Nat.le_refl _) (Nat.le_refl _) ?_
    refine c_Pg_stateAt0 a1 a2 ?_
    refine z_cv1 27 rfl rfl (by first | exact hw.1 | exact a1 | exact hw2.1 | exact b1 | exact hw2.2.1.1 | fail "lk") rfl (Nat.le_refl _) (Nat.le_refl _) ?_
    refine c_shiftTo hw hP0 (by omega) hs.1 (fun h9 => absurd h9 hK) hK0 (by omega) hpw (fun h2 hw2 hF2 => ?_)
    have hP2 := hP0.e (hF2.eqv (by omega))
    have b1 : h2.2 p = oPg K true p m 1 := (hF2.2 p (by omega)).trans a1
    refine z_aload 28 rfl rfl rfl ?_
    refine z_get 31 rfl rfl (by first | exact hw.1 | exact a1 | exact hw2.1 | exact b1 | exact hw2.2.1.1 | fail "lk") rfl ?_
    refine z_get 34 rfl rfl (by first | exact hw.1 | exact a1 | exact hw2.1 | exact b1 | exact hw2.2.1.1 | fail "lk") rfl ?_
    refine z_zne 37 rfl rfl (by omega) (fun _ => ?_) (fun h9 => absurd h9 (by omega))
    refine z_aload 49 rfl rfl rfl ?_
    refine z_get 52 rfl rfl (by first | exact hw.1 | exact a1 | exact hw2.1 | exact b1 | exact hw2.2.1.1 | fail "lk") rfl ?_
    refine z_get 55 rfl rfl (by first | exact hw.1 | exact a1 | exact hw2.1 | exact b1 | exact hw2.2.1.1 | fail "lk") rfl ?_
    refine z_iload 56 rfl rfl rfl ?_
    refine z_cs2 59 rfl rfl rfl (Nat.le_refl _) (Nat.le_refl _) ?_
    refine c_textOf (by omega) (by omega) hx ?_
    refine z_lstore 60 rfl rfl rfl rfl ?_
    refine z_aload 61 rfl rfl rfl ?_
    refine z_get 64 rfl rfl (by first | exact hw.1 | exact a1 | exact hw2.1 | exact b1 | exact hw2.2.1.1 | fail "lk") rfl ?_
    refine z_lload 65 rfl rfl rfl ?_
    refine z_l2i 66 rfl rfl ?_
    refine z_lload 67 rfl rfl rfl ?_
    refine z_push 69 (nI 32) rfl rfl rfl ?_
    refine z_lsh 70 _ rfl rfl (LT_hi (by omega) (by omega)) ?_
    refine z_l2i 71 rfl rfl ?_
    refine z_cv2 74 rfl rfl (by first | exact hw.1 | exact a1 | exact hw2.1 | exact b1 | exact hw2.2.1.1 | fail "lk") rfl (Nat.le_refl _) (Nat.le_refl _) ?_
    rw [LT_lo]
    rw [lN_i]
    refine w_addNumber hw2.2.1 (by decide) (by omega) (by omega) (by rw [List.length_append]; omega) (fun h3 hb3 hF3 => ?_)
    refine z_push 75 (nI 1) rfl rfl rfl ?_
    refine z_iretb rfl (Nat.le_refl _) (Nat.le_refl _) (by first | decide | exact bI_01 _) ?_
    have e9 : pbW K H st 0 (fmT K x).1 (fmT K x).2 = ((rtB K H 0 st).1 ++ byL (fmT K x).1 (fmT K x).2, (rtB K H 0 st).2) := pb_rt (by omega)
    have q9 := q1 (0, (fmT K x).1, (fmT K x).2) hfn h3
    rw [e9, ← List.append_assoc] at q9
    exact q9 ⟨(hF3.2 w (by omega)).trans hw2.1, hb3, hw2.2.2.e (hF3.eqv (by omega))⟩ ⟨hF3.1.trans hF2.1, fun x hx => (hF3.2 x (by omega)).trans (hF2.2 x (by omega))⟩
theorem c_put {d : Nat} {h : mH} {w R p rule st K x : Nat} {l u : List Nat} {E : List En} {H : List Sh} {Q : mP} (hw : WrAt h w R p rule st l u) (hP : PgC h p K E H) (hW : TbW E H) (hG : Gd K E H) (hs : SOk K H st) (hK0 : K ≠ 0 → st = 0) (hx : x < 1114112) (hl : l.length + 7 ≤ 128) (hpw : p + 20 ≤ w ∨ w + 5 ≤ p) (q0 : fnd K E x = none → Q (some (.int (nI 0))) h) (q1 : ∀ y, fnd K E x = some y → ∀ h', WrAt h' w R p rule (pbW K H st y.1 y.2.1 y.2.2).2 (l ++ (pbW K H st y.1 y.2.1 y.2.2).1) u → Fr w (w + 3) h h' → Q (some (.int (nI 1))) h') : mWP (d + 4) 104 [.ref w, .int (nI x)] h Q := by
  by_cases hK : K = 0
  · exact c_put0 hK hw hP hW hG hs hK0 hx hl hpw q0 q1
  · exact c_putK hK hw hP hW hG hs hK0 hx hl hpw q0 q1
