/-! the class: machines that write -/
theorem sgW_k0 {K sg st : Nat} {E : List En} {H : List Sh} (h : K ≠ 0 → st = 0) : K ≠ 0 → (sgW K E H sg st).2 = 0 := fun hK => by
  unfold sgW
  split
  · exact pb_k0 h hK
  · exact h hK
theorem faX_k0 {g : Nat → Nat → List Nat × Nat} {l : List Nat} (hg : ∀ x, (g x 0).2 = 0) : ∀ (m k : Nat), (faX g l m k 0).2 = 0
  | 0, _ => rfl
  | m + 1, k => by rw [faX]; show (faX g l m (k + 1) (g (l.getD k 0) 0).2).2 = 0; rw [hg]; exact faX_k0 hg m (k + 1)
theorem fa_k0 {F : List Fb} {K : Nat} {E : List En} {H : List Sh} (hK : K ≠ 0) : ∀ (n pt : Nat), (fa F K E H n pt 0).2 = 0
  | 0, pt => by
    rw [fa]
    split
    · exact pb_k0 (fun _ => rfl) hK
    · rfl
  | n + 1, pt => by
    rw [fa]
    split
    · exact pb_k0 (fun _ => rfl) hK
    · split
      · rfl
      · exact faX_k0 (fun x => fa_k0 hK n x) _ _
theorem wp1_k0 {F : List Fb} {K rule sg pt st : Nat} {E : List En} {H : List Sh} (h : K ≠ 0 → st = 0) {y : List Nat × Nat} (hy : wp1 F K E H rule sg pt st = some y) : K ≠ 0 → y.2 = 0 := fun hK => by
  unfold wp1 at hy
  split at hy
  · cases hy; exact pb_k0 h hK
  · split at hy
    · cases hy; exact sgW_k0 h hK
    · split at hy
      · cases hy; exact h hK
      · split at hy
        · cases hy; rw [h hK]; exact fa_k0 hK _ _
        · cases hy
theorem wl1_k0 {K rule sg u st : Nat} {E : List En} {H : List Sh} (h : K ≠ 0 → st = 0) {y : List Nat × Nat} (hy : wl1 K E H rule sg u st = some y) : K ≠ 0 → y.2 = 0 := fun hK => by
  unfold wl1 at hy
  split at hy
  · cases hy; exact sgW_k0 h hK
  · split at hy
    · cases hy; exact h hK
    · split at hy
      · cases hy; exact h hK
      · cases hy
theorem wl1_r4 {K rule sg u st : Nat} {E : List En} {H : List Sh} {y : List Nat × Nat} (hy : wl1 K E H rule sg u st = some y) : rule ≠ 4 := fun h4 => by
  subst h4
  unfold wl1 at hy
  rw [if_neg (by decide), if_neg (by decide), if_neg (fun h9 => absurd h9.1 (by decide))] at hy
  cases hy
theorem wp1_len1 {F : List Fb} {K rule sg pt st : Nat} {E : List En} {H : List Sh} (hW : TbW E H) (hs : sg < 1114112) (hp : pt < 1114112) (hr : rule ≠ 4) {y : List Nat × Nat} (h : wp1 F K E H rule sg pt st = some y) : y.1.length ≤ 10 := by
  unfold wp1 at h
  split at h
  · rename_i x hx
    cases h
    exact pbW_len (fnd_b hW hp hx).2.2.1
  · split at h
    · cases h; exact sgW_len hW hs
    · split at h
      · cases h; exact Nat.zero_le _
      · rw [if_neg (fun h9 => hr h9.1)] at h
        cases h
def WEnv (h : mH) (R p K : Nat) (E : List En) (H : List Sh) (F : List Fb) (rule rs ws : Nat) : Prop := RuAt h R rs ws F ∧ PgC h p K E H ∧ TbW E H ∧ Gd K E H ∧ FbW F ∧ (∀ x, Fdp F 40 x) ∧ (∀ x, fbN F 40 x ≤ 16) ∧ ws < 1114112 ∧ rule < 5
theorem WEnv.e {h h' : mH} {R p K : Nat} {E : List En} {H : List Sh} {F : List Fb} {rule rs ws : Nat} (x : WEnv h R p K E H F rule rs ws) (f : Eqv R (R + 5) h h') (g : Eqv p (p + 20) h h') : WEnv h' R p K E H F rule rs ws := ⟨x.1.e f, x.2.1.e g, x.2.2⟩
def tlW (F : List Fb) (K : Nat) (E : List En) (H : List Sh) (rule sg v st : Nat) : Option (Nat × List Nat × List Nat) := if 55296 ≤ v ∧ v ≤ 56319 then some (st, [v], []) else match (if 56320 ≤ v ∧ v ≤ 57343 then wl1 K E H rule sg v st else wp1 F K E H rule sg v st) with
  | none => none
  | some z => some (z.2, [], z.1)
theorem wsL_tl (F : List Fb) (K : Nat) (E : List En) (H : List Sh) (rule sg a v : Nat) (y : List Nat × Nat) : wsL F K E H rule sg a (some v) y = match tlW F K E H rule sg v y.2 with
  | none => (true, a, y.2, [], y.1)
  | some t => (false, a, t.1, t.2.1, y.1 ++ t.2.2) := by
  unfold wsL tlW
  simp only
  by_cases e : 55296 ≤ v ∧ v ≤ 56319
  · rw [if_pos e, if_pos e]
    show _ = (false, a, y.2, [v], y.1 ++ [])
    rw [List.append_nil]
  · rw [if_neg e, if_neg e]
    generalize (if 56320 ≤ v ∧ v ≤ 57343 then wl1 K E H rule sg v y.2 else wp1 F K E H rule sg v y.2) = z
    cases z <;> rfl
set_option maxRecDepth 100000 in
theorem c_Mc_writeOut {d : Nat} {h : mH} {a R p : Nat} {wr : Bool} {ph : Int32} {rule sr pn sw : Nat} {ks : List Nat} {fed pl fi : Nat} {q9 : List Nat} {K rs ws : Nat} {E : List En} {H : List Sh} {F : List Fb} {pt pl2 : Nat} {ux : Int32} {Q : mP} (hM : McAt h a R p wr ph rule sr pn sw ks fed pl fi q9) (hE : WEnv h R p K E H F rule rs ws) (hs : SOk K H sw) (hK0 : K ≠ 0 → sw = 0) (hRa : R + 5 ≤ a) (hpa : p + 20 ≤ a ∨ a + 12 ≤ p) (hpt : pt < 1114112) (hq : ∀ y, wp1 F K E H rule ws pt sw = some y → y.1.length ≤ 128 → q9.length + y.1.length ≤ 429)  (q0 : wp1 F K E H rule ws pt sw = none → ∀ h', McAt h' a R p wr (nI 2) rule sr pn sw [] fed pl2 fi q9 → Fr a (a + 12) h h' → Q (some (.int (-10))) h') (q1 : ∀ y, wp1 F K E H rule ws pt sw = some y → ∀ h', McAt h' a R p wr ph rule sr pn y.2 ks fed pl fi (q9 ++ y.1) → Fr a (a + 12) h h' → Q (some (.int (nI (q9.length + y.1.length)))) h') : mWP (d + 8) 32 [.ref a, .int (nI pt), .int ux, .int (nI pl2)] h Q := by
  obtain ⟨x1, x2, ⟨bl, x3⟩, x4, ⟨mal9, x5⟩, l, u, x6⟩ := id hM
  obtain ⟨hR, hP, hW, hG, hFW, hFd, hFN, hws, hru⟩ := id hE
  refine z_in [some (.ref a), some (.int (nI pt)), some (.int ux), some (.int (nI pl2))] (by rfl) rfl rfl rfl ?_
  refine z_aload 1 rfl rfl rfl ?_
  refine z_get 4 rfl rfl (by first | exact x1 | exact x6.1 | exact h1x | exact hw1.1 | exact hm2 | fail "lk") rfl ?_
  refine z_iload 5 rfl rfl rfl ?_
  refine z_iload 6 rfl rfl rfl ?_
  refine z_cv2 9 rfl rfl (by first | exact x1 | exact x6.1 | exact h1x | exact hw1.1 | exact hm2 | fail "lk") rfl (Nat.le_refl _) (Nat.le_refl _) ?_
  refine c_write x6 hR hP hW hG hs hK0 hFW hFd hFN hws hru (by omega) (by omega) (by omega) (fun hn h1 u1 hw1 hF1 => ?_) (fun y hy h1 u1 hw1 hF1 => ?_)
  · have h1x := (hF1.2 a (by omega)).trans x1
    refine z_zne 12 rfl rfl (by omega) (fun h9 => absurd h9 (by omega)) (fun _ => ?_)
    refine z_aload 13 rfl rfl rfl ?_
    refine z_iload 14 rfl rfl rfl ?_
    refine z_push 16 (-10) rfl rfl rfl ?_
    refine z_cv2 19 rfl rfl (by first | exact x1 | exact x6.1 | exact h1x | exact hw1.1 | exact hm2 | fail "lk") rfl (Nat.le_refl _) (Nat.le_refl _) ?_
    refine c_Mc_stopAt (wr := wr) (ph := ph) (ks := ks) (fed := fed) (pl := pl) (fi := fi) (q9 := q9) (rule := rule) (sr := sr) (pn := pn) (sw := sw) (p := p) (R := R) ⟨h1x, x2.e (hF1.2 _ (by omega)), ⟨bl, x3.e (fun y y1 y2 => hF1.2 y (by omega))⟩, x4.e (hF1.2 _ (by omega)), ⟨mal9, x5.e (fun y y1 y2 => hF1.2 y (by omega))⟩, [], u1, hw1⟩ (fun h2 hM2 hF2 => ?_)
    refine z_ireti rfl (Nat.le_refl _) (Nat.le_refl _) ?_
    exact q0 hn h2 hM2 ⟨hF2.1.trans hF1.1, fun x hx => (hF2.2 x (by omega)).trans (hF1.2 x (by omega))⟩
  · have h1x := (hF1.2 a (by omega)).trans x1
    refine z_zne 12 rfl rfl (by omega) (fun _ => ?_) (fun h9 => absurd h9 (by omega))
    refine z_aload 21 rfl rfl rfl ?_
    refine z_aload 22 rfl rfl rfl ?_
    refine z_get 25 rfl rfl (by first | exact x1 | exact x6.1 | exact h1x | exact hw1.1 | exact hm2 | fail "lk") rfl ?_
    refine z_get 28 rfl rfl (by first | exact x1 | exact x6.1 | exact h1x | exact hw1.1 | exact hm2 | fail "lk") rfl ?_
    refine z_cv1 31 rfl rfl (by first | exact x1 | exact x6.1 | exact h1x | exact hw1.1 | exact hm2 | fail "lk") rfl (Nat.le_refl _) (Nat.le_refl _) ?_
    refine c_Mc_pour h1x (x4.e (hF1.2 _ (by omega))) hw1.2.1 (by decide) (hq y hy hw1.2.1.2.1) (by omega) (fun h2 hm2 hg2 hF2 => ?_)
    have hF2x : ∀ x, (x < a ∨ a + 1 ≤ x) → (x < a + 4 ∨ a + 5 ≤ x) → h2.2 x = h1.2 x := fun x x1 x2 => hF2.2 x ⟨x1, x2, trivial⟩
    refine z_aload 32 rfl rfl rfl ?_
    refine z_get 35 rfl rfl (by first | exact x1 | exact x6.1 | exact h1x | exact hw1.1 | exact hm2 | fail "lk") rfl ?_
    refine z_ireti rfl (Nat.le_refl _) (Nat.le_refl _) ?_
    exact q1 y hy h2 ⟨by rw [List.length_append]; exact hm2, x2.e ((hF2x _ (by omega) (by omega)).trans (hF1.2 _ (by omega))), ⟨bl, x3.e (fun z y1 y2 => (hF2x z (by omega) (by omega)).trans (hF1.2 z (by omega)))⟩, hg2, ⟨mal9, x5.e (fun z y1 y2 => (hF2x z (by omega) (by omega)).trans (hF1.2 z (by omega)))⟩, _, u1, hw1.e (fun z y1 y2 => hF2x z (by omega) (by omega))⟩ ⟨hF2.1.trans hF1.1, fun x hx => (hF2x x (by omega) (by omega)).trans (hF1.2 x (by omega))⟩
set_option maxRecDepth 100000 in
theorem c_Mc_writeOutL {d : Nat} {h : mH} {a R p : Nat} {wr : Bool} {ph : Int32} {rule sr pn sw : Nat} {ks : List Nat} {fed pl fi : Nat} {q9 : List Nat} {K rs ws : Nat} {E : List En} {H : List Sh} {F : List Fb} {x pl2 : Nat} {Q : mP} (hM : McAt h a R p wr ph rule sr pn sw ks fed pl fi q9) (hE : WEnv h R p K E H F rule rs ws) (hs : SOk K H sw) (hK0 : K ≠ 0 → sw = 0) (hRa : R + 5 ≤ a) (hpa : p + 20 ≤ a ∨ a + 12 ≤ p) (hx : x < 65536) (hq : ∀ y, wl1 K E H rule ws x sw = some y → y.1.length ≤ 128 → q9.length + y.1.length ≤ 429)  (q0 : wl1 K E H rule ws x sw = none → ∀ h', McAt h' a R p wr (nI 2) rule sr pn sw [] fed pl2 fi q9 → Fr a (a + 12) h h' → Q (some (.int (-10))) h') (q1 : ∀ y, wl1 K E H rule ws x sw = some y → ∀ h', McAt h' a R p wr ph rule sr pn y.2 ks fed pl fi (q9 ++ y.1) → Fr a (a + 12) h h' → Q (some (.int (nI (q9.length + y.1.length)))) h') : mWP (d + 8) 32 [.ref a, .int (-1), .int (nI x), .int (nI pl2)] h Q := by
  obtain ⟨x1, x2, ⟨bl, x3⟩, x4, ⟨mal9, x5⟩, l, u, x6⟩ := id hM
  obtain ⟨hR, hP, hW, hG, hFW, hFd, hFN, hws, hru⟩ := id hE
  refine z_in [some (.ref a), some (.int (-1)), some (.int (nI x)), some (.int (nI pl2))] (by rfl) rfl rfl rfl ?_
  refine z_aload 1 rfl rfl rfl ?_
  refine z_get 4 rfl rfl (by first | exact x1 | exact x6.1 | exact h1x | exact hw1.1 | exact hm2 | fail "lk") rfl ?_
  refine z_iload 5 rfl rfl rfl ?_
  refine z_iload 6 rfl rfl rfl ?_
  refine z_cv2 9 rfl rfl (by first | exact x1 | exact x6.1 | exact h1x | exact hw1.1 | exact hm2 | fail "lk") rfl (Nat.le_refl _) (Nat.le_refl _) ?_
  refine c_writeL x6 hR hP hW hG hs hK0 hFW hFd hFN hws hru (by omega) (by omega) (by omega) (fun hn h1 u1 hw1 hF1 => ?_) (fun y hy h1 u1 hw1 hF1 => ?_)
  · have h1x := (hF1.2 a (by omega)).trans x1
    refine z_zne 12 rfl rfl (by omega) (fun h9 => absurd h9 (by omega)) (fun _ => ?_)
    refine z_aload 13 rfl rfl rfl ?_
    refine z_iload 14 rfl rfl rfl ?_
    refine z_push 16 (-10) rfl rfl rfl ?_
    refine z_cv2 19 rfl rfl (by first | exact x1 | exact x6.1 | exact h1x | exact hw1.1 | exact hm2 | fail "lk") rfl (Nat.le_refl _) (Nat.le_refl _) ?_
    refine c_Mc_stopAt (wr := wr) (ph := ph) (ks := ks) (fed := fed) (pl := pl) (fi := fi) (q9 := q9) (rule := rule) (sr := sr) (pn := pn) (sw := sw) (p := p) (R := R) ⟨h1x, x2.e (hF1.2 _ (by omega)), ⟨bl, x3.e (fun y y1 y2 => hF1.2 y (by omega))⟩, x4.e (hF1.2 _ (by omega)), ⟨mal9, x5.e (fun y y1 y2 => hF1.2 y (by omega))⟩, [], u1, hw1⟩ (fun h2 hM2 hF2 => ?_)
    refine z_ireti rfl (Nat.le_refl _) (Nat.le_refl _) ?_
    exact q0 hn h2 hM2 ⟨hF2.1.trans hF1.1, fun x hx => (hF2.2 x (by omega)).trans (hF1.2 x (by omega))⟩
  · have h1x := (hF1.2 a (by omega)).trans x1
    refine z_zne 12 rfl rfl (by omega) (fun _ => ?_) (fun h9 => absurd h9 (by omega))
    refine z_aload 21 rfl rfl rfl ?_
    refine z_aload 22 rfl rfl rfl ?_
    refine z_get 25 rfl rfl (by first | exact x1 | exact x6.1 | exact h1x | exact hw1.1 | exact hm2 | fail "lk") rfl ?_
    refine z_get 28 rfl rfl (by first | exact x1 | exact x6.1 | exact h1x | exact hw1.1 | exact hm2 | fail "lk") rfl ?_
    refine z_cv1 31 rfl rfl (by first | exact x1 | exact x6.1 | exact h1x | exact hw1.1 | exact hm2 | fail "lk") rfl (Nat.le_refl _) (Nat.le_refl _) ?_
    refine c_Mc_pour h1x (x4.e (hF1.2 _ (by omega))) hw1.2.1 (by decide) (hq y hy hw1.2.1.2.1) (by omega) (fun h2 hm2 hg2 hF2 => ?_)
    have hF2x : ∀ x, (x < a ∨ a + 1 ≤ x) → (x < a + 4 ∨ a + 5 ≤ x) → h2.2 x = h1.2 x := fun x x1 x2 => hF2.2 x ⟨x1, x2, trivial⟩
    refine z_aload 32 rfl rfl rfl ?_
    refine z_get 35 rfl rfl (by first | exact x1 | exact x6.1 | exact h1x | exact hw1.1 | exact hm2 | fail "lk") rfl ?_
    refine z_ireti rfl (Nat.le_refl _) (Nat.le_refl _) ?_
    exact q1 y hy h2 ⟨by rw [List.length_append]; exact hm2, x2.e ((hF2x _ (by omega) (by omega)).trans (hF1.2 _ (by omega))), ⟨bl, x3.e (fun z y1 y2 => (hF2x z (by omega) (by omega)).trans (hF1.2 z (by omega)))⟩, hg2, ⟨mal9, x5.e (fun z y1 y2 => (hF2x z (by omega) (by omega)).trans (hF1.2 z (by omega)))⟩, _, u1, hw1.e (fun z y1 y2 => hF2x z (by omega) (by omega))⟩ ⟨hF2.1.trans hF1.1, fun x hx => (hF2x x (by omega) (by omega)).trans (hF1.2 x (by omega))⟩
set_option maxRecDepth 100000 in
theorem c_aU_t {d : Nat} {h : mH} {a R p : Nat} {wr : Bool} {ph : Int32} {rule sr pn sw : Nat} {fed pl fi : Nat} {q9 : List Nat}  {K rs ws : Nat} {E : List En} {H : List Sh} {F : List Fb} {v : Nat} {Q : mP} (hM : McAt h a R p wr ph rule sr pn sw [] fed pl fi q9) (hE : WEnv h R p K E H F rule rs ws) (hs : SOk K H sw) (hK0 : K ≠ 0 → sw = 0) (hRa : R + 5 ≤ a) (hpa : p + 20 ≤ a ∨ a + 12 ≤ p) (hv : v < 65536) (hf1 : 1 ≤ fed) (hq : ∀ t, tlW F K E H rule ws v sw = some t → t.2.2.length ≤ 128 → q9.length + t.2.2.length ≤ 429) (q1 : tlW F K E H rule ws v sw = none → ∀ h', McAt h' a R p wr (nI 2) rule sr pn sw [] fed (fed - 1) fi q9 → Fr a (a + 12) h h' → Q (some (.int (-10))) h') (q0 : ∀ t, tlW F K E H rule ws v sw = some t → ∀ h', McAt h' a R p wr ph rule sr pn t.1 t.2.1 fed pl fi (q9 ++ t.2.2) → Fr a (a + 12) h h' → Q (some (.int (nI (q9.length + t.2.2.length)))) h') : mZ (d + 8) tk_30 0 0 Q 74 [some (.ref a), some (.int (nI v))] [] h 0 0 := by
  obtain ⟨x1, x2, ⟨bl, x3⟩, x4, ⟨mal9, x5⟩, l, u, x6⟩ := id hM
  obtain ⟨hR, hP, hW, hG, hFW, hFd, hFN, hws, hru⟩ := id hE
  obtain ⟨k4, kf, k5, k6⟩ := id x2
  refine z_iload 75 rfl rfl rfl ?_
  refine z_cs1 78 rfl rfl rfl (Nat.le_refl _) (Nat.le_refl _) ?_
  refine c_isHighHalf ?_
  rw [jHigh_n (by omega)]
  first | refine z_beq 81 rfl rfl (fun hc78 => ?_) (fun hc78 => ?_)
  · have hnh := of_decide_eq_false hc78
    refine z_aload 99 rfl rfl rfl ?_
    refine z_iload 100 rfl rfl rfl ?_
    refine z_cs1 103 rfl rfl rfl (Nat.le_refl _) (Nat.le_refl _) ?_
    refine c_isHalf ?_
    rw [jHalf_n (by omega)]
    first | refine z_beq 106 rfl rfl (fun hc103 => ?_) (fun hc103 => ?_)
    · have hlf := of_decide_eq_false hc103
      refine z_iload 111 rfl rfl rfl ?_
      refine z_iload 112 rfl rfl rfl ?_
      refine z_aload 113 rfl rfl rfl ?_
      refine z_get 116 rfl rfl (by first | exact x1 | exact k5 | exact (kh1 _ (by omega)).trans x1 | exact hc2 | fail "lk") rfl ?_
      refine z_push 117 (nI 1) rfl rfl rfl ?_
      refine z_bop 118 _ rfl rfl (by first | with_reducible exact zb_1 (by omega) | exact zd_1 _ _) ?_
      refine z_cv3 121 rfl rfl (by first | exact x1 | exact k5 | exact (kh1 _ (by omega)).trans x1 | exact hc2 | fail "lk") rfl (Nat.le_refl _) (Nat.le_refl _) ?_
      have htl : tlW F K E H rule ws v sw = match wp1 F K E H rule ws v sw with | none => none | some z => some (z.2, [], z.1) := by unfold tlW; rw [if_neg hnh, if_neg (by omega)]
      refine c_Mc_writeOut hM hE hs hK0 hRa hpa (by omega) (fun y hy hy8 => hq (y.2, [], y.1) (by rw [htl, hy]) hy8) (fun hn h2 hM2 hF2 => ?_) (fun y hy h2 hM2 hF2 => ?_)
      · skip
        refine z_ireti rfl (Nat.le_refl _) (Nat.le_refl _) ?_
        exact q1 (by rw [htl, hn]) h2 hM2 hF2
      · skip
        refine z_ireti rfl (Nat.le_refl _) (Nat.le_refl _) ?_
        exact q0 (y.2, [], y.1) (by rw [htl, hy]) h2 hM2 hF2
    · have hlf := of_decide_eq_true hc103
      refine z_push 107 (-1) rfl rfl rfl ?_
      refine z_goto rfl ?_
      refine z_iload 112 rfl rfl rfl ?_
      refine z_aload 113 rfl rfl rfl ?_
      refine z_get 116 rfl rfl (by first | exact x1 | exact k5 | exact (kh1 _ (by omega)).trans x1 | exact hc2 | fail "lk") rfl ?_
      refine z_push 117 (nI 1) rfl rfl rfl ?_
      refine z_bop 118 _ rfl rfl (by first | with_reducible exact zb_1 (by omega) | exact zd_1 _ _) ?_
      refine z_cv3 121 rfl rfl (by first | exact x1 | exact k5 | exact (kh1 _ (by omega)).trans x1 | exact hc2 | fail "lk") rfl (Nat.le_refl _) (Nat.le_refl _) ?_
      have htl : tlW F K E H rule ws v sw = match wl1 K E H rule ws v sw with | none => none | some z => some (z.2, [], z.1) := by unfold tlW; rw [if_neg hnh, if_pos (by omega)]
      refine c_Mc_writeOutL hM hE hs hK0 hRa hpa (by omega) (fun y hy hy8 => hq (y.2, [], y.1) (by rw [htl, hy]) hy8) (fun hn h2 hM2 hF2 => ?_) (fun y hy h2 hM2 hF2 => ?_)
      · skip
        refine z_ireti rfl (Nat.le_refl _) (Nat.le_refl _) ?_
        exact q1 (by rw [htl, hn]) h2 hM2 hF2
      · skip
        refine z_ireti rfl (Nat.le_refl _) (Nat.le_refl _) ?_
        exact q0 (y.2, [], y.1) (by rw [htl, hy]) h2 hM2 hF2
  · have hh := of_decide_eq_true hc78
    refine z_aload 82 rfl rfl rfl ?_
    refine z_get 85 rfl rfl (by first | exact x1 | exact k5 | exact (kh1 _ (by omega)).trans x1 | exact hc2 | fail "lk") rfl ?_
    refine z_push 86 (nI 0) rfl rfl rfl ?_
    refine z_iload 87 rfl rfl rfl ?_
    refine z_ast 88 rfl rfl (by first | exact x1 | exact k5 | exact (kh1 _ (by omega)).trans x1 | exact hc2 | fail "lk") rfl (by omega) (by omega) ?_
    refine z_ab (a + 1) (aI 4 (upd kf 0 (nI v))) h (mg_eq _ _ _) (fun x hx => by simp only [mSet, if_neg hx]) rfl (fun h1 hc1 kh1 zh1 => ?_)
    refine z_aload 89 rfl rfl rfl ?_
    refine z_push 90 (nI 1) rfl rfl rfl ?_
    refine z_put 93 rfl rfl (by first | exact x1 | exact k5 | exact (kh1 _ (by omega)).trans x1 | exact hc2 | fail "lk") rfl (mFi rfl) ?_
    refine z_ab a (oMc a wr ph 1 fed pl fi q9.length) h1 (mg_eq _ _ _) (fun x hx => by simp only [mSet, if_neg hx]) rfl (fun h2 hc2 kh2 zh2 => ?_)
    refine z_aload 94 rfl rfl rfl ?_
    refine z_get 97 rfl rfl (by first | exact x1 | exact k5 | exact (kh1 _ (by omega)).trans x1 | exact hc2 | fail "lk") rfl ?_
    refine z_ireti rfl (Nat.le_refl _) (Nat.le_refl _) ?_
    have htl : tlW F K E H rule ws v sw = some (sw, [v], []) := by unfold tlW; rw [if_pos hh]
    refine q0 _ htl h2 ⟨by rw [List.append_nil]; exact hc2, ⟨(show (1 : Nat) ≤ 4 by decide), _, (kh2 _ (by omega)).trans hc1, fun j hj => ?_⟩, ⟨bl, x3.e (fun z y1 y2 => (kh2 z (by omega)).trans (kh1 z (by omega)))⟩, by rw [List.append_nil]; exact x4.e ((kh2 _ (by omega)).trans (kh1 _ (by omega))), ⟨mal9, x5.e (fun z y1 y2 => (kh2 z (by omega)).trans (kh1 z (by omega)))⟩, l, u, x6.e (fun z y1 y2 => (kh2 z (by omega)).trans (kh1 z (by omega)))⟩ ⟨zh2.trans zh1, fun x hx => (kh2 x (by omega)).trans (kh1 x (by omega))⟩
    have hj0 : j = 0 := Nat.lt_one_iff.mp hj
    subst hj0
    exact if_pos rfl
theorem tl_len1 {F : List Fb} {K rule sg v st : Nat} {E : List En} {H : List Sh} (hW : TbW E H) (hs : sg < 1114112) (hv : v < 65536) (hr : rule ≠ 4) {t : Nat × List Nat × List Nat} (h : tlW F K E H rule sg v st = some t) : t.2.2.length ≤ 10 := by
  unfold tlW at h
  split at h
  · cases h; exact Nat.zero_le _
  · split at h
    · cases h
    · rename_i z hz
      cases h
      split at hz
      · exact wl1_len hW hs hz
      · exact wp1_len1 hW hs (by omega) hr hz
theorem tl_len2 {F : List Fb} {K rule sg v st : Nat} {E : List En} {H : List Sh} {t : Nat × List Nat × List Nat} (h : tlW F K E H rule sg v st = some t) : t.2.1.length ≤ 1 := by
  unfold tlW at h
  split at h
  · cases h; exact Nat.le_refl _
  · split at h
    · cases h
    · cases h; exact Nat.zero_le _
set_option maxRecDepth 100000 in
theorem c_aU0 {d : Nat} {h : mH} {a R p : Nat} {wr : Bool} {ph : Int32} {rule sr pn sw : Nat} {fed pl fi : Nat} {q9 : List Nat} {K rs ws : Nat} {E : List En} {H : List Sh} {F : List Fb} {v : Nat} {Q : mP} (hM : McAt h a R p wr ph rule sr pn sw [] fed pl fi q9) (hE : WEnv h R p K E H F rule rs ws) (hs : SOk K H sw) (hK0 : K ≠ 0 → sw = 0) (hRa : R + 5 ≤ a) (hpa : p + 20 ≤ a ∨ a + 12 ≤ p) (hv : v < 65536) (hq3 : q9.length ≤ 300)  (q1 : ∀ ao st' ks' us, wsX F K E H rule ws sw [] (some v) = (true, ao, st', ks', us) → ∀ h', McAt h' a R p wr (nI 2) rule sr pn st' [] (fed + 1) (fed + 1 - 1 - 0 + ao) fi (q9 ++ us) → Fr a (a + 12) h h' → Q (some (.int (-10))) h') (q0 : ∀ ao st' ks' us, wsX F K E H rule ws sw [] (some v) = (false, ao, st', ks', us) → ∀ h', McAt h' a R p wr ph rule sr pn st' ks' (fed + 1) pl fi (q9 ++ us) → Fr a (a + 12) h h' → Q (some (.int (nI (q9.length + us.length)))) h') : mWP (d + 9) 30 [.ref a, .int (nI v)] h Q := by
  obtain ⟨x1, x2, ⟨bl, x3⟩, x4, ⟨mal9, x5⟩, l, u, x6⟩ := id hM
  obtain ⟨hR, hP, hW, hG, hFW, hFd, hFN, hws, hru⟩ := id hE
  obtain ⟨k4, kf, k5, k6⟩ := id x2
  refine z_in [some (.ref a), some (.int (nI v))] (by rfl) rfl rfl rfl ?_
  refine z_aload 1 rfl rfl rfl ?_
  first | refine z_dup 2 rfl rfl ?_ | refine z_dupi 2 rfl rfl ?_
  refine z_get 5 rfl rfl (by first | exact x1 | exact hc1 | fail "lk") rfl ?_
  refine z_push 6 (nI 1) rfl rfl rfl ?_
  refine z_bop 7 _ rfl rfl (by first | with_reducible exact zb_0 _ _ | exact zd_0 _ _) ?_
  refine z_put 10 rfl rfl (by first | exact x1 | exact hc1 | fail "lk") rfl (mFi rfl) ?_
  refine z_ab a (oMc a wr ph 0 (fed + 1) pl fi q9.length) h (mg_eq _ _ _) (fun x hx => by simp only [mSet, if_neg hx]) rfl (fun h1 hc1 kh1 zh1 => ?_)
  have hE1 : WEnv h1 R p K E H F rule rs ws := hE.e (fun y y1 y2 => kh1 y (by omega)) (fun y y1 y2 => kh1 y (by omega))
  have hM1 : McAt h1 a R p wr ph rule sr pn sw [] (fed + 1) pl fi q9 := ⟨hc1, ⟨Nat.zero_le _, kf, (kh1 _ (by omega)).trans k5, fun j hj => absurd hj (Nat.not_lt_zero j)⟩, ⟨bl, x3.e (fun y y1 y2 => kh1 y (by omega))⟩, x4.e (kh1 _ (by omega)), ⟨mal9, x5.e (fun y y1 y2 => kh1 y (by omega))⟩, l, u, x6.e (fun y y1 y2 => kh1 y (by omega))⟩
  refine z_aload 11 rfl rfl rfl ?_
  refine z_get 14 rfl rfl (by first | exact x1 | exact hc1 | fail "lk") rfl ?_
  refine z_zle 17 rfl rfl (by omega) (fun _ => ?_) (fun h9 => absurd h9 (by omega))
  refine c_aU_t hM1 hE1 hs hK0 hRa hpa hv (by omega) (fun t ht h8 => by omega) (fun hn h2 hM2 hF2 => ?_) (fun t ht h2 hM2 hF2 => ?_)
  · refine q1 0 sw [] [] (by unfold wsX; simp only; rw [wsL_tl]; simp only [hn]) h2 ?_ ⟨hF2.1.trans zh1, fun x hx => (hF2.2 x hx).trans (kh1 x (by omega))⟩
    rw [List.append_nil]
    exact hM2
  · exact q0 0 t.1 t.2.1 t.2.2 (by unfold wsX; simp only; rw [wsL_tl]; simp only [ht, List.nil_append]) h2 hM2 ⟨hF2.1.trans zh1, fun x hx => (hF2.2 x hx).trans (kh1 x (by omega))⟩
set_option maxRecDepth 100000 in
theorem c_aU1 {d : Nat} {h : mH} {a R p : Nat} {wr : Bool} {ph : Int32} {rule sr pn sw : Nat} {fed pl fi : Nat} {q9 : List Nat} {K rs ws : Nat} {E : List En} {H : List Sh} {F : List Fb} {v k0 : Nat} {Q : mP} (hM : McAt h a R p wr ph rule sr pn sw [k0] fed pl fi q9) (hE : WEnv h R p K E H F rule rs ws) (hs : SOk K H sw) (hK0 : K ≠ 0 → sw = 0) (hRa : R + 5 ≤ a) (hpa : p + 20 ≤ a ∨ a + 12 ≤ p) (hk1 : 55296 ≤ k0) (hk2 : k0 ≤ 56319) (hfk : 1 ≤ fed) (hv : v < 65536) (hq3 : q9.length ≤ 300)  (q1 : ∀ ao st' ks' us, wsX F K E H rule ws sw [k0] (some v) = (true, ao, st', ks', us) → ∀ h', McAt h' a R p wr (nI 2) rule sr pn st' [] (fed + 1) (fed + 1 - 1 - 1 + ao) fi (q9 ++ us) → Fr a (a + 12) h h' → Q (some (.int (-10))) h') (q0 : ∀ ao st' ks' us, wsX F K E H rule ws sw [k0] (some v) = (false, ao, st', ks', us) → ∀ h', McAt h' a R p wr ph rule sr pn st' ks' (fed + 1) pl fi (q9 ++ us) → Fr a (a + 12) h h' → Q (some (.int (nI (q9.length + us.length)))) h') : mWP (d + 9) 30 [.ref a, .int (nI v)] h Q := by
  obtain ⟨x1, x2, ⟨bl, x3⟩, x4, ⟨mal9, x5⟩, l, u, x6⟩ := id hM
  obtain ⟨hR, hP, hW, hG, hFW, hFd, hFN, hws, hru⟩ := id hE
  obtain ⟨k4, kf, k5, k6⟩ := id x2
  have k60 : kf 0 = nI k0 := k6 0 (Nat.lt_succ_self 0)
  refine z_in [some (.ref a), some (.int (nI v))] (by rfl) rfl rfl rfl ?_
  refine z_aload 1 rfl rfl rfl ?_
  first | refine z_dup 2 rfl rfl ?_ | refine z_dupi 2 rfl rfl ?_
  refine z_get 5 rfl rfl (by first | exact x1 | exact hc1 | exact mg_eq _ _ _ | exact (kh1 _ (by omega)).trans k5 | fail "lk") rfl ?_
  refine z_push 6 (nI 1) rfl rfl rfl ?_
  refine z_bop 7 _ rfl rfl (by first | with_reducible exact zb_0 _ _ | exact zd_0 _ _) ?_
  refine z_put 10 rfl rfl (by first | exact x1 | exact hc1 | exact mg_eq _ _ _ | exact (kh1 _ (by omega)).trans k5 | fail "lk") rfl (mFi rfl) ?_
  refine z_aload 11 rfl rfl rfl ?_
  refine z_get 14 rfl rfl (by first | exact x1 | exact hc1 | exact mg_eq _ _ _ | exact (kh1 _ (by omega)).trans k5 | fail "lk") rfl ?_
  refine z_zle 17 rfl rfl (by omega) (fun h9 => absurd h9 (Nat.succ_ne_zero 0)) (fun _ => ?_)
  refine z_aload 18 rfl rfl rfl ?_
  refine z_push 19 (nI 0) rfl rfl rfl ?_
  refine z_put 22 rfl rfl (by first | exact x1 | exact hc1 | exact mg_eq _ _ _ | exact (kh1 _ (by omega)).trans k5 | fail "lk") rfl (mFi rfl) ?_
  refine z_ab a (oMc a wr ph 0 (fed + 1) pl fi q9.length) h (mg_eq _ _ _) (fun x hx => by simp only [mSet, if_neg hx]) rfl (fun h1 hc1 kh1 zh1 => ?_)
  have hE1 : WEnv h1 R p K E H F rule rs ws := hE.e (fun y y1 y2 => kh1 y (by omega)) (fun y y1 y2 => kh1 y (by omega))
  have hM1 : McAt h1 a R p wr ph rule sr pn sw [] (fed + 1) pl fi q9 := ⟨hc1, ⟨Nat.zero_le _, kf, (kh1 _ (by omega)).trans k5, fun j hj => absurd hj (Nat.not_lt_zero j)⟩, ⟨bl, x3.e (fun y y1 y2 => kh1 y (by omega))⟩, x4.e (kh1 _ (by omega)), ⟨mal9, x5.e (fun y y1 y2 => kh1 y (by omega))⟩, l, u, x6.e (fun y y1 y2 => kh1 y (by omega))⟩
  refine z_iload 23 rfl rfl rfl ?_
  refine z_cs1 26 rfl rfl rfl (Nat.le_refl _) (Nat.le_refl _) ?_
  refine c_isLowHalf ?_
  rw [jLow_n (by omega)]
  first | refine z_beq 29 rfl rfl (fun hc26 => ?_) (fun hc26 => ?_)
  · have hnl := of_decide_eq_false hc26
    have hws2 : wsX F K E H rule ws sw [k0] (some v) = (match wl1 K E H rule ws k0 sw with | none => (true, 0, sw, [], []) | some y => wsL F K E H rule ws 1 (some v) y) := by unfold wsX; simp only; rw [if_neg (fun h9 => hnl (by simpa using h9.1))]; generalize wl1 K E H rule ws k0 sw = z; cases z <;> rfl
    refine z_aload 52 rfl rfl rfl ?_
    refine z_push 53 (-1) rfl rfl rfl ?_
    refine z_aload 54 rfl rfl rfl ?_
    refine z_get 57 rfl rfl (by first | exact x1 | exact hc1 | exact mg_eq _ _ _ | exact (kh1 _ (by omega)).trans k5 | fail "lk") rfl ?_
    refine z_push 58 (nI 0) rfl rfl rfl ?_
    refine z_ald 59 rfl rfl (by first | exact x1 | exact hc1 | exact mg_eq _ _ _ | exact (kh1 _ (by omega)).trans k5 | fail "lk") rfl (by omega) (by omega) ?_
    rw [k60]
    refine z_aload 60 rfl rfl rfl ?_
    refine z_get 63 rfl rfl (by first | exact x1 | exact hc1 | exact mg_eq _ _ _ | exact (kh1 _ (by omega)).trans k5 | fail "lk") rfl ?_
    refine z_push 64 (nI 2) rfl rfl rfl ?_
    refine z_bop 65 _ rfl rfl (by first | with_reducible exact zb_1 (by omega) | exact zd_1 _ _) ?_
    refine z_cv3 68 rfl rfl (by first | exact x1 | exact hc1 | exact mg_eq _ _ _ | exact (kh1 _ (by omega)).trans k5 | fail "lk") rfl (Nat.le_refl _) (Nat.le_refl _) ?_
    refine c_Mc_writeOutL hM1 hE1 hs hK0 hRa hpa (by omega) (fun y hy h8 => by omega) (fun hn h2 hM2 hF2 => ?_) (fun y hy h2 hM2 hF2 => ?_)
    · skip
      refine z_jge 71 rfl rfl (fun h9 => absurd h9 (by decide)) (fun _ => ?_)
      refine z_push 73 (-10) rfl rfl rfl ?_
      refine z_ireti rfl (Nat.le_refl _) (Nat.le_refl _) ?_
      refine q1 0 sw [] [] (by rw [hws2, hn]) h2 ?_ ⟨hF2.1.trans zh1, fun x hx => (hF2.2 x hx).trans (kh1 x (by omega))⟩
      rw [List.append_nil]
      exact hM2
    · have hy9 := hM2.2.2.2.1.2.1
      rw [List.length_append] at hy9
      refine z_zge 71 rfl rfl (by omega) (fun _ => ?_) (fun h9 => absurd h9 (by omega))
      have hyl := wl1_len hW hws hy
      have hr4 := wl1_r4 hy
      have hql : (q9 ++ y.1).length = q9.length + y.1.length := List.length_append
      refine c_aU_t hM2 (hE1.e (fun z y1 y2 => hF2.2 z (by omega)) (fun z y1 y2 => hF2.2 z (by omega))) (wl1_ok hG hs y hy) (wl1_k0 hK0 hy) hRa hpa hv (by omega) (fun t ht h8 => by have h7 := tl_len1 hW hws hv hr4 ht; omega) (fun hn h3 hM3 hF3 => ?_) (fun t ht h3 hM3 hF3 => ?_)
      · exact q1 1 y.2 [] y.1 (by rw [hws2, hy]; simp only; rw [wsL_tl]; simp only [hn]) h3 (by rw [show fed + 1 - 1 - 1 + 1 = fed + 1 - 1 by omega]; exact hM3) ⟨hF3.1.trans (hF2.1.trans zh1), fun x hx => (hF3.2 x hx).trans ((hF2.2 x hx).trans (kh1 x (by omega)))⟩
      · have hz := q0 1 t.1 t.2.1 (y.1 ++ t.2.2) (by rw [hws2, hy]; simp only; rw [wsL_tl]; simp only [ht]) h3 (by rw [← List.append_assoc]; exact hM3) ⟨hF3.1.trans (hF2.1.trans zh1), fun x hx => (hF3.2 x hx).trans ((hF2.2 x hx).trans (kh1 x (by omega)))⟩
        rw [List.length_append, ← Nat.add_assoc, ← hql] at hz
        exact hz
  · have hlo := of_decide_eq_true hc26
    have hws1 : wsX F K E H rule ws sw [k0] (some v) = (match wp1 F K E H rule ws (65536 + (k0 - 55296) * 2 ^ 10 + v - 56320) sw with | none => (true, 0, sw, [], []) | some y => (false, 0, y.2, [], y.1)) := by unfold wsX; simp only; rw [if_pos ⟨by simpa using hlo, fun h9 => by cases h9⟩]; rfl
    refine z_aload 30 rfl rfl rfl ?_
    refine z_aload 31 rfl rfl rfl ?_
    refine z_get 34 rfl rfl (by first | exact x1 | exact hc1 | exact mg_eq _ _ _ | exact (kh1 _ (by omega)).trans k5 | fail "lk") rfl ?_
    refine z_push 35 (nI 0) rfl rfl rfl ?_
    refine z_ald 36 rfl rfl (by first | exact x1 | exact hc1 | exact mg_eq _ _ _ | exact (kh1 _ (by omega)).trans k5 | fail "lk") rfl (by omega) (by omega) ?_
    rw [k60]
    refine z_iload 37 rfl rfl rfl ?_
    refine z_cs2 40 rfl rfl rfl (Nat.le_refl _) (Nat.le_refl _) ?_
    refine c_joined ?_
    rw [joinI_n (by omega) (by omega)]
    refine z_iload 41 rfl rfl rfl ?_
    refine z_aload 42 rfl rfl rfl ?_
    refine z_get 45 rfl rfl (by first | exact x1 | exact hc1 | exact mg_eq _ _ _ | exact (kh1 _ (by omega)).trans k5 | fail "lk") rfl ?_
    refine z_push 46 (nI 2) rfl rfl rfl ?_
    refine z_bop 47 _ rfl rfl (by first | with_reducible exact zb_1 (by omega) | exact zd_1 _ _) ?_
    refine z_cv3 50 rfl rfl (by first | exact x1 | exact hc1 | exact mg_eq _ _ _ | exact (kh1 _ (by omega)).trans k5 | fail "lk") rfl (Nat.le_refl _) (Nat.le_refl _) ?_
    refine c_Mc_writeOut hM1 hE1 hs hK0 hRa hpa (by omega) (fun y hy h8 => by omega) (fun hn h2 hM2 hF2 => ?_) (fun y hy h2 hM2 hF2 => ?_)
    · skip
      refine z_ireti rfl (Nat.le_refl _) (Nat.le_refl _) ?_
      refine q1 0 sw [] [] (by rw [hws1, hn]) h2 ?_ ⟨hF2.1.trans zh1, fun x hx => (hF2.2 x hx).trans (kh1 x (by omega))⟩
      rw [List.append_nil]
      exact hM2
    · skip
      refine z_ireti rfl (Nat.le_refl _) (Nat.le_refl _) ?_
      exact q0 0 y.2 [] y.1 (by rw [hws1, hy]) h2 hM2 ⟨hF2.1.trans zh1, fun x hx => (hF2.2 x hx).trans (kh1 x (by omega))⟩
theorem c_Mc_acceptUnit {d : Nat} {h : mH} {a R p : Nat} {wr : Bool} {ph : Int32} {rule sr pn sw : Nat} {ks : List Nat} {fed pl fi : Nat} {q9 : List Nat}  {K rs ws : Nat} {E : List En} {H : List Sh} {F : List Fb} {v : Nat} {Q : mP} (hM : McAt h a R p wr ph rule sr pn sw ks fed pl fi q9) (hE : WEnv h R p K E H F rule rs ws) (hs : SOk K H sw) (hK0 : K ≠ 0 → sw = 0) (hRa : R + 5 ≤ a) (hpa : p + 20 ≤ a ∨ a + 12 ≤ p) (hks : ks = [] ∨ ∃ k0, ks = [k0] ∧ 55296 ≤ k0 ∧ k0 ≤ 56319) (hfk : ks.length ≤ fed) (hv : v < 65536) (hq3 : q9.length ≤ 300) (q1 : ∀ ao st' ks' us, wsX F K E H rule ws sw ks (some v) = (true, ao, st', ks', us) → ∀ h', McAt h' a R p wr (nI 2) rule sr pn st' [] (fed + 1) (fed + 1 - 1 - ks.length + ao) fi (q9 ++ us) → Fr a (a + 12) h h' → Q (some (.int (-10))) h') (q0 : ∀ ao st' ks' us, wsX F K E H rule ws sw ks (some v) = (false, ao, st', ks', us) → ∀ h', McAt h' a R p wr ph rule sr pn st' ks' (fed + 1) pl fi (q9 ++ us) → Fr a (a + 12) h h' → Q (some (.int (nI (q9.length + us.length)))) h') : mWP (d + 9) 30 [.ref a, .int (nI v)] h Q := by
  rcases hks with rfl | ⟨k0, rfl, h1, h2⟩
  · exact c_aU0 hM hE hs hK0 hRa hpa hv hq3 q1 q0
  · exact c_aU1 hM hE hs hK0 hRa hpa h1 h2 hfk hv hq3 q1 q0
