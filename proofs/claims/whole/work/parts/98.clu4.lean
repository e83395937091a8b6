/-! routes: the way that is walked -/
theorem lsF_sp {w s g v : Nat → Nat} {kf : Nat → Bool} {gl st lf c : Nat} : ∀ (m i : Nat) (b : Option Nat), i + m = c → (∀ j, b = some j → j < i ∧ s j = st ∧ sBy w g kf gl j = lf ∧ ∀ k, k < i → s k = st → sBy w g kf gl k = lf → v j ≤ v k) → (b = none → ∀ k, k < i → s k = st → sBy w g kf gl k ≠ lf) → (∀ j, lsF w s g v kf gl st lf m i b = some j → j < c ∧ s j = st ∧ sBy w g kf gl j = lf ∧ ∀ k, k < c → s k = st → sBy w g kf gl k = lf → v j ≤ v k) ∧ (lsF w s g v kf gl st lf m i b = none → ∀ k, k < c → s k = st → sBy w g kf gl k ≠ lf)
  | 0, i, b, h, h1, h2 => by
    obtain rfl : i = c := by omega
    exact ⟨h1, h2⟩
  | m + 1, i, b, h, h1, h2 => by
    rw [lsF]
    refine lsF_sp m (i + 1) _ (by omega) (fun j hj => ?_) (fun hb k hk hs hl => ?_)
    · unfold lsS at hj
      by_cases hc : s i = st ∧ sBy w g kf gl i = lf ∧ lsB v b i = true
      · rw [if_pos hc] at hj
        cases hj
        refine ⟨by omega, hc.1, hc.2.1, fun k hk hs hl => ?_⟩
        by_cases e : k = i
        · subst e; exact Nat.le_refl _
        · rcases b with _ | j0
          · exact absurd hl (h2 rfl k (by omega) hs)
          · have h3 := (h1 j0 rfl).2.2.2 k (by omega) hs hl
            have h4 : v i < v j0 := of_decide_eq_true hc.2.2
            omega
      · rw [if_neg hc] at hj
        obtain ⟨a1, a2, a3, a4⟩ := h1 j hj
        refine ⟨by omega, a2, a3, fun k hk hs hl => ?_⟩
        by_cases e : k = i
        · subst e
          subst hj
          have h5 : ¬ lsB v (some j) k = true := fun h9 => hc ⟨hs, hl, h9⟩
          have h6 : ¬ v k < v j := fun h9 => h5 (decide_eq_true h9)
          omega
        · exact a4 k (by omega) hs hl
    · unfold lsS at hb
      split at hb
      · cases hb
      · rename_i hc
        subst hb
        by_cases e : k = i
        · subst e; exact hc ⟨hs, hl, rfl⟩
        · exact h2 rfl k (by omega) hs hl
theorem txF_app {bs : List Nat} {b n : Nat} (h : n ≤ bs.length) : txF (bs ++ [b]) 0 n = txF bs 0 n := by
  induction n with
  | zero => rfl
  | succ n ih =>
    rw [txF, txF, ih (by omega), nb, nb, if_pos (by rw [List.length_append]; show 0 + n < bs.length + 1; omega), if_pos (by omega), getD_apf (by omega)]
theorem txF_snoc {bs : List Nat} {b : Nat} : txF (bs ++ [b]) 0 (bs.length + 1) = txF bs 0 bs.length * 2 ^ 8 + b := by
  rw [txF, txF_app (Nat.le_refl _), nb, Nat.zero_add, if_pos (by rw [List.length_append]; exact Nat.lt_succ_self _), getD_apl]
theorem byL_tx {bs : List Nat} (hb : ∀ j, bs.getD j 0 < 256) : byL bs.length (txF bs 0 bs.length) = bs := by
  have hk := (cm_num (n := bs.length) (txF_b hb (a := 0) bs.length) hb bs.length (Nat.le_refl _) (Nat.le_refl _)).mp (by rw [Nat.sub_self, Nat.mul_zero, Nat.pow_zero, Nat.div_one])
  have gen : ∀ m i, i + m = bs.length → byF bs.length (txF bs 0 bs.length) m i = bs.drop i := by
    intro m
    induction m with
    | zero => intro i h; rw [List.drop_eq_nil_of_le (by omega)]; rfl
    | succ m ih =>
      intro i h
      rw [byF, ih (i + 1) (by omega), drop_c9 (show i < bs.length by omega), hk i (by omega)]
  have := gen bs.length 0 (by omega)
  rw [List.drop_zero] at this
  exact this
theorem wk_ok {H : List Sh} {gl : Nat} (hG : ∀ k, k < H.length → shS H k < 4 ∧ shG H k < 4) (hV : ∀ k, k < H.length → shV H k < 256) (hU : ∀ i k, i < H.length → k < H.length → i ≠ k → shS H i = shS H k → shV H i ≠ shV H k) (hgl : gl < 5) : ∀ (n st : Nat) (bs : List Nat), st < 4 → wG (shS H) (shG H) (shK H) H.length gl st = n → n + bs.length ≤ 3 → (∀ j, bs.getD j 0 < 256) → ∃ l, ldW H (gSt gl) (gSg gl) n st = some l ∧ wkF (wG (shS H) (shG H) (shK H) H.length gl) (shS H) (shG H) (shV H) (shK H) gl H.length n st (nI (txF bs 0 bs.length)) bs.length = (nI (txF (bs ++ l.map (shV H)) 0 (bs ++ l.map (shV H)).length), (bs ++ l.map (shV H)).length, gS H l st) := by
  have hw := wG_ok (gl := gl) hG hgl
  generalize hwd : wG (shS H) (shG H) (shK H) H.length gl = w at hw ⊢
  intro n
  induction n with
  | zero =>
    intro st bs hst hn hl hb
    have h1 : st = gSt gl := by
      rcases hw.1 st hst with h9 | h9
      · omega
      · have := h9.2; rw [hn] at this; exact this
    exact ⟨[], by rw [ldW, if_pos h1], by rw [List.map_nil, List.append_nil]; rfl⟩
  | succ n ih =>
    intro st bs hst hn hl hb
    have hWy : Wy H (gSt gl) (gSg gl) (n + 1) st := by
      rcases hw.1 st hst with h9 | h9
      · omega
      · have := h9.2; rw [hn] at this; exact this
    -- the shifts that may come first are the same
    have hq : ∀ k, k < H.length → shS H k = st → (sBy w (shG H) (shK H) gl k = n + 1 ↔ ldF H (gSt gl) (gSg gl) n k ≠ none) := fun k hk hs => by
      have hmin : ∀ m, Wy H (gSt gl) (gSg gl) m (shG H k) → shK H k = true → n ≤ m := fun m hm hkk => by
        have h9 : Wy H (gSt gl) (gSg gl) (m + 1) st := by
          refine ⟨k, hk, hs, ?_⟩
          cases m with
          | zero => exact Or.inl ⟨rfl, hm, Or.inl hkk⟩
          | succ m => exact Or.inr ⟨by omega, hkk, hm⟩
        have := (hw.2 _ _ hst h9).1
        omega
      unfold sBy ldF
      by_cases hkk : shK H k = true
      · rw [if_pos hkk]
        by_cases e : n = 0
        · rw [if_pos e]
          constructor
          · intro h1
            have h2 : w (shG H k) = 0 := by omega
            rcases hw.1 _ (hG k hk).2 with h9 | h9
            · omega
            · have h8 := h9.2; rw [h2] at h8
              rw [if_pos ⟨h8, Or.inl hkk⟩]; intro h7; cases h7
          · intro h1
            by_cases h2 : shG H k = gSt gl ∧ (shK H k = true ∨ gSg gl = true)
            · have := (hw.2 0 (shG H k) (hG k hk).2 h2.1).1
              omega
            · rw [if_neg h2] at h1; exact absurd rfl h1
        · rw [if_neg e, if_pos hkk]
          constructor
          · intro h1
            rcases hw.1 _ (hG k hk).2 with h9 | h9
            · omega
            · have h8 := h9.2
              rw [show w (shG H k) = n by omega] at h8
              exact (ldW_Wy hV hU n _).mpr h8
          · intro h1
            have h2 := (ldW_Wy hV hU n _).mp h1
            have h3 := (hw.2 n _ (hG k hk).2 h2).1
            rcases hw.1 _ (hG k hk).2 with h9 | h9
            · omega
            · have := hmin _ h9.2 hkk; omega
      · rw [if_neg hkk]
        by_cases h3 : gl ≠ 4 ∧ shG H k = gl
        · rw [if_pos h3]
          have hg : shG H k = gSt gl := by rw [gSt, if_neg h3.1]; exact h3.2
          have hsg : gSg gl = true := decide_eq_true h3.1
          by_cases e : n = 0
          · rw [if_pos e, if_pos ⟨hg, Or.inr hsg⟩]
            exact ⟨fun _ h => (by cases h), fun _ => by omega⟩
          · rw [if_neg e, if_neg hkk]
            exact ⟨fun h => by omega, fun h => absurd rfl h⟩
        · rw [if_neg h3]
          have h4 : ¬ (shG H k = gSt gl ∧ (shK H k = true ∨ gSg gl = true)) := fun h9 => by
            rcases h9.2 with h8 | h8
            · exact hkk h8
            · have h7 : gl ≠ 4 := of_decide_eq_true h8
              exact h3 ⟨h7, by rw [h9.1, gSt, if_neg h7]⟩
          refine ⟨fun h => by omega, fun h => ?_⟩
          by_cases e : n = 0
          · rw [if_pos e, if_neg h4] at h; exact absurd rfl h
          · rw [if_neg e, if_neg hkk] at h; exact absurd rfl h
    obtain ⟨l, hl0⟩ : ∃ l, ldW H (gSt gl) (gSg gl) (n + 1) st = some l := by
      rcases h9 : ldW H (gSt gl) (gSg gl) (n + 1) st with _ | l
      · exact absurd h9 ((ldW_Wy hV hU _ _).mpr hWy)
      · exact ⟨l, rfl⟩
    have hls := hl0
    rw [ldW_s] at hls
    obtain ⟨k, l2, e1, hk, hks, _, hkf, hkm⟩ := (ldB_spec hV hU 256 0 (by omega)).2 l hls
    subst e1
    have sp := lsF_sp (w := w) (s := shS H) (g := shG H) (v := shV H) (kf := shK H) (gl := gl) (st := st) (lf := n + 1) (c := H.length) H.length 0 none (by omega) (fun j hj => by cases hj) (fun _ k hk => absurd hk (Nat.not_lt_zero k))
    have hb1 : lsF w (shS H) (shG H) (shV H) (shK H) gl st (n + 1) H.length 0 none = some k := by
      rcases h9 : lsF w (shS H) (shG H) (shV H) (shK H) gl st (n + 1) H.length 0 none with _ | j
      · exact absurd ((hq k hk hks).mpr (by rw [hkf]; intro h; cases h)) (sp.2 h9 k hk hks)
      · obtain ⟨a1, a2, a3, a4⟩ := sp.1 j h9
        have h5 := a4 k hk hks ((hq k hk hks).mpr (by rw [hkf]; intro h; cases h))
        have h6 := hkm j a1 a2 (Nat.zero_le _) ((hq j a1 a2).mp a3)
        by_cases e : j = k
        · rw [e]
        · exact absurd (by omega : shV H j = shV H k) (hU j k a1 hk e (a2.trans hks.symm))
    have hvk := hV k hk
    have htx := txF_b hb (a := 0) bs.length
    have htx2 : 256 ^ bs.length ≤ 256 ^ 2 := Nat.pow_le_pow_right (by decide) (by omega)
    have ea : nI (txF bs 0 bs.length) <<< (nI 8 &&& 31) = nI (txF bs 0 bs.length * 2 ^ 8) := shl_n 8 (by decide) (by omega)
    have eb : nI (txF bs 0 bs.length * 2 ^ 8) ||| nI (shV H k) = nI (txF bs 0 bs.length * 2 ^ 8 + shV H k) := or_n (k := 8) (by omega) (by omega)
    have ec : (nI (txF bs 0 bs.length) <<< (nI 8 &&& 31)) ||| nI (shV H k) = nI (txF (bs ++ [shV H k]) 0 (bs ++ [shV H k]).length) := by
      rw [ea, eb, List.length_append, show bs.length + [shV H k].length = bs.length + 1 from rfl, txF_snoc]
    have hwk : wkF w (shS H) (shG H) (shV H) (shK H) gl H.length (n + 1) st (nI (txF bs 0 bs.length)) bs.length = wkF w (shS H) (shG H) (shV H) (shK H) gl H.length n (if shK H k = true then shG H k else st) (nI (txF (bs ++ [shV H k]) 0 (bs ++ [shV H k]).length)) (bs ++ [shV H k]).length := by
      rw [wkF, hb1]
      simp only []
      rw [ec, List.length_append]
      rfl
    have hbb : ∀ j, (bs ++ [shV H k]).getD j 0 < 256 := getD_apb9 hb hvk
    have hbl : (bs ++ [shV H k]).length = bs.length + 1 := by rw [List.length_append]; rfl
    refine ⟨k :: l2, hl0, ?_⟩
    rw [hwk]
    have hcat : bs ++ (k :: l2).map (shV H) = (bs ++ [shV H k]) ++ l2.map (shV H) := by rw [List.map_cons, List.append_assoc]; rfl
    rw [hcat]
    show _ = (_, _, gS H l2 (if shK H k = true then shG H k else st))
    by_cases hkk : shK H k = true
    · rw [if_pos hkk]
      have hwg : w (shG H k) = n := by
        have h9 := (hq k hk hks).mpr (by rw [hkf]; intro h; cases h)
        rw [sBy, if_pos hkk] at h9
        omega
      obtain ⟨l3, h3, h4⟩ := ih (shG H k) (bs ++ [shV H k]) (hG k hk).2 hwg (by omega) hbb
      have e3 : l2 = l3 := by
        unfold ldF at hkf
        by_cases e : n = 0
        · subst e
          rw [if_pos rfl] at hkf
          split at hkf
          · cases hkf
            have := ldW_len 0 _ _ h3
            exact (List.length_eq_zero_iff.mp this).symm
          · cases hkf
        · rw [if_neg e, if_pos hkk, h3] at hkf
          cases hkf; rfl
      rw [e3]
      exact h4
    · rw [if_neg hkk]
      have hn0 : n = 0 := by
        have h9 := (hq k hk hks).mpr (by rw [hkf]; intro h; cases h)
        rw [sBy, if_neg hkk] at h9
        split at h9 <;> omega
      subst hn0
      have hl2 : l2 = [] := by
        unfold ldF at hkf
        rw [if_pos rfl] at hkf
        split at hkf
        · cases hkf; rfl
        · cases hkf
      rw [hl2, List.map_nil, List.append_nil]
      rfl
/-- what is planned, is what is sought -/
theorem plan_ok {H : List Sh} (hG : ∀ k, k < H.length → shS H k < 4 ∧ shG H k < 4) (hV : ∀ k, k < H.length → shV H k < 256) (hU : ∀ i k, i < H.length → k < H.length → i ≠ k → shS H i = shS H k → shV H i ≠ shV H k) {T N A : Nat → Int32} (h : ∀ j, j < 20 → T j = (plV (shS H) (shG H) (shV H) (shK H) H.length j).1 ∧ N j = nI (plV (shS H) (shG H) (shV H) (shK H) H.length j).2.1 ∧ A j = nI (plV (shS H) (shG H) (shV H) (shK H) H.length j).2.2) : RtOk H T N A := by
  intro gl st l hgl hst hl
  have hw := wG_ok (gl := gl) hG hgl
  obtain ⟨_, _, g3, g4⟩ := (gw_sp 7 0).2 l hl
  have hWl : Wy H (gSt gl) (gSg gl) l.length st := (ldW_Wy hV hU _ _).mp (by show ldW H (gSt gl) (decide (gl ≠ 4)) l.length st ≠ none; rw [g3]; intro h; cases h)
  have h1 := hw.2 _ _ hst hWl
  have hn : wG (shS H) (shG H) (shK H) H.length gl st = l.length := by
    rcases hw.1 st hst with h9 | h9
    · omega
    · by_cases e : wG (shS H) (shG H) (shK H) H.length gl st < l.length
      · have h8 := (ldW_Wy hV hU _ _).mpr h9.2
        exact absurd (g4 _ (Nat.zero_le _) e) h8
      · omega
  obtain ⟨l', hl', hwk⟩ := wk_ok (gl := gl) hG hV hU hgl l.length st [] hst hn (by show l.length + 0 ≤ 3; omega) (fun j => by simp)
  have el : l' = l := by
    have h9 : ldW H (gSt gl) (gSg gl) l.length st = some l := g3
    rw [h9] at hl'; cases hl'; rfl
  rw [el, List.nil_append] at hwk
  have hpl : plV (shS H) (shG H) (shV H) (shK H) H.length (gl * 4 + st) = (nI (txF (l.map (shV H)) 0 (l.map (shV H)).length), (l.map (shV H)).length, gS H l st) := by
    rw [plV, show (gl * 4 + st) / 4 = gl by omega, show (gl * 4 + st) % 4 = st by omega, wkR, if_pos (by omega), hn]
    exact hwk
  obtain ⟨t1, t2, t3⟩ := h (gl * 4 + st) (by omega)
  rw [hpl] at t1 t2 t3
  have hml : (l.map (shV H)).length = l.length := List.length_map ..
  have hmb : ∀ j, (l.map (shV H)).getD j 0 < 256 := fun j => by
    by_cases hj : j < (l.map (shV H)).length
    · rw [List.getD_eq_getElem?_getD, List.getElem?_eq_getElem hj]
      show (l.map (shV H))[j] < 256
      rw [List.getElem_map]
      exact hV _ (ldW_b _ _ _ g3 _ (List.getElem_mem _))
    · rw [List.getD_eq_getElem?_getD, List.getElem?_eq_none (by omega)]
      decide
  have hb := txF_b hmb (a := 0) (l.map (shV H)).length
  have hb2 : 256 ^ (l.map (shV H)).length ≤ 256 ^ 3 := Nat.pow_le_pow_right (by decide) (by omega)
  exact ⟨by omega, ⟨_, by omega, t1, by rw [← hml]; exact byL_tx hmb⟩, by rw [t2, hml], t3⟩
