/-! the reference: items of a table; reached states -/
def itS (E : List En) (H : List Sh) (i : Nat) : Nat := if i < E.length then enS E i else shS H (i - E.length)
def itN (E : List En) (i : Nat) : Nat := if i < E.length then enN E i else 1
def itT (E : List En) (H : List Sh) (i : Nat) : Nat := if i < E.length then enT E i else shV H (i - E.length)
def itO (E : List En) (i : Nat) : Nat := if i < E.length then i else 100 + i - E.length
def bgn (E : List En) (H : List Sh) (i k : Nat) : Bool := decide (itN E i ≤ itN E k ∧ itT E H i = itT E H k / 2 ^ (8 * (itN E k - itN E i)))
theorem itN_b {E : List En} {H : List Sh} (hW : TbW E H) (i : Nat) : 1 ≤ itN E i ∧ itN E i ≤ 3 := by
  unfold itN
  split
  · rename_i h; have := hW.2.2.1 i h; omega
  · omega
theorem itS_b {E : List En} {H : List Sh} (hW : TbW E H) {i : Nat} (hi : i < E.length + H.length) : itS E H i < 4 := by
  unfold itS
  split
  · rename_i h; have := hW.2.2.1 i h; omega
  · exact (hW.2.2.2 _ (by omega)).1
theorem itT_b {E : List En} {H : List Sh} (hW : TbW E H) {i : Nat} (hi : i < E.length + H.length) : itT E H i < 16777216 := by
  unfold itT
  split
  · rename_i h; exact hW.tx h
  · have := (hW.2.2.2 (i - E.length) (by omega)).2.1; omega
/-- fields F have changed, nothing else -/
def OnA (F : Nat → Bool) (s s' : rS) : Prop := s'.1 = s.1 ∧ s'.2.1 = s.2.1 ∧ ∀ f, F f = false → s'.2.2 f = s.2.2 f
theorem OnA.rfl {F : Nat → Bool} {s : rS} : OnA F s s := ⟨Eq.refl _, Eq.refl _, fun _ _ => Eq.refl _⟩
theorem OnA.trans {F : Nat → Bool} {s s1 s2 : rS} (a : OnA F s s1) (b : OnA F s1 s2) : OnA F s s2 := ⟨b.1.trans a.1, b.2.1.trans a.2.1, fun f hf => (b.2.2 f hf).trans (a.2.2 f hf)⟩
theorem OnA.A {F : Nat → Bool} {s s' : rS} {f j x : Nat} (a : OnA F s s') (h : F f = true) : OnA F s (stA f j x s') := ⟨a.1, a.2.1, fun g hg => by rw [gAf (fun e => by rw [e, h] at hg; cases hg)]; exact a.2.2 g hg⟩
theorem OnA.keep {F : Nat → Bool} {s s' : rS} (a : OnA F s s') (h : ∀ f, F f = true → rPers f = false) : Keep s s' := fun c hc => ⟨by rw [a.1], a.2.2 c (by cases hf : F c with | false => rfl | true => rw [h c hf] at hc; cases hc)⟩
theorem OnA.mono {F G : Nat → Bool} {s s' : rS} (a : OnA F s s') (h : ∀ f, F f = true → G f = true) : OnA G s s' := ⟨a.1, a.2.1, fun f hf => a.2.2 f (by cases hF : F f with | false => rfl | true => rw [h f hF] at hf; cases hf)⟩
theorem OnA.tb {F : Nat → Bool} {s s' : rS} {p : Nat} {E : List En} {H : List Sh} (a : OnA F s s') (h : ∀ f, f < 14 → F f = false) (hT : TbR s p E H) : TbR s' p E H := by
  simp only [TbR, a.2.2 3 (h 3 (by decide)), a.2.2 4 (h 4 (by decide)), a.2.2 5 (h 5 (by decide)), a.2.2 6 (h 6 (by decide)), a.2.2 7 (h 7 (by decide)), a.2.2 8 (h 8 (by decide)), a.2.2 9 (h 9 (by decide)), a.2.2 10 (h 10 (by decide)), a.2.2 11 (h 11 (by decide)), a.2.2 12 (h 12 (by decide)), a.2.2 13 (h 13 (by decide))]
  exact hT
set_option maxRecDepth 10000 in
theorem r_stateOf {d r : Nat} {h h0 : mH} {s : rS} {p i : Nat} {E : List En} {H : List Sh} {Q : mP} (hR : Rf r h0 s h) (hT : TbR s p E H) (hW : TbW E H) (hi : i < E.length + H.length)  (q : Q (some (.int (nI (itS E H i)))) h) : mWP (d + 1) 189 [.ref r, .int (nI p), .int (nI i)] h Q := by
  obtain ⟨hp, hT3, hT4, hTe, hTs⟩ := id hT
  have hl := hW.1
  have hl2 := hW.2.1
  refine z_in [some (.ref r), some (.int (nI p)), some (.int (nI i))] (by rfl) rfl rfl rfl ?_
  refine z_iload 1 rfl rfl rfl ?_
  refine z_aload 2 rfl rfl rfl ?_
  refine y_ga 5 hR rfl rfl rfl ?_
  refine z_iload 6 rfl rfl rfl ?_
  refine y_al (f := 3) 7 _ hR rfl rfl rfl rfl (by omega) (by repeat (first | with_reducible exact hT3 | with_reducible exact hT4 | with_reducible exact (hTe i (by omega)).1 | with_reducible exact (hTe i (by omega)).2.1 | with_reducible exact (hTe i (by omega)).2.2.1 | with_reducible exact (hTs (i - E.length) (by omega)).1 | with_reducible exact (hTs (i - E.length) (by omega)).2.1 | with_reducible exact gA_eq _ _ _ _ | (with_reducible apply gA_ne; decide) | with_reducible apply gA_I | with_reducible apply gA_O | (with_reducible apply gA_nj; omega) | with_reducible rfl)) ?_
  refine z_nge 10 rfl rfl (by omega) (by omega) (fun hc7 => ?_) (fun hc7 => ?_)
  · refine z_aload 25 rfl rfl rfl ?_
    refine y_ga 28 hR rfl rfl rfl ?_
    refine z_push 30 (nI 10) rfl rfl rfl ?_
    refine z_iload 31 rfl rfl rfl ?_
    refine z_bop 32 _ rfl rfl (by first | with_reducible exact zb_2 _ _ | exact zd_2 _ _) ?_
    refine z_iload 33 rfl rfl rfl ?_
    refine z_bop 34 _ rfl rfl (by first | with_reducible exact zb_0 _ _ | exact zd_0 _ _) ?_
    refine z_aload 35 rfl rfl rfl ?_
    refine y_ga 38 hR rfl rfl rfl ?_
    refine z_iload 39 rfl rfl rfl ?_
    refine y_al (f := 3) 40 _ hR rfl rfl rfl rfl (by omega) (by repeat (first | with_reducible exact hT3 | with_reducible exact hT4 | with_reducible exact (hTe i (by omega)).1 | with_reducible exact (hTe i (by omega)).2.1 | with_reducible exact (hTe i (by omega)).2.2.1 | with_reducible exact (hTs (i - E.length) (by omega)).1 | with_reducible exact (hTs (i - E.length) (by omega)).2.1 | with_reducible exact gA_eq _ _ _ _ | (with_reducible apply gA_ne; decide) | with_reducible apply gA_I | with_reducible apply gA_O | (with_reducible apply gA_nj; omega) | with_reducible rfl)) ?_
    refine z_bop 41 _ rfl rfl (by first | with_reducible exact zb_1 (by omega) | exact zd_1 _ _) ?_
    refine y_al (f := 10) 42 _ hR rfl rfl rfl (by rw [show 10 * p + i - E.length = 10 * p + (i - E.length) by omega]) (by omega) (by repeat (first | with_reducible exact hT3 | with_reducible exact hT4 | with_reducible exact (hTe i (by omega)).1 | with_reducible exact (hTe i (by omega)).2.1 | with_reducible exact (hTe i (by omega)).2.2.1 | with_reducible exact (hTs (i - E.length) (by omega)).1 | with_reducible exact (hTs (i - E.length) (by omega)).2.1 | with_reducible exact gA_eq _ _ _ _ | (with_reducible apply gA_ne; decide) | with_reducible apply gA_I | with_reducible apply gA_O | (with_reducible apply gA_nj; omega) | with_reducible rfl)) ?_
    refine z_ireti rfl (Nat.le_refl _) (Nat.le_refl _) ?_
    first | (rw [show itS E H i = _ from if_pos (by omega)] at q; exact q) | (rw [show itS E H i = _ from if_neg (by omega)] at q; exact q)
  · refine z_aload 11 rfl rfl rfl ?_
    refine y_ga 14 hR rfl rfl rfl ?_
    refine z_push 16 (nI 100) rfl rfl rfl ?_
    refine z_iload 17 rfl rfl rfl ?_
    refine z_bop 18 _ rfl rfl (by first | with_reducible exact zb_2 _ _ | exact zd_2 _ _) ?_
    refine z_iload 19 rfl rfl rfl ?_
    refine z_bop 20 _ rfl rfl (by first | with_reducible exact zb_0 _ _ | exact zd_0 _ _) ?_
    refine y_al (f := 5) 21 _ hR rfl rfl rfl rfl (by omega) (by repeat (first | with_reducible exact hT3 | with_reducible exact hT4 | with_reducible exact (hTe i (by omega)).1 | with_reducible exact (hTe i (by omega)).2.1 | with_reducible exact (hTe i (by omega)).2.2.1 | with_reducible exact (hTs (i - E.length) (by omega)).1 | with_reducible exact (hTs (i - E.length) (by omega)).2.1 | with_reducible exact gA_eq _ _ _ _ | (with_reducible apply gA_ne; decide) | with_reducible apply gA_I | with_reducible apply gA_O | (with_reducible apply gA_nj; omega) | with_reducible rfl)) ?_
    refine z_goto rfl ?_
    refine z_ireti rfl (Nat.le_refl _) (Nat.le_refl _) ?_
    first | (rw [show itS E H i = _ from if_pos (by omega)] at q; exact q) | (rw [show itS E H i = _ from if_neg (by omega)] at q; exact q)
set_option maxRecDepth 10000 in
theorem r_manyOf {d r : Nat} {h h0 : mH} {s : rS} {p i : Nat} {E : List En} {H : List Sh} {Q : mP} (hR : Rf r h0 s h) (hT : TbR s p E H) (hW : TbW E H) (hi : i < E.length + H.length)  (q : Q (some (.int (nI (itN E i)))) h) : mWP (d + 1) 190 [.ref r, .int (nI p), .int (nI i)] h Q := by
  obtain ⟨hp, hT3, hT4, hTe, hTs⟩ := id hT
  have hl := hW.1
  have hl2 := hW.2.1
  refine z_in [some (.ref r), some (.int (nI p)), some (.int (nI i))] (by rfl) rfl rfl rfl ?_
  refine z_iload 1 rfl rfl rfl ?_
  refine z_aload 2 rfl rfl rfl ?_
  refine y_ga 5 hR rfl rfl rfl ?_
  refine z_iload 6 rfl rfl rfl ?_
  refine y_al (f := 3) 7 _ hR rfl rfl rfl rfl (by omega) (by repeat (first | with_reducible exact hT3 | with_reducible exact hT4 | with_reducible exact (hTe i (by omega)).1 | with_reducible exact (hTe i (by omega)).2.1 | with_reducible exact (hTe i (by omega)).2.2.1 | with_reducible exact (hTs (i - E.length) (by omega)).1 | with_reducible exact (hTs (i - E.length) (by omega)).2.1 | with_reducible exact gA_eq _ _ _ _ | (with_reducible apply gA_ne; decide) | with_reducible apply gA_I | with_reducible apply gA_O | (with_reducible apply gA_nj; omega) | with_reducible rfl)) ?_
  refine z_nge 10 rfl rfl (by omega) (by omega) (fun hc7 => ?_) (fun hc7 => ?_)
  · refine z_push 25 (nI 1) rfl rfl rfl ?_
    refine z_ireti rfl (Nat.le_refl _) (Nat.le_refl _) ?_
    first | (rw [show itN E i = _ from if_pos (by omega)] at q; exact q) | (rw [show itN E i = _ from if_neg (by omega)] at q; exact q)
  · refine z_aload 11 rfl rfl rfl ?_
    refine y_ga 14 hR rfl rfl rfl ?_
    refine z_push 16 (nI 100) rfl rfl rfl ?_
    refine z_iload 17 rfl rfl rfl ?_
    refine z_bop 18 _ rfl rfl (by first | with_reducible exact zb_2 _ _ | exact zd_2 _ _) ?_
    refine z_iload 19 rfl rfl rfl ?_
    refine z_bop 20 _ rfl rfl (by first | with_reducible exact zb_0 _ _ | exact zd_0 _ _) ?_
    refine y_al (f := 6) 21 _ hR rfl rfl rfl rfl (by omega) (by repeat (first | with_reducible exact hT3 | with_reducible exact hT4 | with_reducible exact (hTe i (by omega)).1 | with_reducible exact (hTe i (by omega)).2.1 | with_reducible exact (hTe i (by omega)).2.2.1 | with_reducible exact (hTs (i - E.length) (by omega)).1 | with_reducible exact (hTs (i - E.length) (by omega)).2.1 | with_reducible exact gA_eq _ _ _ _ | (with_reducible apply gA_ne; decide) | with_reducible apply gA_I | with_reducible apply gA_O | (with_reducible apply gA_nj; omega) | with_reducible rfl)) ?_
    refine z_goto rfl ?_
    refine z_ireti rfl (Nat.le_refl _) (Nat.le_refl _) ?_
    first | (rw [show itN E i = _ from if_pos (by omega)] at q; exact q) | (rw [show itN E i = _ from if_neg (by omega)] at q; exact q)
set_option maxRecDepth 10000 in
theorem r_bytesOf {d r : Nat} {h h0 : mH} {s : rS} {p i : Nat} {E : List En} {H : List Sh} {Q : mP} (hR : Rf r h0 s h) (hT : TbR s p E H) (hW : TbW E H) (hi : i < E.length + H.length)  (q : Q (some (.int (nI (itT E H i)))) h) : mWP (d + 1) 191 [.ref r, .int (nI p), .int (nI i)] h Q := by
  obtain ⟨hp, hT3, hT4, hTe, hTs⟩ := id hT
  have hl := hW.1
  have hl2 := hW.2.1
  refine z_in [some (.ref r), some (.int (nI p)), some (.int (nI i))] (by rfl) rfl rfl rfl ?_
  refine z_iload 1 rfl rfl rfl ?_
  refine z_aload 2 rfl rfl rfl ?_
  refine y_ga 5 hR rfl rfl rfl ?_
  refine z_iload 6 rfl rfl rfl ?_
  refine y_al (f := 3) 7 _ hR rfl rfl rfl rfl (by omega) (by repeat (first | with_reducible exact hT3 | with_reducible exact hT4 | with_reducible exact (hTe i (by omega)).1 | with_reducible exact (hTe i (by omega)).2.1 | with_reducible exact (hTe i (by omega)).2.2.1 | with_reducible exact (hTs (i - E.length) (by omega)).1 | with_reducible exact (hTs (i - E.length) (by omega)).2.1 | with_reducible exact gA_eq _ _ _ _ | (with_reducible apply gA_ne; decide) | with_reducible apply gA_I | with_reducible apply gA_O | (with_reducible apply gA_nj; omega) | with_reducible rfl)) ?_
  refine z_nge 10 rfl rfl (by omega) (by omega) (fun hc7 => ?_) (fun hc7 => ?_)
  · refine z_aload 25 rfl rfl rfl ?_
    refine y_ga 28 hR rfl rfl rfl ?_
    refine z_push 30 (nI 10) rfl rfl rfl ?_
    refine z_iload 31 rfl rfl rfl ?_
    refine z_bop 32 _ rfl rfl (by first | with_reducible exact zb_2 _ _ | exact zd_2 _ _) ?_
    refine z_iload 33 rfl rfl rfl ?_
    refine z_bop 34 _ rfl rfl (by first | with_reducible exact zb_0 _ _ | exact zd_0 _ _) ?_
    refine z_aload 35 rfl rfl rfl ?_
    refine y_ga 38 hR rfl rfl rfl ?_
    refine z_iload 39 rfl rfl rfl ?_
    refine y_al (f := 3) 40 _ hR rfl rfl rfl rfl (by omega) (by repeat (first | with_reducible exact hT3 | with_reducible exact hT4 | with_reducible exact (hTe i (by omega)).1 | with_reducible exact (hTe i (by omega)).2.1 | with_reducible exact (hTe i (by omega)).2.2.1 | with_reducible exact (hTs (i - E.length) (by omega)).1 | with_reducible exact (hTs (i - E.length) (by omega)).2.1 | with_reducible exact gA_eq _ _ _ _ | (with_reducible apply gA_ne; decide) | with_reducible apply gA_I | with_reducible apply gA_O | (with_reducible apply gA_nj; omega) | with_reducible rfl)) ?_
    refine z_bop 41 _ rfl rfl (by first | with_reducible exact zb_1 (by omega) | exact zd_1 _ _) ?_
    refine y_al (f := 11) 42 _ hR rfl rfl rfl (by rw [show 10 * p + i - E.length = 10 * p + (i - E.length) by omega]) (by omega) (by repeat (first | with_reducible exact hT3 | with_reducible exact hT4 | with_reducible exact (hTe i (by omega)).1 | with_reducible exact (hTe i (by omega)).2.1 | with_reducible exact (hTe i (by omega)).2.2.1 | with_reducible exact (hTs (i - E.length) (by omega)).1 | with_reducible exact (hTs (i - E.length) (by omega)).2.1 | with_reducible exact gA_eq _ _ _ _ | (with_reducible apply gA_ne; decide) | with_reducible apply gA_I | with_reducible apply gA_O | (with_reducible apply gA_nj; omega) | with_reducible rfl)) ?_
    refine z_ireti rfl (Nat.le_refl _) (Nat.le_refl _) ?_
    first | (rw [show itT E H i = _ from if_pos (by omega)] at q; exact q) | (rw [show itT E H i = _ from if_neg (by omega)] at q; exact q)
  · refine z_aload 11 rfl rfl rfl ?_
    refine y_ga 14 hR rfl rfl rfl ?_
    refine z_push 16 (nI 100) rfl rfl rfl ?_
    refine z_iload 17 rfl rfl rfl ?_
    refine z_bop 18 _ rfl rfl (by first | with_reducible exact zb_2 _ _ | exact zd_2 _ _) ?_
    refine z_iload 19 rfl rfl rfl ?_
    refine z_bop 20 _ rfl rfl (by first | with_reducible exact zb_0 _ _ | exact zd_0 _ _) ?_
    refine y_al (f := 7) 21 _ hR rfl rfl rfl rfl (by omega) (by repeat (first | with_reducible exact hT3 | with_reducible exact hT4 | with_reducible exact (hTe i (by omega)).1 | with_reducible exact (hTe i (by omega)).2.1 | with_reducible exact (hTe i (by omega)).2.2.1 | with_reducible exact (hTs (i - E.length) (by omega)).1 | with_reducible exact (hTs (i - E.length) (by omega)).2.1 | with_reducible exact gA_eq _ _ _ _ | (with_reducible apply gA_ne; decide) | with_reducible apply gA_I | with_reducible apply gA_O | (with_reducible apply gA_nj; omega) | with_reducible rfl)) ?_
    refine z_goto rfl ?_
    refine z_ireti rfl (Nat.le_refl _) (Nat.le_refl _) ?_
    first | (rw [show itT E H i = _ from if_pos (by omega)] at q; exact q) | (rw [show itT E H i = _ from if_neg (by omega)] at q; exact q)
set_option maxRecDepth 10000 in
theorem r_numberOf {d r : Nat} {h h0 : mH} {s : rS} {p i : Nat} {E : List En} {H : List Sh} {Q : mP} (hR : Rf r h0 s h) (hT : TbR s p E H) (hW : TbW E H) (hi : i < E.length + H.length)  (q : Q (some (.int (nI (itO E i)))) h) : mWP (d + 1) 192 [.ref r, .int (nI p), .int (nI i)] h Q := by
  obtain ⟨hp, hT3, hT4, hTe, hTs⟩ := id hT
  have hl := hW.1
  have hl2 := hW.2.1
  refine z_in [some (.ref r), some (.int (nI p)), some (.int (nI i))] (by rfl) rfl rfl rfl ?_
  refine z_iload 1 rfl rfl rfl ?_
  refine z_aload 2 rfl rfl rfl ?_
  refine y_ga 5 hR rfl rfl rfl ?_
  refine z_iload 6 rfl rfl rfl ?_
  refine y_al (f := 3) 7 _ hR rfl rfl rfl rfl (by omega) (by repeat (first | with_reducible exact hT3 | with_reducible exact hT4 | with_reducible exact (hTe i (by omega)).1 | with_reducible exact (hTe i (by omega)).2.1 | with_reducible exact (hTe i (by omega)).2.2.1 | with_reducible exact (hTs (i - E.length) (by omega)).1 | with_reducible exact (hTs (i - E.length) (by omega)).2.1 | with_reducible exact gA_eq _ _ _ _ | (with_reducible apply gA_ne; decide) | with_reducible apply gA_I | with_reducible apply gA_O | (with_reducible apply gA_nj; omega) | with_reducible rfl)) ?_
  refine z_nge 10 rfl rfl (by omega) (by omega) (fun hc7 => ?_) (fun hc7 => ?_)
  · refine z_push 16 (nI 100) rfl rfl rfl ?_
    refine z_iload 17 rfl rfl rfl ?_
    refine z_bop 18 _ rfl rfl (by first | with_reducible exact zb_0 _ _ | exact zd_0 _ _) ?_
    refine z_aload 19 rfl rfl rfl ?_
    refine y_ga 22 hR rfl rfl rfl ?_
    refine z_iload 23 rfl rfl rfl ?_
    refine y_al (f := 3) 24 _ hR rfl rfl rfl rfl (by omega) (by repeat (first | with_reducible exact hT3 | with_reducible exact hT4 | with_reducible exact (hTe i (by omega)).1 | with_reducible exact (hTe i (by omega)).2.1 | with_reducible exact (hTe i (by omega)).2.2.1 | with_reducible exact (hTs (i - E.length) (by omega)).1 | with_reducible exact (hTs (i - E.length) (by omega)).2.1 | with_reducible exact gA_eq _ _ _ _ | (with_reducible apply gA_ne; decide) | with_reducible apply gA_I | with_reducible apply gA_O | (with_reducible apply gA_nj; omega) | with_reducible rfl)) ?_
    refine z_bop 25 _ rfl rfl (by first | with_reducible exact zb_1 (by omega) | exact zd_1 _ _) ?_
    refine z_ireti rfl (Nat.le_refl _) (Nat.le_refl _) ?_
    first | (rw [show itO E i = _ from if_pos (by omega)] at q; exact q) | (rw [show itO E i = _ from if_neg (by omega)] at q; exact q)
  · refine z_iload 11 rfl rfl rfl ?_
    refine z_goto rfl ?_
    refine z_ireti rfl (Nat.le_refl _) (Nat.le_refl _) ?_
    first | (rw [show itO E i = _ from if_pos (by omega)] at q; exact q) | (rw [show itO E i = _ from if_neg (by omega)] at q; exact q)
set_option maxRecDepth 10000 in
theorem r_begins {d r : Nat} {h h0 : mH} {s : rS} {p i k : Nat} {E : List En} {H : List Sh} {Q : mP} (hR : Rf r h0 s h) (hT : TbR s p E H) (hW : TbW E H) (hi : i < E.length + H.length) (hk : k < E.length + H.length)  (q : Q (some (.int (bI (bgn E H i k)))) h) : mWP (d + 2) 193 [.ref r, .int (nI p), .int (nI i), .int (nI k)] h Q := by
  have b1 := itN_b hW i
  have b2 := itN_b hW k
  have b3 := itT_b hW hi
  have b4 := itT_b hW hk
  refine z_in [some (.ref r), some (.int (nI p)), some (.int (nI i)), some (.int (nI k)), none, none] (by rfl) rfl rfl rfl ?_
  refine z_aload 1 rfl rfl rfl ?_
  refine z_iload 2 rfl rfl rfl ?_
  refine z_iload 3 rfl rfl rfl ?_
  refine z_cv2 6 rfl rfl hR.1 rfl (Nat.le_refl _) (Nat.le_refl _) ?_
  refine r_manyOf hR hT hW hi ?_
  refine z_istore 8 rfl rfl rfl rfl ?_
  refine z_aload 9 rfl rfl rfl ?_
  refine z_iload 10 rfl rfl rfl ?_
  refine z_iload 11 rfl rfl rfl ?_
  refine z_cv2 14 rfl rfl hR.1 rfl (Nat.le_refl _) (Nat.le_refl _) ?_
  refine r_manyOf hR hT hW hk ?_
  refine z_istore 16 rfl rfl rfl rfl ?_
  refine z_iload 18 rfl rfl rfl ?_
  refine z_iload 20 rfl rfl rfl ?_
  refine z_ngt 23 rfl rfl (by omega) (by omega) (fun hc20 => ?_) (fun hc20 => ?_)
  · refine z_push 52 (nI 0) rfl rfl rfl ?_
    refine z_iretb rfl (Nat.le_refl _) (Nat.le_refl _) (by first | decide | exact bI_01 _) ?_
    exact zq q (by rw [bgn]; first | (rw [decide_eq_true ⟨by omega, hc44⟩]; rfl) | (rw [decide_eq_false (fun h9 => hc44 h9.2)]; rfl) | (rw [decide_eq_false (by omega)]; rfl))
  · refine z_aload 24 rfl rfl rfl ?_
    refine z_iload 25 rfl rfl rfl ?_
    refine z_iload 26 rfl rfl rfl ?_
    refine z_cv2 29 rfl rfl hR.1 rfl (Nat.le_refl _) (Nat.le_refl _) ?_
    refine r_bytesOf hR hT hW hi ?_
    refine z_aload 30 rfl rfl rfl ?_
    refine z_iload 31 rfl rfl rfl ?_
    refine z_iload 32 rfl rfl rfl ?_
    refine z_cv2 35 rfl rfl hR.1 rfl (Nat.le_refl _) (Nat.le_refl _) ?_
    refine r_bytesOf hR hT hW hk ?_
    refine z_push 37 (nI 8) rfl rfl rfl ?_
    refine z_iload 39 rfl rfl rfl ?_
    refine z_iload 41 rfl rfl rfl ?_
    refine z_bop 42 _ rfl rfl (by first | with_reducible exact zb_1 (by omega) | exact zd_1 _ _) ?_
    refine z_bop 43 _ rfl rfl (by first | with_reducible exact zb_2 _ _ | exact zd_2 _ _) ?_
    refine z_bop 44 _ rfl rfl (shr_n (by omega) _ (by omega)) ?_
    have b5 : itT E H k / 2 ^ (8 * (itN E k - itN E i)) ≤ itT E H k := Nat.div_le_self _ _
    refine z_nne 47 rfl rfl (by omega) (by omega) (fun hc44 => ?_) (fun hc44 => ?_)
    · refine z_push 52 (nI 0) rfl rfl rfl ?_
      refine z_iretb rfl (Nat.le_refl _) (Nat.le_refl _) (by first | decide | exact bI_01 _) ?_
      exact zq q (by rw [bgn]; first | (rw [decide_eq_true ⟨by omega, hc44⟩]; rfl) | (rw [decide_eq_false (fun h9 => hc44 h9.2)]; rfl) | (rw [decide_eq_false (by omega)]; rfl))
    · refine z_push 48 (nI 1) rfl rfl rfl ?_
      refine z_goto rfl ?_
      refine z_iretb rfl (Nat.le_refl _) (Nat.le_refl _) (by first | decide | exact bI_01 _) ?_
      exact zq q (by rw [bgn]; first | (rw [decide_eq_true ⟨by omega, hc44⟩]; rfl) | (rw [decide_eq_false (fun h9 => hc44 h9.2)]; rfl) | (rw [decide_eq_false (by omega)]; rfl))
def Bt (s : rS) (r : Nat) : Prop := ∀ j, j < 4 → s.2.2 29 j = b2 (r.testBit j)
theorem nbf {a b : Nat} (h : a ≠ b) : Nat.beq a b = false := by
  cases h9 : Nat.beq a b with
  | false => rfl
  | true => exact absurd (Nat.eq_of_beq_eq_true h9) h
def f29 : Nat → Bool := fun f => Nat.beq f 29
theorem bt_or : ∀ r, r < 16 → ∀ g, g < 4 → ∀ j, j < 4 → (r ||| 1 <<< g).testBit j = (r.testBit j || decide (j = g)) := by decide +kernel
theorem Bt.or {s : rS} {r g : Nat} (h : Bt s r) (hr : r < 16) (hg : g < 4) : Bt (stA 29 g 1 s) (r ||| 1 <<< g) := by
  intro j hj
  rw [bt_or r hr g hg j hj]
  by_cases e : j = g
  · subst e; rw [gA_eq]; simp [b2]
  · rw [gA_nj e rfl, h j hj]; simp [e]
theorem rcF_s {s g : Nat → Nat} {kf : Nat → Bool} {c i r : Nat} (h : i < c) : rcF s g kf (c - i) i r = rcF s g kf (c - (i + 1)) (i + 1) (rcS s g kf r i) := by
  rw [show c - i = c - (i + 1) + 1 by omega]; rfl
theorem rcS_n {s g : Nat → Nat} {kf : Nat → Bool} {r i : Nat} (h : r.testBit (s i) = false) : rcS s g kf r i = r := by simp [rcS, h]
theorem rcS_y {s g : Nat → Nat} {kf : Nat → Bool} {r i : Nat} (h1 : kf i = true) (h : r.testBit (s i) = true) : rcS s g kf r i = r ||| 1 <<< g i := by simp [rcS, h, h1]
theorem b2_inj {a b : Bool} (h : b2 a = b2 b) : a = b := by cases a <;> cases b <;> simp [b2] at h ⊢
def rchd (H : List Sh) : Nat := rcK (shS H) (shG H) (shK H) H.length 4 1
def hmS (H : List Sh) (s : Nat) : Bool := (rcK (shS H) (shG H) (shK H) H.length 4 (1 <<< s)).testBit 0
set_option maxRecDepth 10000 in
theorem r_reach {d r : Nat} {h h0 : mH} {s : rS} {p : Nat} {E : List En} {H : List Sh} {Q : mP} (hR : Rf r h0 s h) (hT : TbR s p E H) (hW : TbW E H)  (q : ∀ h' s', Rf r h0 s' h' → OnA f29 s s' → Bt s' (rchd H) → Q none h') : mWP (d + 1) 194 [.ref r, .int (nI p)] h Q := by
  have hl2 := hW.2.1
  have hp := hT.1
  have inner : ∀ m i rr s1 h tn, H.length < i + m → i ≤ H.length → rr < 16 → Rf r h0 s1 h → OnA f29 s s1 → Bt s1 rr → (∀ s2 h, Rf r h0 s2 h → OnA f29 s s2 → Bt s2 (rcF (shS H) (shG H) (shK H) (H.length - i) i rr) → mZ d tk_194 0 0 Q 96 [some (.ref r), some (.int (nI p)), some (.int (nI tn)), some (.int (nI (10 * p + H.length)))] [] h 0 0) → mZ d tk_194 0 0 Q 40 [some (.ref r), some (.int (nI p)), some (.int (nI tn)), some (.int (nI (10 * p + i)))] [] h 0 0 := by
    intro m
    induction m with
    | zero => intro i rr s1 h tn h1 h2; omega
    | succ m ih =>
      intro i rr s1 h tn h1 h2 hrr hR hO hBt K
      obtain ⟨hp', hT3, hT4, hTe, hTs⟩ := hO.tb (fun f hf => nbf (by omega)) hT
      have hBt' : ∀ j, j < 4 → s1.2.2 29 j = b2 (rr.testBit j) := hBt
      have hWi := hW.2.2.2 i
      refine z_iload 41 rfl rfl rfl ?_
      refine z_push 43 (nI 10) rfl rfl rfl ?_
      refine z_iload 44 rfl rfl rfl ?_
      refine z_bop 45 _ rfl rfl (by first | with_reducible exact zb_2 _ _ | exact zd_2 _ _) ?_
      refine z_aload 46 rfl rfl rfl ?_
      refine y_ga 49 hR rfl rfl rfl ?_
      refine z_iload 50 rfl rfl rfl ?_
      refine y_al (f := 4) 51 _ hR rfl rfl rfl rfl (by omega) (by repeat (first | with_reducible exact hT4 | with_reducible exact (hTs i (by omega)).1 | with_reducible exact (hTs i (by omega)).2.1 | with_reducible exact (hTs i (by omega)).2.2.1 | with_reducible exact (hTs i (by omega)).2.2.2 | with_reducible exact hBt' _ (by omega) | with_reducible exact gA_eq _ _ _ _ | (with_reducible apply gA_ne; decide) | with_reducible apply gA_I | with_reducible apply gA_O | (with_reducible apply gA_nj; omega) | with_reducible rfl)) ?_
      refine z_bop 52 _ rfl rfl (by first | with_reducible exact zb_0 _ _ | exact zd_0 _ _) ?_
      refine z_nge 55 rfl rfl (by omega) (by omega) (fun hc52 => ?_) (fun hc52 => ?_)
      · obtain rfl : i = H.length := by omega
        rw [Nat.sub_self] at K
        exact K s1 h hR hO hBt
      · have hWj := hWi (by omega)
        rw [rcF_s (by omega)] at K
        refine z_aload 56 rfl rfl rfl ?_
        refine y_ga 59 hR rfl rfl rfl ?_
        refine z_iload 60 rfl rfl rfl ?_
        refine y_bb (f := 13) 61 _ hR rfl rfl rfl rfl (by omega) (by repeat (first | with_reducible exact hT4 | with_reducible exact (hTs i (by omega)).1 | with_reducible exact (hTs i (by omega)).2.1 | with_reducible exact (hTs i (by omega)).2.2.1 | with_reducible exact (hTs i (by omega)).2.2.2 | with_reducible exact hBt' _ (by omega) | with_reducible exact gA_eq _ _ _ _ | (with_reducible apply gA_ne; decide) | with_reducible apply gA_I | with_reducible apply gA_O | (with_reducible apply gA_nj; omega) | with_reducible rfl)) ?_
        first | refine z_beq 64 rfl rfl (fun hc61 => ?_) (fun hc61 => ?_)
        · refine z_iinc 93 _ rfl rfl rfl rfl (by first | with_reducible exact zi_1 _ | rfl) ?_
          refine z_goto rfl ?_
          rw [rcS_a hc61] at K
          exact ih (i + 1) rr s1 h tn (by omega) (by omega) hrr hR hO hBt K
        · refine z_aload 65 rfl rfl rfl ?_
          refine y_ga 68 hR rfl rfl rfl ?_
          refine z_aload 69 rfl rfl rfl ?_
          refine y_ga 72 hR rfl rfl rfl ?_
          refine z_iload 73 rfl rfl rfl ?_
          refine y_al (f := 10) 74 _ hR rfl rfl rfl rfl (by omega) (by repeat (first | with_reducible exact hT4 | with_reducible exact (hTs i (by omega)).1 | with_reducible exact (hTs i (by omega)).2.1 | with_reducible exact (hTs i (by omega)).2.2.1 | with_reducible exact (hTs i (by omega)).2.2.2 | with_reducible exact hBt' _ (by omega) | with_reducible exact gA_eq _ _ _ _ | (with_reducible apply gA_ne; decide) | with_reducible apply gA_I | with_reducible apply gA_O | (with_reducible apply gA_nj; omega) | with_reducible rfl)) ?_
          refine y_bb (f := 29) 75 _ hR rfl rfl rfl rfl (by omega) (by repeat (first | with_reducible exact hT4 | with_reducible exact (hTs i (by omega)).1 | with_reducible exact (hTs i (by omega)).2.1 | with_reducible exact (hTs i (by omega)).2.2.1 | with_reducible exact (hTs i (by omega)).2.2.2 | with_reducible exact hBt' _ (by omega) | with_reducible exact gA_eq _ _ _ _ | (with_reducible apply gA_ne; decide) | with_reducible apply gA_I | with_reducible apply gA_O | (with_reducible apply gA_nj; omega) | with_reducible rfl)) ?_
          first | refine z_beq 78 rfl rfl (fun hc75 => ?_) (fun hc75 => ?_)
          · refine z_iinc 93 _ rfl rfl rfl rfl (by first | with_reducible exact zi_1 _ | rfl) ?_
            refine z_goto rfl ?_
            rw [rcS_n hc75] at K
            exact ih (i + 1) rr s1 h tn (by omega) (by omega) hrr hR hO hBt K
          · refine z_aload 79 rfl rfl rfl ?_
            refine y_ga 82 hR rfl rfl rfl ?_
            refine z_aload 83 rfl rfl rfl ?_
            refine y_ga 86 hR rfl rfl rfl ?_
            refine z_iload 87 rfl rfl rfl ?_
            refine y_al (f := 12) 88 _ hR rfl rfl rfl rfl (by omega) (by repeat (first | with_reducible exact hT4 | with_reducible exact (hTs i (by omega)).1 | with_reducible exact (hTs i (by omega)).2.1 | with_reducible exact (hTs i (by omega)).2.2.1 | with_reducible exact (hTs i (by omega)).2.2.2 | with_reducible exact hBt' _ (by omega) | with_reducible exact gA_eq _ _ _ _ | (with_reducible apply gA_ne; decide) | with_reducible apply gA_I | with_reducible apply gA_O | (with_reducible apply gA_nj; omega) | with_reducible rfl)) ?_
            refine z_push 89 (nI 1) rfl rfl rfl ?_
            refine y_bs (f := 29) 90 hR rfl rfl rfl rfl (by omega) (by decide) ?_
            intro h hR
            refine z_iinc 93 _ rfl rfl rfl rfl (by first | with_reducible exact zi_1 _ | rfl) ?_
            refine z_goto rfl ?_
            rw [rcS_y hc61 hc75] at K
            exact ih (i + 1) _ _ h tn (by omega) (by omega) (zt_lt _ hrr _ (by omega)) hR (hO.A rfl) (hBt.or hrr (by omega)) K
  have outer : ∀ m tn rr s1 h o3, 4 < tn + m → tn ≤ 4 → rr < 16 → rchd H = rcK (shS H) (shG H) (shK H) H.length (4 - tn) rr → Rf r h0 s1 h → OnA f29 s s1 → Bt s1 rr → mZ d tk_194 0 0 Q 30 [some (.ref r), some (.int (nI p)), some (.int (nI tn)), o3] [] h 0 0 := by
    intro m
    induction m with
    | zero => intro tn rr s1 h o3 h1 h2; omega
    | succ m ih =>
      intro tn rr s1 h o3 h1 h2 hrr hr9 hR hO hBt
      refine z_iload 31 rfl rfl rfl ?_
      refine z_push 32 (nI 4) rfl rfl rfl ?_
      refine z_nge 35 rfl rfl (by omega) (by omega) (fun hc32 => ?_) (fun hc32 => ?_)
      · refine z_vret rfl (Nat.le_refl _) (Nat.le_refl _) ?_
        obtain rfl : tn = 4 := by omega
        rw [show rr = rchd H from by rw [hr9]; rfl] at hBt
        exact q h s1 hR hO hBt
      · refine z_push 37 (nI 10) rfl rfl rfl ?_
        refine z_iload 38 rfl rfl rfl ?_
        refine z_bop 39 _ rfl rfl (by first | with_reducible exact zb_2 _ _ | exact zd_2 _ _) ?_
        refine z_istore 40 rfl rfl rfl rfl ?_
        refine inner (H.length + 1) 0 rr s1 h tn (by omega) (by omega) hrr hR hO hBt (fun s2 h hR hO hBt => ?_)
        refine z_iinc 99 _ rfl rfl rfl rfl (zi_1 _) ?_
        refine z_goto rfl ?_
        refine ih (tn + 1) _ s2 h _ (by omega) (by omega) (rcF_lt _ _ hrr (fun j hj => (hW.2.2.2 j (by omega)).2.2.1)) ?_ hR hO hBt
        rw [hr9, show 4 - tn = 4 - (tn + 1) + 1 by omega]
        rfl
  have init : ∀ m i s1 h o3, 4 < i + m → i ≤ 4 → Rf r h0 s1 h → OnA f29 s s1 → (∀ j, j < i → s1.2.2 29 j = b2 ((1 : Nat).testBit j)) → mZ d tk_194 0 0 Q 2 [some (.ref r), some (.int (nI p)), some (.int (nI i)), o3] [] h 0 0 := by
    intro m
    induction m with
    | zero => intro i s1 h o3 h1 h2; omega
    | succ m ih =>
      intro i s1 h o3 h1 h2 hR hO hBt
      have i01 : ∀ x : Nat, (x = 1 ↔ i = 0) → x < 2 → i < 4 → x = b2 ((1 : Nat).testBit i) := by
        intro x hx hx2 hi4
        have h9 : i = 0 ∨ i = 1 ∨ i = 2 ∨ i = 3 := by omega
        rcases h9 with rfl | rfl | rfl | rfl
        · rw [hx.mpr rfl]; rfl
        · have : x = 0 := by omega
          rw [this]; rfl
        · have : x = 0 := by omega
          rw [this]; rfl
        · have : x = 0 := by omega
          rw [this]; rfl
      refine z_iload 3 rfl rfl rfl ?_
      refine z_push 4 (nI 4) rfl rfl rfl ?_
      refine z_nge 7 rfl rfl (by omega) (by omega) (fun hc4 => ?_) (fun hc4 => ?_)
      · refine z_push 29 (nI 0) rfl rfl rfl ?_
        refine z_istore 30 rfl rfl rfl rfl ?_
        exact outer 5 0 1 s1 h _ (by omega) (by omega) (by omega) rfl hR hO (fun j hj => hBt j (by omega))
      · refine z_aload 8 rfl rfl rfl ?_
        refine y_ga 11 hR rfl rfl rfl ?_
        refine z_iload 12 rfl rfl rfl ?_
        refine z_iload 13 rfl rfl rfl ?_
        first | refine z_zne 16 rfl rfl (by omega) (fun hc13 => ?_) (fun hc13 => ?_)
        · refine z_push 21 (nI 0) rfl rfl rfl ?_
          refine y_bs (f := 29) 22 hR rfl rfl rfl rfl (by omega) (by decide) ?_
          intro h hR
          refine z_iinc 25 _ rfl rfl rfl rfl (by first | with_reducible exact zi_1 _ | rfl) ?_
          refine z_goto rfl ?_
          refine ih (i + 1) _ h o3 (by omega) (by omega) hR (hO.A rfl) (fun j hj => ?_)
          by_cases e : j = i
          · subst e
            rw [gA_eq]
            exact i01 _ (by omega) (by omega) (by omega)
          · rw [gA_nj e rfl]
            exact hBt j (by omega)
        · refine z_push 17 (nI 1) rfl rfl rfl ?_
          refine z_goto rfl ?_
          refine y_bs (f := 29) 22 hR rfl rfl rfl rfl (by omega) (by decide) ?_
          intro h hR
          refine z_iinc 25 _ rfl rfl rfl rfl (by first | with_reducible exact zi_1 _ | rfl) ?_
          refine z_goto rfl ?_
          refine ih (i + 1) _ h o3 (by omega) (by omega) hR (hO.A rfl) (fun j hj => ?_)
          by_cases e : j = i
          · subst e
            rw [gA_eq]
            exact i01 _ (by omega) (by omega) (by omega)
          · rw [gA_nj e rfl]
            exact hBt j (by omega)
  refine z_in [some (.ref r), some (.int (nI p)), none, none] (by rfl) rfl rfl rfl ?_
  refine z_push 1 (nI 0) rfl rfl rfl ?_
  refine z_istore 2 rfl rfl rfl rfl ?_
  exact init 5 0 s h _ (by omega) (by omega) hR OnA.rfl (fun j hj => absurd hj (by omega))
theorem hm_1 {rr : Nat} (hr : rr < 16) : mBop 3 (nI rr) (nI 1) = nI (b2 (rr.testBit 0)) := by
  have : ∀ rr, rr < 16 → mBop 3 (nI rr) (nI 1) = nI (b2 (rr.testBit 0)) := by decide +kernel
  exact this rr hr
theorem hm_t {b : Bool} (h : b2 b = 1) : nI 1 = bI b := by cases b <;> simp [b2] at h ⊢; rfl
theorem hm_f {b : Bool} (h : ¬ b2 b = 1) : nI 0 = bI b := by cases b <;> simp [b2] at h ⊢; rfl
theorem sh1 {x : Nat} (hx : x < 4) : mBop 6 (nI 1) (nI x) = nI (1 <<< x) := by
  have : ∀ x, x < 4 → mBop 6 (nI 1) (nI x) = nI (1 <<< x) := by decide +kernel
  exact this x hx
theorem sh1_lt {x : Nat} (hx : x < 4) : 1 <<< x < 16 := by
  have : ∀ x, x < 4 → 1 <<< x < 16 := by decide
  exact this x hx
set_option maxRecDepth 10000 in
theorem r_comesHome {d r : Nat} {h h0 : mH} {s : rS} {p sx : Nat} {E : List En} {H : List Sh} {Q : mP} (hR : Rf r h0 s h) (hT : TbR s p E H) (hW : TbW E H) (hx : sx < 4)  (q : Q (some (.int (bI (hmS H sx)))) h) : mWP (d + 1) 195 [.ref r, .int (nI p), .int (nI sx)] h Q := by
  have hl2 := hW.2.1
  obtain ⟨hp, hT3, hT4, hTe, hTs⟩ := id hT
  have inner : ∀ m i rr tn, H.length < i + m → i ≤ H.length → rr < 16 → mZ d tk_195 0 0 Q 78 [some (.ref r), some (.int (nI p)), some (.int (nI sx)), some (.int (nI (rcF (shS H) (shG H) (shK H) (H.length - i) i rr))), some (.int (nI tn)), some (.int (nI (10 * p + H.length)))] [] h 0 0 → mZ d tk_195 0 0 Q 19 [some (.ref r), some (.int (nI p)), some (.int (nI sx)), some (.int (nI rr)), some (.int (nI tn)), some (.int (nI (10 * p + i)))] [] h 0 0 := by
    intro m
    induction m with
    | zero => intro i rr tn h1 h2; omega
    | succ m ih =>
      intro i rr tn h1 h2 hrr K
      have hWi := hW.2.2.2 i
      refine z_iload 21 rfl rfl rfl ?_
      refine z_push 23 (nI 10) rfl rfl rfl ?_
      refine z_iload 24 rfl rfl rfl ?_
      refine z_bop 25 _ rfl rfl (by first | with_reducible exact zb_2 _ _ | exact zd_2 _ _) ?_
      refine z_aload 26 rfl rfl rfl ?_
      refine y_ga 29 hR rfl rfl rfl ?_
      refine z_iload 30 rfl rfl rfl ?_
      refine y_al (f := 4) 31 _ hR rfl rfl rfl rfl (by omega) (by repeat (first | with_reducible exact hT4 | with_reducible exact (hTs i (by omega)).1 | with_reducible exact (hTs i (by omega)).2.1 | with_reducible exact (hTs i (by omega)).2.2.1 | with_reducible exact (hTs i (by omega)).2.2.2 | with_reducible exact gA_eq _ _ _ _ | (with_reducible apply gA_ne; decide) | with_reducible apply gA_I | with_reducible apply gA_O | (with_reducible apply gA_nj; omega) | with_reducible rfl)) ?_
      refine z_bop 32 _ rfl rfl (by first | with_reducible exact zb_0 _ _ | exact zd_0 _ _) ?_
      refine z_nge 35 rfl rfl (by omega) (by omega) (fun hc32 => ?_) (fun hc32 => ?_)
      · obtain rfl : i = H.length := by omega
        rw [Nat.sub_self] at K
        exact K
      · have hWj := hWi (by omega)
        rw [rcF_s (by omega)] at K
        refine z_aload 36 rfl rfl rfl ?_
        refine y_ga 39 hR rfl rfl rfl ?_
        refine z_iload 41 rfl rfl rfl ?_
        refine y_bb (f := 13) 42 _ hR rfl rfl rfl rfl (by omega) (by repeat (first | with_reducible exact hT4 | with_reducible exact (hTs i (by omega)).1 | with_reducible exact (hTs i (by omega)).2.1 | with_reducible exact (hTs i (by omega)).2.2.1 | with_reducible exact (hTs i (by omega)).2.2.2 | with_reducible exact gA_eq _ _ _ _ | (with_reducible apply gA_ne; decide) | with_reducible apply gA_I | with_reducible apply gA_O | (with_reducible apply gA_nj; omega) | with_reducible rfl)) ?_
        first | refine z_beq 45 rfl rfl (fun hc42 => ?_) (fun hc42 => ?_)
        · refine z_iinc 75 _ rfl rfl rfl rfl (by first | with_reducible exact zi_1 _ | rfl) ?_
          refine z_goto rfl ?_
          rw [rcS_a hc42] at K
          exact ih (i + 1) rr tn (by omega) (by omega) hrr K
        · refine z_iload 46 rfl rfl rfl ?_
          refine z_aload 47 rfl rfl rfl ?_
          refine y_ga 50 hR rfl rfl rfl ?_
          refine z_iload 52 rfl rfl rfl ?_
          refine y_al (f := 10) 53 _ hR rfl rfl rfl rfl (by omega) (by repeat (first | with_reducible exact hT4 | with_reducible exact (hTs i (by omega)).1 | with_reducible exact (hTs i (by omega)).2.1 | with_reducible exact (hTs i (by omega)).2.2.1 | with_reducible exact (hTs i (by omega)).2.2.2 | with_reducible exact gA_eq _ _ _ _ | (with_reducible apply gA_ne; decide) | with_reducible apply gA_I | with_reducible apply gA_O | (with_reducible apply gA_nj; omega) | with_reducible rfl)) ?_
          refine z_bop 54 _ rfl rfl rfl ?_
          refine z_push 55 (nI 1) rfl rfl rfl ?_
          refine z_bop 56 _ rfl rfl (zt_bit hrr (by omega)) ?_
          refine z_push 57 (nI 1) rfl rfl rfl ?_
          have h9 := tb9_lt rr (shS H i)
          refine z_nne 60 rfl rfl (by omega) (by omega) (fun hc57 => ?_) (fun hc57 => ?_)
          · refine z_iinc 75 _ rfl rfl rfl rfl (by first | with_reducible exact zi_1 _ | rfl) ?_
            refine z_goto rfl ?_
            rw [rcS_c hc57] at K
            exact ih (i + 1) rr tn (by omega) (by omega) hrr K
          · refine z_iload 61 rfl rfl rfl ?_
            refine z_push 62 (nI 1) rfl rfl rfl ?_
            refine z_aload 63 rfl rfl rfl ?_
            refine y_ga 66 hR rfl rfl rfl ?_
            refine z_iload 68 rfl rfl rfl ?_
            refine y_al (f := 12) 69 _ hR rfl rfl rfl rfl (by omega) (by repeat (first | with_reducible exact hT4 | with_reducible exact (hTs i (by omega)).1 | with_reducible exact (hTs i (by omega)).2.1 | with_reducible exact (hTs i (by omega)).2.2.1 | with_reducible exact (hTs i (by omega)).2.2.2 | with_reducible exact gA_eq _ _ _ _ | (with_reducible apply gA_ne; decide) | with_reducible apply gA_I | with_reducible apply gA_O | (with_reducible apply gA_nj; omega) | with_reducible rfl)) ?_
            refine z_bop 70 _ rfl rfl rfl ?_
            refine z_bop 71 _ rfl rfl (zt_or hrr (by omega)) ?_
            refine z_istore 72 rfl rfl rfl rfl ?_
            refine z_iinc 75 _ rfl rfl rfl rfl (by first | with_reducible exact zi_1 _ | rfl) ?_
            refine z_goto rfl ?_
            rw [rcS_b hc42 hc57] at K
            exact ih (i + 1) _ tn (by omega) (by omega) (zt_lt _ hrr _ (by omega)) K
  have outer : ∀ m tn rr o5, 4 < tn + m → tn ≤ 4 → rr < 16 → hmS H sx = (rcK (shS H) (shG H) (shK H) H.length (4 - tn) rr).testBit 0 → mZ d tk_195 0 0 Q 7 [some (.ref r), some (.int (nI p)), some (.int (nI sx)), some (.int (nI rr)), some (.int (nI tn)), o5] [] h 0 0 := by
    intro m
    induction m with
    | zero => intro tn rr o5 h1 h2; omega
    | succ m ih =>
      intro tn rr o5 h1 h2 hrr hr9
      refine z_iload 9 rfl rfl rfl ?_
      refine z_push 10 (nI 4) rfl rfl rfl ?_
      refine z_nge 13 rfl rfl (by omega) (by omega) (fun hc10 => ?_) (fun hc10 => ?_)
      · obtain rfl : tn = 4 := by omega
        have h7 : hmS H sx = rr.testBit 0 := hr9
        refine z_iload 85 rfl rfl rfl ?_
        refine z_push 86 (nI 1) rfl rfl rfl ?_
        refine z_bop 87 _ rfl rfl (hm_1 hrr) ?_
        refine z_push 88 (nI 1) rfl rfl rfl ?_
        have h9 := b2_lt (rr.testBit 0)
        refine z_nne 91 rfl rfl (by omega) (by omega) (fun hc88 => ?_) (fun hc88 => ?_)
        · refine z_push 96 (nI 0) rfl rfl rfl ?_
          refine z_iretb rfl (Nat.le_refl _) (Nat.le_refl _) (by first | decide | exact bI_01 _) ?_
          exact zq q (by rw [h7]; first | rw [hm_t hc88] | rw [hm_f hc88])
        · refine z_push 92 (nI 1) rfl rfl rfl ?_
          refine z_goto rfl ?_
          refine z_iretb rfl (Nat.le_refl _) (Nat.le_refl _) (by first | decide | exact bI_01 _) ?_
          exact zq q (by rw [h7]; first | rw [hm_t hc88] | rw [hm_f hc88])
      · refine z_push 15 (nI 10) rfl rfl rfl ?_
        refine z_iload 16 rfl rfl rfl ?_
        refine z_bop 17 _ rfl rfl (by first | with_reducible exact zb_2 _ _ | exact zd_2 _ _) ?_
        refine z_istore 19 rfl rfl rfl rfl ?_
        refine inner (H.length + 1) 0 rr tn (by omega) (by omega) hrr ?_
        refine z_iinc 81 _ rfl rfl rfl rfl (zi_1 _) ?_
        refine z_goto rfl ?_
        refine ih (tn + 1) _ _ (by omega) (by omega) (rcF_lt _ _ hrr (fun j hj => (hW.2.2.2 j (by omega)).2.2.1)) ?_
        rw [hr9, show 4 - tn = 4 - (tn + 1) + 1 by omega]
        rfl
  refine z_in [some (.ref r), some (.int (nI p)), some (.int (nI sx)), none, none, none] (by rfl) rfl rfl rfl ?_
  refine z_push 1 (nI 1) rfl rfl rfl ?_
  refine z_iload 2 rfl rfl rfl ?_
  refine z_bop 3 _ rfl rfl (sh1 hx) ?_
  refine z_istore 4 rfl rfl rfl rfl ?_
  refine z_push 5 (nI 0) rfl rfl rfl ?_
  refine z_istore 7 rfl rfl rfl rfl ?_
  exact outer 5 0 (1 <<< sx) _ (by omega) (by omega) (sh1_lt hx) rfl

set_option maxRecDepth 10000 in
theorem r_breaks {d r : Nat} {h h0 : mH} {s : rS} {a b c : Nat} {Q : mP} (hR : Rf r h0 s h)  (q : ∀ h', Rf r h0 (stA 30 2 c (stA 30 1 b (stA 30 0 a s))) h' → Q (some (.int (bI false))) h') : mWP (d + 1) 196 [.ref r, .int (nI a), .int (nI b), .int (nI c)] h Q := by
  refine z_in [some (.ref r), some (.int (nI a)), some (.int (nI b)), some (.int (nI c))] (by rfl) rfl rfl rfl ?_
  refine z_aload 1 rfl rfl rfl ?_
  refine y_ga 4 hR rfl rfl rfl ?_
  refine z_push 5 (nI 0) rfl rfl rfl ?_
  refine z_iload 6 rfl rfl rfl ?_
  refine y_as (f := 30) 7 hR rfl rfl rfl rfl (by omega) ?_
  intro h hR
  refine z_aload 8 rfl rfl rfl ?_
  refine y_ga 11 hR rfl rfl rfl ?_
  refine z_push 12 (nI 1) rfl rfl rfl ?_
  refine z_iload 13 rfl rfl rfl ?_
  refine y_as (f := 30) 14 hR rfl rfl rfl rfl (by omega) ?_
  intro h hR
  refine z_aload 15 rfl rfl rfl ?_
  refine y_ga 18 hR rfl rfl rfl ?_
  refine z_push 19 (nI 2) rfl rfl rfl ?_
  refine z_iload 20 rfl rfl rfl ?_
  refine y_as (f := 30) 21 hR rfl rfl rfl rfl (by omega) ?_
  intro h hR
  refine z_push 22 (nI 0) rfl rfl rfl ?_
  refine z_iretb rfl (Nat.le_refl _) (Nat.le_refl _) (by first | decide | exact bI_01 _) ?_
  exact q h hR
