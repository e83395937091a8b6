/-! routes: how far it is -/
theorem Wy_dec {H : List Sh} {to : Nat} {sg : Bool} : ∀ (n s : Nat), Wy H to sg n s → Pt H n s to ∨ ∃ n' k, n = n' + 1 ∧ k < H.length ∧ Pt H n' s (shS H k) ∧ shG H k = to ∧ sg = true
  | 0, s, h => Or.inl h
  | n + 1, s, ⟨k, h1, h2, h3⟩ => by
    rcases h3 with ⟨e, h4, h5⟩ | ⟨e, h4, h5⟩
    · subst e
      by_cases hk : shK H k = true
      · exact Or.inl ⟨k, h1, h2, hk, h4⟩
      · refine Or.inr ⟨0, k, rfl, h1, h2.symm, h4, ?_⟩
        rcases h5 with h5 | h5
        · exact absurd h5 hk
        · exact h5
    · rcases Wy_dec n _ h5 with h6 | ⟨n', k', e2, h6, h7, h8, h9⟩
      · exact Or.inl ⟨k, h1, h2, h4, h6⟩
      · exact Or.inr ⟨n' + 1, k', by omega, h6, ⟨k, h1, h2, h4, h7⟩, h8, h9⟩
theorem Wy_short {H : List Sh} {to : Nat} {sg : Bool} (hG : ∀ k, k < H.length → shS H k < 4 ∧ shG H k < 4) (hto : to < 4) {n s : Nat} (hs : s < 4) (h : Wy H to sg n s) : ∃ m, m ≤ 3 ∧ Wy H to sg m s := by
  rcases Wy_dec n s h with h1 | ⟨n', k, _, hk, h1, h2, h3⟩
  · obtain ⟨m, hm, hp⟩ := Pt.short hG n s to hs h1
    exact ⟨m, hm, Pt_Wy hp⟩
  · subst h3
    obtain ⟨m, hm, hp⟩ := Pt.short hG n' s _ hs h1
    by_cases hm2 : m ≤ 2
    · exact ⟨m + 1, by omega, Pt_Wy1 hk rfl h2 hp⟩
    · obtain rfl : m = 3 := by omega
      obtain ⟨c, c0, cn, cs⟩ := hp.at
      have cb : ∀ i, i ≤ 3 → c i < 4 := fun i hi => by
        cases i with
        | zero => rw [c0]; exact hs
        | succ i => obtain ⟨k, h1, _, _, h4⟩ := cs i (by omega); rw [← h4]; exact (hG k h1).2
      obtain ⟨i, j, hij, hj, he⟩ := pigeon 4 (fun i => if i = 4 then to else c i) (fun i hi => by
        show (if i = 4 then to else c i) < 4
        split
        · exact hto
        · exact cb i (by omega))
      have he' : (if i = 4 then to else c i) = (if j = 4 then to else c j) := he
      rw [if_neg (by omega)] at he'
      by_cases ej : j = 4
      · rw [if_pos ej] at he'
        have p1 := Pt.of (H := H) (c := c) i 0 (fun k h1 h2 => cs k (by omega))
        rw [Nat.zero_add, c0, he'] at p1
        exact ⟨i, by omega, Pt_Wy p1⟩
      · rw [if_neg ej] at he'
        have p1 := Pt.of (H := H) (c := c) i 0 (fun k h1 h2 => cs k (by omega))
        have p2 := Pt.of (H := H) (c := c) (3 - j) j (fun k h1 h2 => cs k (by omega))
        rw [Nat.zero_add, c0, he'] at p1
        rw [show j + (3 - j) = 3 by omega, cn] at p2
        exact ⟨i + (3 - j) + 1, by omega, Pt_Wy1 hk rfl h2 (p1.cat p2)⟩
theorem sBy_congr {w g g' : Nat → Nat} {kf kf' : Nat → Bool} {gl i : Nat} (h1 : g i = g' i) (h2 : kf i = kf' i) : sBy w g kf gl i = sBy w g' kf' gl i := by unfold sBy; rw [h1, h2]
/-- the goal of a route, and whether a single shift may be the last -/
def gSg (gl : Nat) : Bool := decide (gl ≠ 4)
/-- what is measured, is a way -/
def MsI (H : List Sh) (gl : Nat) (w : Nat → Nat) : Prop := ∀ s, s < 4 → w s = 100 ∨ (w s < 100 ∧ Wy H (gSt gl) (gSg gl) (w s) s)
theorem ms_s {H : List Sh} {gl i : Nat} {w : Nat → Nat} (hG : ∀ k, k < H.length → shS H k < 4 ∧ shG H k < 4) (hi : i < H.length) (h : MsI H gl w) : MsI H gl (msS (shS H) (shG H) (shK H) gl w i) := by
  intro s hs
  unfold msS updN
  by_cases e : s = shS H i
  · subst e
    rw [if_pos rfl]
    have h0 := h _ hs
    rcases Nat.le_total (w (shS H i)) (sBy w (shG H) (shK H) gl i) with h1 | h1
    · rw [Nat.min_eq_left h1]; exact h0
    · rw [Nat.min_eq_right h1]
      by_cases h100 : sBy w (shG H) (shK H) gl i = 100
      · exact Or.inl h100
      · have hlt : sBy w (shG H) (shK H) gl i < 100 := by rcases h0 with h2 | h2 <;> omega
        refine Or.inr ⟨hlt, ?_⟩
        unfold sBy at hlt ⊢
        by_cases hk : shK H i = true
        · rw [if_pos hk] at hlt ⊢
          rcases h _ (hG i hi).2 with h2 | h2
          · omega
          · rw [Nat.add_comm]
            refine ⟨i, hi, rfl, ?_⟩
            by_cases e0 : w (shG H i) = 0
            · rw [e0] at h2 ⊢
              exact Or.inl ⟨rfl, h2.2, Or.inl hk⟩
            · exact Or.inr ⟨e0, hk, h2.2⟩
        · rw [if_neg hk] at hlt ⊢
          by_cases h3 : gl ≠ 4 ∧ shG H i = gl
          · rw [if_pos h3]
            exact ⟨i, hi, rfl, Or.inl ⟨rfl, by rw [gSt, if_neg h3.1]; exact h3.2, Or.inr (decide_eq_true h3.1)⟩⟩
          · rw [if_neg h3] at hlt; omega
  · rw [if_neg e]; exact h s hs
theorem ms_f {H : List Sh} {gl : Nat} (hG : ∀ k, k < H.length → shS H k < 4 ∧ shG H k < 4) : ∀ (m i : Nat) (w : Nat → Nat), i + m ≤ H.length → MsI H gl w → MsI H gl (msF (shS H) (shG H) (shK H) gl m i w)
  | 0, _, _, _, h => h
  | m + 1, i, w, hl, h => ms_f hG m (i + 1) _ (by omega) (ms_s hG (by omega) h)
theorem ms_k {H : List Sh} {gl : Nat} (hG : ∀ k, k < H.length → shS H k < 4 ∧ shG H k < 4) : ∀ (k : Nat) (w : Nat → Nat), MsI H gl w → MsI H gl (msK (shS H) (shG H) (shK H) gl H.length k w)
  | 0, _, h => h
  | k + 1, w, h => ms_k hG k _ (ms_f hG H.length 0 w (by omega) h)
theorem ms_0 {H : List Sh} {gl : Nat} : MsI H gl (mw0 (fun _ => 0) (gSt gl)) := by
  intro s hs
  unfold mw0
  by_cases e : s = gSt gl
  · rw [if_pos e]; exact Or.inr ⟨by decide, e⟩
  · rw [if_neg e, if_pos hs]; exact Or.inl rfl
theorem msS_dn {s g : Nat → Nat} {kf : Nat → Bool} {gl i : Nat} {w : Nat → Nat} (x : Nat) : msS s g kf gl w i x ≤ w x := by
  unfold msS updN
  split
  · rename_i e; subst e; exact Nat.min_le_left _ _
  · exact Nat.le_refl _
theorem msF_dn {s g : Nat → Nat} {kf : Nat → Bool} {gl : Nat} : ∀ (m i : Nat) (w : Nat → Nat) (x : Nat), msF s g kf gl m i w x ≤ w x
  | 0, _, _, _ => Nat.le_refl _
  | m + 1, i, w, x => Nat.le_trans (msF_dn m (i + 1) _ x) (msS_dn x)
theorem sBy_mono {w w' g : Nat → Nat} {kf : Nat → Bool} {gl i : Nat} (h : ∀ x, w' x ≤ w x) : sBy w' g kf gl i ≤ sBy w g kf gl i := by
  unfold sBy
  split
  · have := h (g i); omega
  · exact Nat.le_refl _
theorem msF_by {s g : Nat → Nat} {kf : Nat → Bool} {gl k : Nat} : ∀ (m i : Nat) (w w0 : Nat → Nat), (∀ x, w x ≤ w0 x) → i ≤ k → k < i + m → msF s g kf gl m i w (s k) ≤ sBy w0 g kf gl k
  | 0, i, _, _, _, h1, h2 => by omega
  | m + 1, i, w, w0, hw, h1, h2 => by
    by_cases e : k = i
    · subst e
      refine Nat.le_trans (msF_dn m (k + 1) _ _) ?_
      unfold msS updN
      rw [if_pos rfl]
      exact Nat.le_trans (Nat.min_le_right _ _) (sBy_mono hw)
    · exact msF_by m (i + 1) _ w0 (fun x => Nat.le_trans (msS_dn x) (hw x)) (by omega) (by omega)
/-- what is near, is measured as near -/
def MsC (H : List Sh) (gl r : Nat) (w : Nat → Nat) : Prop := ∀ n s, n ≤ r → s < 4 → Wy H (gSt gl) (gSg gl) n s → w s ≤ n
theorem mc_f {H : List Sh} {gl r : Nat} {w : Nat → Nat} (hG : ∀ k, k < H.length → shS H k < 4 ∧ shG H k < 4) (hgl : gl < 5) (h : MsC H gl r w) : MsC H gl (r + 1) (msF (shS H) (shG H) (shK H) gl H.length 0 w) := by
  intro n s hn hs hw
  cases n with
  | zero => exact Nat.le_trans (msF_dn _ _ _ _) (h 0 s (by omega) hs hw)
  | succ n =>
    obtain ⟨k, h1, h2, h3⟩ := hw
    have h9 := msF_by (s := shS H) (g := shG H) (kf := shK H) (gl := gl) H.length 0 w w (fun _ => Nat.le_refl _) (Nat.zero_le k) (by omega)
    rw [h2] at h9
    refine Nat.le_trans h9 ?_
    unfold sBy
    rcases h3 with ⟨e, h4, h5⟩ | ⟨e, h4, h5⟩
    · subst e
      by_cases hk : shK H k = true
      · rw [if_pos hk, h4]
        have := h 0 (gSt gl) (by omega) (gSt_lt hgl) rfl
        omega
      · rw [if_neg hk]
        rcases h5 with h5 | h5
        · exact absurd h5 hk
        · have hg4 : gl ≠ 4 := of_decide_eq_true h5
          rw [if_pos ⟨hg4, by rw [h4, gSt, if_neg hg4]⟩]
          omega
    · rw [if_pos h4]
      have := h n _ (by omega) (hG k h1).2 h5
      omega
theorem mc_0 {H : List Sh} {gl : Nat} : MsC H gl 0 (mw0 (fun _ => 0) (gSt gl)) := by
  intro n s hn hs hw
  obtain rfl : n = 0 := by omega
  rw [mw0, if_pos (show s = gSt gl from hw)]
  exact Nat.le_refl _
/-- the measure is the least way -/
theorem wG_ok {H : List Sh} {gl : Nat} (hG : ∀ k, k < H.length → shS H k < 4 ∧ shG H k < 4) (hgl : gl < 5) : MsI H gl (wG (shS H) (shG H) (shK H) H.length gl) ∧ ∀ n s, s < 4 → Wy H (gSt gl) (gSg gl) n s → wG (shS H) (shG H) (shK H) H.length gl s ≤ n ∧ wG (shS H) (shG H) (shK H) H.length gl s ≤ 3 := by
  have c3 : MsC H gl 3 (wG (shS H) (shG H) (shK H) H.length gl) := mc_f hG hgl (mc_f hG hgl (mc_f hG hgl mc_0))
  refine ⟨ms_k hG 3 _ ms_0, fun n s hs hw => ?_⟩
  obtain ⟨m, hm, hw2⟩ := Wy_short hG (gSt_lt hgl) hs hw
  have h1 := c3 m s hm hs hw2
  by_cases hn : n ≤ 3
  · have h2 := c3 n s hn hs hw
    exact ⟨h2, by omega⟩
  · exact ⟨by omega, by omega⟩
