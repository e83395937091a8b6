/-! good tables: no clashes, ways -/
theorem gd1_no {E : List En} {H : List Sh} : ∀ (m i : Nat), i + m = E.length + H.length → gd1 E H m i = none → ∀ j, i ≤ j → ∀ k, j < k → k < E.length + H.length → clh E H j k = false
  | 0, i, h, _, j, hj, k, h1, h2 => by omega
  | m + 1, i, h, hg, j, hj, k, h1, h2 => by
    rw [gd1] at hg
    rcases hf : ffd (clh E H i) (E.length + H.length - (i + 1)) (i + 1) with _ | x
    · rw [hf] at hg
      by_cases e : j = i
      · subst e; exact ffd_nn hf k (by omega) (by omega)
      · exact gd1_no m (i + 1) (by omega) hg j (by omega) k h1 h2
    · rw [hf] at hg; cases hg
theorem bgn_no {E : List En} {H : List Sh} (h : gd1 E H (E.length + H.length) 0 = none) {i k : Nat} (hi : i < E.length + H.length) (hk : k < E.length + H.length) (hne : i ≠ k) (hs : itS E H i = itS E H k) : bgn E H i k = false := by
  rcases (by omega : i < k ∨ k < i) with h9 | h9
  · have h1 := gd1_no _ 0 (by omega) h i (by omega) k h9 hk
    rw [clh, decide_eq_true hs, Bool.true_and, Bool.or_eq_false_iff] at h1
    exact h1.1
  · have h1 := gd1_no _ 0 (by omega) h k (by omega) i h9 hi
    rw [clh, decide_eq_true hs.symm, Bool.true_and, Bool.or_eq_false_iff] at h1
    exact h1.2
theorem noc_of {E : List En} {H : List Sh} (hW : TbW E H) (h : gd1 E H (E.length + H.length) 0 = none) : NoC E H := by
  have iE : ∀ k, k < E.length → itS E H k = enS E k ∧ itN E k = enN E k ∧ itT E H k = enT E k := fun k hk => ⟨if_pos hk, if_pos hk, if_pos hk⟩
  have iH : ∀ k, k < H.length → itS E H (E.length + k) = shS H k ∧ itN E (E.length + k) = 1 ∧ itT E H (E.length + k) = shV H k := fun k hk => by
    refine ⟨?_, if_neg (by omega), ?_⟩
    · rw [itS, if_neg (by omega), Nat.add_sub_cancel_left]
    · rw [itT, if_neg (by omega), Nat.add_sub_cancel_left]
  refine ⟨fun i k hi hk hne hs hn he => ?_, fun i k hi hk hs he => ?_, fun i k hi hk hne hs he => ?_⟩
  · have h1 := bgn_no h (i := i) (k := k) (by omega) (by omega) hne (by rw [(iE i hi).1, (iE k hk).1]; exact hs)
    have h2 := of_decide_eq_false h1
    rw [(iE i hi).2.1, (iE k hk).2.1, (iE i hi).2.2, (iE k hk).2.2] at h2
    exact h2 ⟨hn, he⟩
  · have h1 := bgn_no h (i := E.length + i) (k := k) (by omega) (by omega) (by omega) (by rw [(iH i hi).1, (iE k hk).1]; exact hs)
    have h2 := of_decide_eq_false h1
    rw [(iH i hi).2.1, (iE k hk).2.1, (iH i hi).2.2, (iE k hk).2.2] at h2
    exact h2 ⟨(hW.2.2.1 k hk).2.1, he⟩
  · have h1 := bgn_no h (i := E.length + i) (k := E.length + k) (by omega) (by omega) (by omega) (by rw [(iH i hi).1, (iH k hk).1]; exact hs)
    have h2 := of_decide_eq_false h1
    rw [(iH i hi).2.1, (iH k hk).2.1, (iH i hi).2.2, (iH k hk).2.2] at h2
    exact h2 ⟨Nat.le_refl _, by rw [Nat.sub_self, Nat.mul_zero, Nat.pow_zero, Nat.div_one]; exact he⟩
/-- a way of some sticky shifts -/
def Pt (H : List Sh) : Nat → Nat → Nat → Prop
  | 0, s, t => s = t
  | n + 1, s, t => ∃ k, k < H.length ∧ shS H k = s ∧ shK H k = true ∧ Pt H n (shG H k) t
theorem Pt.cat {H : List Sh} {m t u : Nat} : ∀ {n s : Nat}, Pt H n s t → Pt H m t u → Pt H (n + m) s u
  | 0, s, h, h2 => by rw [Nat.zero_add, show s = t from h]; exact h2
  | n + 1, s, ⟨k, h1, h3, h4, h5⟩, h2 => by rw [show n + 1 + m = (n + m) + 1 by omega]; exact ⟨k, h1, h3, h4, h5.cat h2⟩
theorem Pt.at {H : List Sh} {t : Nat} : ∀ {n s : Nat}, Pt H n s t → ∃ c : Nat → Nat, c 0 = s ∧ c n = t ∧ ∀ i, i < n → ∃ k, k < H.length ∧ shS H k = c i ∧ shK H k = true ∧ shG H k = c (i + 1)
  | 0, s, h => ⟨fun _ => s, rfl, h, fun i hi => absurd hi (Nat.not_lt_zero i)⟩
  | n + 1, s, ⟨k, h1, h3, h4, h5⟩ => by
    obtain ⟨c, c0, cn, cs⟩ := h5.at
    refine ⟨fun i => match i with | 0 => s | i + 1 => c i, rfl, cn, fun i hi => ?_⟩
    cases i with
    | zero => exact ⟨k, h1, h3, h4, c0.symm⟩
    | succ i => exact cs i (by omega)
theorem Pt.of {H : List Sh} {c : Nat → Nat} : ∀ (n a : Nat), (∀ i, a ≤ i → i < a + n → ∃ k, k < H.length ∧ shS H k = c i ∧ shK H k = true ∧ shG H k = c (i + 1)) → Pt H n (c a) (c (a + n))
  | 0, a, _ => rfl
  | n + 1, a, h => by
    obtain ⟨k, h1, h2, h3, h4⟩ := h a (Nat.le_refl _) (by omega)
    refine ⟨k, h1, h2, h3, ?_⟩
    rw [h4, show a + (n + 1) = a + 1 + n by omega]
    exact Pt.of n (a + 1) (fun i h5 h6 => h i (by omega) (by omega))
theorem Pt.short {H : List Sh} (hG : ∀ k, k < H.length → shS H k < 4 ∧ shG H k < 4) : ∀ (n s t : Nat), s < 4 → Pt H n s t → ∃ m, m ≤ 3 ∧ Pt H m s t := by
  intro n
  induction n using Nat.strongRecOn with
  | _ n ih =>
    intro s t hs h
    by_cases hn : n ≤ 3
    · exact ⟨n, hn, h⟩
    · obtain ⟨c, c0, cn, cs⟩ := h.at
      have cb : ∀ i, i ≤ n → c i < 4 := fun i hi => by
        cases i with
        | zero => rw [c0]; exact hs
        | succ i => obtain ⟨k, h1, _, _, h4⟩ := cs i (by omega); rw [← h4]; exact (hG k h1).2
      obtain ⟨i, j, hij, hj, he⟩ := pigeon 4 c (fun i hi => cb i (by omega))
      have p1 := Pt.of (H := H) (c := c) i 0 (fun k h1 h2 => cs k (by omega))
      have p2 := Pt.of (H := H) (c := c) (n - j) j (fun k h1 h2 => cs k (by omega))
      rw [Nat.zero_add, c0, he] at p1
      rw [show j + (n - j) = n by omega, cn] at p2
      exact ih (i + (n - j)) (by omega) s t hs (p1.cat p2)
theorem Pt.snoc {H : List Sh} {n s k : Nat} (h : Pt H n s (shS H k)) (hk : k < H.length) (hs : shK H k = true) : Pt H (n + 1) s (shG H k) := h.cat ⟨k, hk, rfl, hs, rfl⟩
/-- what is reached, is reached by a way -/
theorem rch_Pt {H : List Sh} (hG : ∀ k, k < H.length → shS H k < 4 ∧ shG H k < 4) {n t u : Nat} (ht : t < 4) (hu : u < 4) (h : (rcK (shS H) (shG H) (shK H) H.length n (1 <<< t)).testBit u = true) : ∃ m, Pt H m t u :=
  rcK_min (P := fun j => ∃ m, Pt H m t j) (fun k hk => (hG k hk).2) (fun i hi hk ⟨m, hm⟩ => ⟨m + 1, hm.snoc hi hk⟩) (fun k hk => (hG k hk).1) n (1 <<< t) (sh_lt t ht).1 (fun j hj hb => ⟨0, ((sh_tb t ht j hj).mp hb).symm⟩) u hu h
theorem Pt_rch {H : List Sh} (hG : ∀ k, k < H.length → shS H k < 4 ∧ shG H k < 4) {r : Nat} (hr : r < 16) (h0 : r ≠ 0) : ∀ (m s t : Nat), (rcK (shS H) (shG H) (shK H) H.length 4 r).testBit s = true → Pt H m s t → (rcK (shS H) (shG H) (shK H) H.length 4 r).testBit t = true
  | 0, s, t, h, hp => by rw [← show s = t from hp]; exact h
  | m + 1, s, t, h, ⟨k, h1, h2, h3, h4⟩ => by
    refine Pt_rch hG hr h0 m _ t ?_ h4
    have hc : Cl (shS H) (shG H) (shK H) H.length (rcK (shS H) (shG H) (shK H) H.length 4 r) := by
      rw [rcK_34 hr h0 (fun k hk => (hG k hk).1) (fun k hk => (hG k hk).2)]
      exact rcK_cl hr h0 (fun k hk => (hG k hk).1) (fun k hk => (hG k hk).2)
    exact hc k h1 h3 (by rw [h2]; exact h)
