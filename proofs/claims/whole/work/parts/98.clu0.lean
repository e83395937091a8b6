/-! reached states, both ways -/
def pc4 (r : Nat) : Nat := (if r.testBit 0 = true then 1 else 0) + (if r.testBit 1 = true then 1 else 0) + (if r.testBit 2 = true then 1 else 0) + (if r.testBit 3 = true then 1 else 0)
theorem pc_lt : ∀ a, a < 16 → ∀ b, b < 16 → (∀ j, j < 4 → a.testBit j = true → b.testBit j = true) → a ≠ b → pc4 a < pc4 b := by decide +kernel
theorem pc_1 : ∀ a, a < 16 → a ≠ 0 → 1 ≤ pc4 a := by decide +kernel
theorem pc_15 : ∀ a, a < 16 → 4 ≤ pc4 a → ∀ j, j < 4 → a.testBit j = true := by decide +kernel
theorem or_id9 : ∀ r, r < 16 → ∀ g, g < 4 → r.testBit g = true → r ||| 1 <<< g = r := by decide +kernel
theorem sh_tb : ∀ t, t < 4 → ∀ j, j < 4 → ((1 <<< t).testBit j = true ↔ j = t) := by decide +kernel
theorem sh_lt : ∀ t, t < 4 → 1 <<< t < 16 ∧ 1 <<< t ≠ 0 := by decide +kernel
def Cl (s g : Nat → Nat) (kf : Nat → Bool) (c R : Nat) : Prop := ∀ i, i < c → kf i = true → R.testBit (s i) = true → R.testBit (g i) = true
theorem rcS_tb {s g : Nat → Nat} {kf : Nat → Bool} {r i j : Nat} (hr : r < 16) (hg : g i < 4) (hj : j < 4) : (rcS s g kf r i).testBit j = (r.testBit j || (kf i && r.testBit (s i) && decide (j = g i))) := by
  unfold rcS
  by_cases e : kf i = true ∧ r.testBit (s i) = true
  · rw [if_pos e, bt_or r hr _ hg j hj, e.1, e.2]; simp
  · rw [if_neg e]
    cases h1 : kf i with
    | false => simp
    | true =>
      have h2 : r.testBit (s i) = false := by
        cases h3 : r.testBit (s i) with
        | false => rfl
        | true => exact absurd ⟨h1, h3⟩ e
      rw [h2]; simp
theorem rcF_mono {s g : Nat → Nat} {kf : Nat → Bool} {j : Nat} (hj : j < 4) : ∀ (m i r : Nat), r < 16 → (∀ k, k < i + m → g k < 4) → r.testBit j = true → (rcF s g kf m i r).testBit j = true
  | 0, _, _, _, _, h => h
  | m + 1, i, r, hr, hg, h => rcF_mono hj m (i + 1) _ (rcS_lt hr (hg i (by omega))) (fun k hk => hg k (by omega)) (by rw [rcS_tb hr (hg i (by omega)) hj, h]; rfl)
theorem rcF_set {s g : Nat → Nat} {kf : Nat → Bool} {k : Nat} (hk : kf k = true) (hsk : s k < 4) : ∀ (m i r : Nat), r < 16 → (∀ k, k < i + m → g k < 4) → i ≤ k → k < i + m → r.testBit (s k) = true → (rcF s g kf m i r).testBit (g k) = true
  | 0, _, _, _, _, h1, h2, _ => by omega
  | m + 1, i, r, hr, hg, h1, h2, h => by
    have hgi := hg i (by omega)
    by_cases e : k = i
    · subst e
      exact rcF_mono (hg k (by omega)) m (k + 1) _ (rcS_lt hr hgi) (fun k hk => hg k (by omega)) (by rw [rcS_tb hr hgi hgi, hk, h]; simp)
    · exact rcF_set hk hsk m (i + 1) _ (rcS_lt hr hgi) (fun k hk => hg k (by omega)) (by omega) (by omega) (by rw [rcS_tb hr hgi hsk, h]; rfl)
theorem rcF_id {s g : Nat → Nat} {kf : Nat → Bool} {c R : Nat} (hR : R < 16) (hg : ∀ k, k < c → g k < 4) (hC : Cl s g kf c R) : ∀ (m i : Nat), i + m ≤ c → rcF s g kf m i R = R
  | 0, _, _ => rfl
  | m + 1, i, h => by
    have e : rcS s g kf R i = R := by
      unfold rcS
      split
      · rename_i h9; exact or_id9 R hR _ (hg i (by omega)) (hC i (by omega) h9.1 h9.2)
      · rfl
    rw [rcF, e]
    exact rcF_id hR hg hC m (i + 1) (by omega)
theorem rcF_fix {s g : Nat → Nat} {kf : Nat → Bool} {c r : Nat} (hr : r < 16) (hs : ∀ k, k < c → s k < 4) (hg : ∀ k, k < c → g k < 4) (h : rcF s g kf c 0 r = r) : Cl s g kf c r := by
  intro i hi hk ht
  have := rcF_set hk (hs i hi) c 0 r hr (fun k hk => hg k (by omega)) (by omega) (by omega) ht
  rw [h] at this
  exact this
theorem rcK_s {s g : Nat → Nat} {kf : Nat → Bool} {c : Nat} : ∀ (k r : Nat), rcK s g kf c (k + 1) r = rcF s g kf c 0 (rcK s g kf c k r)
  | 0, _ => rfl
  | k + 1, r => by rw [rcK, rcK_s k, rcK]
theorem rcK_sub {s g : Nat → Nat} {kf : Nat → Bool} {c j : Nat} (hj : j < 4) (hg : ∀ k, k < c → g k < 4) : ∀ (k r : Nat), r < 16 → r.testBit j = true → (rcK s g kf c k r).testBit j = true
  | 0, _, _, h => h
  | k + 1, r, hr, h => rcK_sub hj hg k _ (rcF_lt c 0 hr (fun k hk => hg k (by omega))) (rcF_mono hj c 0 r hr (fun k hk => hg k (by omega)) h)
theorem rcK_cl {s g : Nat → Nat} {kf : Nat → Bool} {c r : Nat} (hr : r < 16) (h0 : r ≠ 0) (hs : ∀ k, k < c → s k < 4) (hg : ∀ k, k < c → g k < 4) : Cl s g kf c (rcK s g kf c 3 r) := by
  have hg' : ∀ k, k < 0 + c → g k < 4 := fun k hk => hg k (by omega)
  have st : ∀ a, a < 16 → rcF s g kf c 0 a = a ∨ pc4 a < pc4 (rcF s g kf c 0 a) := fun a ha => by
    by_cases e : rcF s g kf c 0 a = a
    · exact Or.inl e
    · exact Or.inr (pc_lt a ha _ (rcF_lt c 0 ha hg') (fun j hj h => rcF_mono hj c 0 a ha hg' h) (fun h => e h.symm))
  have l0 := hr
  have l1 := rcF_lt (s := s) (kf := kf) c 0 hr hg'
  have l2 := rcF_lt (s := s) (kf := kf) c 0 l1 hg'
  have l3 := rcF_lt (s := s) (kf := kf) c 0 l2 hg'
  show Cl s g kf c (rcF s g kf c 0 (rcF s g kf c 0 (rcF s g kf c 0 r)))
  rcases st _ l0 with e | e
  · rw [e, e, e]; exact rcF_fix hr hs hg e
  · rcases st _ l1 with e1 | e1
    · rw [e1, e1]; exact rcF_fix l1 hs hg e1
    · rcases st _ l2 with e2 | e2
      · rw [e2]; exact rcF_fix l2 hs hg e2
      · have h1 := pc_1 r hr h0
        intro i hi hk ht
        exact pc_15 _ l3 (by omega) _ (hg i hi)
theorem rcK_34 {s g : Nat → Nat} {kf : Nat → Bool} {c r : Nat} (hr : r < 16) (h0 : r ≠ 0) (hs : ∀ k, k < c → s k < 4) (hg : ∀ k, k < c → g k < 4) : rcK s g kf c 4 r = rcK s g kf c 3 r := by
  rw [rcK_s 3 r]
  exact rcF_id (rcK_lt hg 3 hr) hg (rcK_cl hr h0 hs hg) c 0 (by omega)
theorem rcF_min {s g : Nat → Nat} {kf : Nat → Bool} {c : Nat} {P : Nat → Prop} (hg : ∀ k, k < c → g k < 4) (hc : ∀ i, i < c → kf i = true → P (s i) → P (g i)) (hs : ∀ k, k < c → s k < 4) : ∀ (m i r : Nat), i + m ≤ c → r < 16 → (∀ j, j < 4 → r.testBit j = true → P j) → ∀ j, j < 4 → (rcF s g kf m i r).testBit j = true → P j
  | 0, _, _, _, _, h => h
  | m + 1, i, r, hl, hr, h => rcF_min hg hc hs m (i + 1) _ (by omega) (rcS_lt hr (hg i (by omega))) (fun j hj hb => by
    rw [rcS_tb hr (hg i (by omega)) hj, Bool.or_eq_true] at hb
    rcases hb with hb | hb
    · exact h j hj hb
    · rw [Bool.and_eq_true, Bool.and_eq_true, decide_eq_true_eq] at hb
      rw [hb.2]
      exact hc i (by omega) hb.1.1 (h _ (hs i (by omega)) hb.1.2))
theorem rcK_min {s g : Nat → Nat} {kf : Nat → Bool} {c : Nat} {P : Nat → Prop} (hg : ∀ k, k < c → g k < 4) (hc : ∀ i, i < c → kf i = true → P (s i) → P (g i)) (hs : ∀ k, k < c → s k < 4) : ∀ (k r : Nat), r < 16 → (∀ j, j < 4 → r.testBit j = true → P j) → ∀ j, j < 4 → (rcK s g kf c k r).testBit j = true → P j
  | 0, _, _, h => h
  | k + 1, r, hr, h => rcK_min hg hc hs k _ (rcF_lt c 0 hr (fun k hk => hg k (by omega))) (rcF_min hg hc hs c 0 r (by omega) hr h)
/-- homing by going back, and by going on -/
theorem hm_eq {s g : Nat → Nat} {kf : Nat → Bool} {c t : Nat} (hs : ∀ k, k < c → s k < 4) (hg : ∀ k, k < c → g k < 4) (ht : t < 4) : (rcK g s kf c 3 1).testBit t = (rcK s g kf c 4 (1 <<< t)).testBit 0 := by
  have RC : ∀ t, t < 4 → Cl s g kf c (rcK s g kf c 4 (1 <<< t)) := fun t ht => by
    rw [rcK_34 (sh_lt t ht).1 (sh_lt t ht).2 hs hg]; exact rcK_cl (sh_lt t ht).1 (sh_lt t ht).2 hs hg
  have RI : ∀ t, t < 4 → (rcK s g kf c 4 (1 <<< t)).testBit t = true := fun t ht => rcK_sub ht hg 4 _ (sh_lt t ht).1 ((sh_tb t ht t ht).mpr rfl)
  have B0 : (rcK g s kf c 3 1).testBit 0 = true := rcK_sub (by decide) hs 3 1 (by decide) (by decide)
  have BC : Cl g s kf c (rcK g s kf c 3 1) := rcK_cl (by decide) (by decide) hg hs
  rw [Bool.eq_iff_iff]
  constructor
  · intro h
    refine rcK_min (s := g) (g := s) (kf := kf) (P := fun t => t < 4 → (rcK s g kf c 4 (1 <<< t)).testBit 0 = true) hs (fun i hi hk hP _ => ?_) hg 3 1 (by decide) (fun j hj hb _ => ?_) t ht h ht
    · have h1 := hP (hg i hi)
      have h2 := RC (s i) (hs i hi) i hi hk (RI (s i) (hs i hi))
      exact rcK_min (s := s) (g := g) (kf := kf) (P := fun j => (rcK s g kf c 4 (1 <<< s i)).testBit j = true) hg (fun k hk2 hkf hp => RC (s i) (hs i hi) k hk2 hkf hp) hs 4 (1 <<< g i) (sh_lt _ (hg i hi)).1 (fun j hj hb => by rw [(sh_tb _ (hg i hi) j hj).mp hb]; exact h2) 0 (by decide) h1
    · have hj0 : j = 0 := (sh_tb 0 (by decide) j hj).mp hb
      subst hj0
      exact RI 0 (by decide)
  · intro h
    cases hb : (rcK g s kf c 3 1).testBit t with
    | true => rfl
    | false =>
      have h9 := rcK_min (s := s) (g := g) (kf := kf) (P := fun j => (rcK g s kf c 3 1).testBit j = false) hg (fun i hi hk hp => by
        cases h8 : (rcK g s kf c 3 1).testBit (g i) with
        | false => rfl
        | true => rw [BC i hi hk h8] at hp; cases hp) hs 4 (1 <<< t) (sh_lt t ht).1 (fun j hj hj2 => by rw [(sh_tb t ht j hj).mp hj2]; exact hb) 0 (by decide) h
      rw [B0] at h9
      cases h9
theorem sgF_tb {s g : Nat → Nat} {kf : Nat → Bool} {fr j : Nat} (hj : j < 4) : ∀ (m i r : Nat), r < 16 → (∀ k, k < i + m → g k < 4) → ((sgF s g kf fr m i r).testBit j = true ↔ r.testBit j = true ∨ ∃ k, i ≤ k ∧ k < i + m ∧ kf k = false ∧ fr.testBit (s k) = true ∧ g k = j)
  | 0, i, r, _, _ => ⟨Or.inl, fun h => by rcases h with h | ⟨k, h1, h2, _⟩; (exact h); omega⟩
  | m + 1, i, r, hr, hg => by
    have hgi := hg i (by omega)
    have hlt : sgS s g kf fr r i < 16 := by unfold sgS; split; (exact zt_lt r hr _ hgi); exact hr
    have e : (sgS s g kf fr r i).testBit j = true ↔ r.testBit j = true ∨ (kf i = false ∧ fr.testBit (s i) = true ∧ g i = j) := by
      unfold sgS
      by_cases c : kf i = false ∧ fr.testBit (s i) = true
      · rw [if_pos c, bt_or r hr _ hgi j hj, Bool.or_eq_true, decide_eq_true_eq]
        exact ⟨fun h => h.elim Or.inl (fun h => Or.inr ⟨c.1, c.2, h.symm⟩), fun h => h.elim Or.inl (fun h => Or.inr h.2.2.symm)⟩
      · rw [if_neg c]
        exact ⟨Or.inl, fun h => h.elim id (fun h => absurd ⟨h.1, h.2.1⟩ c)⟩
    rw [sgF, sgF_tb hj m (i + 1) _ hlt (fun k hk => hg k (by omega)), e]
    constructor
    · rintro ((h | h) | ⟨k, h1, h2, h3⟩)
      · exact Or.inl h
      · exact Or.inr ⟨i, Nat.le_refl _, by omega, h⟩
      · exact Or.inr ⟨k, by omega, by omega, h3⟩
    · rintro (h | ⟨k, h1, h2, h3⟩)
      · exact Or.inl (Or.inl h)
      · by_cases ek : k = i
        · subst ek; exact Or.inl (Or.inr h3)
        · exact Or.inr ⟨k, by omega, by omega, h3⟩
theorem rcF_congr {s g s' g' : Nat → Nat} {kf kf' : Nat → Bool} {c : Nat} (h : ∀ i, i < c → s i = s' i ∧ g i = g' i ∧ kf i = kf' i) : ∀ (m i r : Nat), i + m ≤ c → rcF s g kf m i r = rcF s' g' kf' m i r
  | 0, _, _, _ => rfl
  | m + 1, i, r, hl => by
    obtain ⟨h1, h2, h3⟩ := h i (by omega)
    rw [rcF, rcF, show rcS s g kf r i = rcS s' g' kf' r i from by unfold rcS; rw [h1, h2, h3]]
    exact rcF_congr h m (i + 1) _ (by omega)
theorem rcK_congr {s g s' g' : Nat → Nat} {kf kf' : Nat → Bool} {c : Nat} (h : ∀ i, i < c → s i = s' i ∧ g i = g' i ∧ kf i = kf' i) : ∀ (k r : Nat), rcK s g kf c k r = rcK s' g' kf' c k r
  | 0, _ => rfl
  | k + 1, r => by rw [rcK, rcK, rcF_congr h c 0 r (by omega), rcK_congr h k]
