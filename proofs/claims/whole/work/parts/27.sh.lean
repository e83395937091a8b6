/-! Shifts: sets of states; Entries.preferredOf; Shifts.removeAt -/
def tb9 (r s : Nat) : Nat := if r.testBit s = true then 1 else 0
theorem zt_bitD : ∀ r, r < 16 → ∀ s, s < 4 → (nI r >>> (nI s &&& 31)) &&& nI 1 = nI (tb9 r s) := by decide +kernel
theorem zt_bit {r s : Nat} (hr : r < 16) (hs : s < 4) : mBop 3 (nI r >>> (nI s &&& 31)) (nI 1) = nI (tb9 r s) := zt_bitD r hr s hs
theorem zt_orD : ∀ r, r < 16 → ∀ g, g < 4 → nI r ||| (nI 1 <<< (nI g &&& 31)) = nI (r ||| 1 <<< g) := by decide +kernel
theorem zt_or {r g : Nat} (hr : r < 16) (hg : g < 4) : mBop 4 (nI r) (nI 1 <<< (nI g &&& 31)) = nI (r ||| 1 <<< g) := zt_orD r hr g hg
theorem zt_lt : ∀ r, r < 16 → ∀ g, g < 4 → r ||| 1 <<< g < 16 := by decide +kernel
/-- one shift's share in a set of states -/
def rcS (s g : Nat → Nat) (kf : Nat → Bool) (r i : Nat) : Nat := if kf i = true ∧ r.testBit (s i) = true then r ||| 1 <<< g i else r
def rcF (s g : Nat → Nat) (kf : Nat → Bool) : Nat → Nat → Nat → Nat
  | 0, _, r => r
  | m + 1, i, r => rcF s g kf m (i + 1) (rcS s g kf r i)
def rcK (s g : Nat → Nat) (kf : Nat → Bool) (c : Nat) : Nat → Nat → Nat
  | 0, r => r
  | k + 1, r => rcK s g kf c k (rcF s g kf c 0 r)
theorem rcS_lt {s g : Nat → Nat} {kf : Nat → Bool} {r i : Nat} (hr : r < 16) (hg : g i < 4) : rcS s g kf r i < 16 := by
  unfold rcS
  split
  · exact zt_lt r hr _ hg
  · exact hr
theorem rcF_lt {s g : Nat → Nat} {kf : Nat → Bool} : ∀ (m i : Nat) {r : Nat}, r < 16 → (∀ j, j < i + m → g j < 4) → rcF s g kf m i r < 16
  | 0, _, _, hr, _ => hr
  | m + 1, i, _, hr, hg => rcF_lt m (i + 1) (rcS_lt hr (hg i (by omega))) (fun j hj => hg j (by omega))
theorem rcK_lt {s g : Nat → Nat} {kf : Nat → Bool} {c : Nat} (hg : ∀ j, j < c → g j < 4) : ∀ (k : Nat) {r : Nat}, r < 16 → rcK s g kf c k r < 16
  | 0, _, hr => hr
  | k + 1, _, hr => rcK_lt hg k (rcF_lt c 0 hr (fun j hj => hg j (by omega)))
theorem rcS_a {s g : Nat → Nat} {kf : Nat → Bool} {r i : Nat} (h : kf i = false) : rcS s g kf r i = r := by simp [rcS, h]
theorem rcS_b {s g : Nat → Nat} {kf : Nat → Bool} {r i : Nat} (h : kf i = true) (h2 : tb9 r (s i) = 1) : rcS s g kf r i = r ||| 1 <<< g i := by
  have h3 : r.testBit (s i) = true := by
    unfold tb9 at h2
    split at h2
    · assumption
    · cases h2
  simp [rcS, h, h3]
theorem rcS_c {s g : Nat → Nat} {kf : Nat → Bool} {r i : Nat} (h2 : ¬ tb9 r (s i) = 1) : rcS s g kf r i = r := by
  have h3 : ¬ r.testBit (s i) = true := by
    intro h3
    exact h2 (by simp [tb9, h3])
  unfold rcS
  rw [if_neg (fun h => h3 h.2)]
theorem tb9_lt (r s : Nat) : tb9 r s < 2 := by unfold tb9; split <;> decide
def sgS (s g : Nat → Nat) (kf : Nat → Bool) (fr r i : Nat) : Nat := if kf i = false ∧ fr.testBit (s i) = true then r ||| 1 <<< g i else r
def sgF (s g : Nat → Nat) (kf : Nat → Bool) (fr : Nat) : Nat → Nat → Nat → Nat
  | 0, _, r => r
  | m + 1, i, r => sgF s g kf fr m (i + 1) (sgS s g kf fr r i)
theorem sgF_lt {s g : Nat → Nat} {kf : Nat → Bool} {fr : Nat} : ∀ (m i : Nat) {r : Nat}, r < 16 → (∀ j, j < i + m → g j < 4) → sgF s g kf fr m i r < 16
  | 0, _, _, hr, _ => hr
  | m + 1, i, r, hr, hg => by
    refine sgF_lt m (i + 1) ?_ (fun j hj => hg j (by omega))
    unfold sgS
    split
    · exact zt_lt r hr _ (hg i (by omega))
    · exact hr
set_option maxRecDepth 10000 in
theorem c_Sh_reachedStates {d : Nat} {h : mH} {e n c : Nat} {s g : Nat → Nat} {V : Nat → Int32} {kf : Nat → Bool} {Q : mP} (hE : ShAt h e n (fun j => nI (s j)) V (fun j => nI (g j)) (fun j => bI (kf j)) c) (hn : n < 2 ^ 31) (hc : c ≤ n) (hs : ∀ j, j < c → s j < 4) (hg : ∀ j, j < c → g j < 4) (q : Q (some (.int (nI (rcK s g kf c 3 1)))) h) : mWP (d + 1) 95 [.ref e] h Q := by
  obtain ⟨E0, E1, E2, E3, E4⟩ := hE
  have inner : ∀ m i r (rd : Int32), i + m = c → r < 16 → mZ d tk_95 0 0 Q 59 [some (.ref e), some (.int (nI (rcF s g kf m i r))), some (.int rd), some (.int (nI c))] [] h 0 0 → mZ d tk_95 0 0 Q 11 [some (.ref e), some (.int (nI r)), some (.int rd), some (.int (nI i))] [] h 0 0 := by
    intro m
    induction m with
    | zero =>
      intro i r rd hi hr K
      obtain rfl : i = c := by omega
      refine z_iload 12 rfl rfl rfl ?_
      refine z_aload 13 rfl rfl rfl ?_
      refine z_get 16 rfl rfl E0 rfl ?_
      refine z_nge 19 rfl rfl (by omega) (by omega) (fun _ => ?_) (fun h9 => absurd h9 (by omega))
      exact K
    | succ m ih' =>
      intro i r rd hi hr K
      have ih := fun i r => ih' i r rd
      have hb9 := tb9_lt r (s i)
      refine z_iload 12 rfl rfl rfl ?_
      refine z_aload 13 rfl rfl rfl ?_
      refine z_get 16 rfl rfl (by first | exact E0 | exact E1 | exact E2 | exact E3 | exact E4) rfl ?_
      first | refine z_nge 19 rfl rfl (by omega) (by omega) (fun hc16 => ?_) (fun hc16 => ?_) | refine z_kge 19 rfl rfl (by omega) (fun hc16 => ?_) (fun hc16 => ?_) | refine z_hge 19 rfl rfl (by omega) (fun hc16 => ?_) (fun hc16 => ?_) | refine z_tge 19 rfl rfl (fun hc16 => ?_) (fun hc16 => ?_)
      · exact absurd hc16 (by omega)
      · refine z_aload 20 rfl rfl rfl ?_
        refine z_get 23 rfl rfl (by first | exact E0 | exact E1 | exact E2 | exact E3 | exact E4) rfl ?_
        refine z_iload 24 rfl rfl rfl ?_
        refine z_bld 25 rfl rfl (by first | exact E0 | exact E1 | exact E2 | exact E3 | exact E4) rfl (by omega) (by omega) ?_
        first | refine z_beq 28 rfl rfl (fun hc25 => ?_) (fun hc25 => ?_) | refine z_zeq 28 rfl rfl (by omega) (fun hc25 => ?_) (fun hc25 => ?_) | refine z_jeq 28 rfl rfl (fun hc25 => ?_) (fun hc25 => ?_)
        · refine z_iinc 56 _ rfl rfl rfl rfl (by first | with_reducible exact zi_1 _ | rfl) ?_
          refine z_goto rfl ?_
          refine ih (i + 1) _ (by omega) ?_ ?_
          · first | exact hr | exact zt_lt r hr _ (hg i (by omega))
          · have e9 : rcF s g kf (m + 1) i r = rcF s g kf m (i + 1) (rcS s g kf r i) := rfl
            rw [e9] at K
            first
            | (rw [rcS_a hc25] at K; exact K)
            | (rw [rcS_c hc39] at K; exact K)
            | (rw [rcS_b hc25 hc39] at K; exact K)
        · refine z_iload 29 rfl rfl rfl ?_
          refine z_aload 30 rfl rfl rfl ?_
          refine z_get 33 rfl rfl (by first | exact E0 | exact E1 | exact E2 | exact E3 | exact E4) rfl ?_
          refine z_iload 34 rfl rfl rfl ?_
          refine z_ald 35 rfl rfl (by first | exact E0 | exact E1 | exact E2 | exact E3 | exact E4) rfl (by omega) (by omega) ?_
          refine z_bop 36 _ rfl rfl (zd_7 _ _) ?_
          refine z_push 37 (nI 1) rfl rfl rfl ?_
          refine z_bop 38 _ rfl rfl (zt_bit hr (hs i (by omega))) ?_
          refine z_push 39 (nI 1) rfl rfl rfl ?_
          refine z_nne 42 rfl rfl (by omega) (by omega) (fun hc39 => ?_) (fun hc39 => ?_)
          · refine z_iinc 56 _ rfl rfl rfl rfl (by first | with_reducible exact zi_1 _ | rfl) ?_
            refine z_goto rfl ?_
            refine ih (i + 1) _ (by omega) ?_ ?_
            · first | exact hr | exact zt_lt r hr _ (hg i (by omega))
            · have e9 : rcF s g kf (m + 1) i r = rcF s g kf m (i + 1) (rcS s g kf r i) := rfl
              rw [e9] at K
              first
              | (rw [rcS_a hc25] at K; exact K)
              | (rw [rcS_c hc39] at K; exact K)
              | (rw [rcS_b hc25 hc39] at K; exact K)
          · refine z_iload 43 rfl rfl rfl ?_
            refine z_push 44 (nI 1) rfl rfl rfl ?_
            refine z_aload 45 rfl rfl rfl ?_
            refine z_get 48 rfl rfl (by first | exact E0 | exact E1 | exact E2 | exact E3 | exact E4) rfl ?_
            refine z_iload 49 rfl rfl rfl ?_
            refine z_ald 50 rfl rfl (by first | exact E0 | exact E1 | exact E2 | exact E3 | exact E4) rfl (by omega) (by omega) ?_
            refine z_bop 51 _ rfl rfl (zd_6 _ _) ?_
            refine z_bop 52 _ rfl rfl (zt_or hr (hg i (by omega))) ?_
            refine z_istore 53 rfl rfl rfl rfl ?_
            refine z_iinc 56 _ rfl rfl rfl rfl (by first | with_reducible exact zi_1 _ | rfl) ?_
            refine z_goto rfl ?_
            refine ih (i + 1) _ (by omega) ?_ ?_
            · first | exact hr | exact zt_lt r hr _ (hg i (by omega))
            · have e9 : rcF s g kf (m + 1) i r = rcF s g kf m (i + 1) (rcS s g kf r i) := rfl
              rw [e9] at K
              first
              | (rw [rcS_a hc25] at K; exact K)
              | (rw [rcS_c hc39] at K; exact K)
              | (rw [rcS_b hc25 hc39] at K; exact K)
  have outer : ∀ k rd r, rd + k = 4 → r < 16 → Q (some (.int (nI (rcK s g kf c k r)))) h → mZ d tk_95 0 0 Q 4 [some (.ref e), some (.int (nI r)), some (.int (nI rd)), none] [] h 0 0 ∧ ∀ x : Int32, mZ d tk_95 0 0 Q 4 [some (.ref e), some (.int (nI r)), some (.int (nI rd)), some (.int x)] [] h 0 0 := by
    intro k
    induction k with
    | zero =>
      intro rd r hrd hr hq
      refine ⟨?_, fun x => ?_⟩
      all_goals
        refine z_iload 5 rfl rfl rfl ?_
        refine z_push 6 (nI 4) rfl rfl rfl ?_
        refine z_nge 9 rfl rfl (by omega) (by omega) (fun _ => ?_) (fun h9 => absurd h9 (by omega))
        refine z_iload 66 rfl rfl rfl ?_
        refine z_ireti rfl (Nat.le_refl _) (Nat.le_refl _) ?_
        exact hq
    | succ k ih =>
      intro rd r hrd hr hq
      have hr2 := rcF_lt (s := s) (g := g) (kf := kf) c 0 hr (fun j hj => hg j (by omega))
      have K := (ih (rd + 1) _ (by omega) hr2 hq).2
      refine ⟨?_, fun x => ?_⟩
      all_goals
        refine z_iload 5 rfl rfl rfl ?_
        refine z_push 6 (nI 4) rfl rfl rfl ?_
        refine z_nge 9 rfl rfl (by omega) (by omega) (fun h9 => absurd h9 (by omega)) (fun _ => ?_)
        refine z_push 10 (nI 0) rfl rfl rfl ?_
        refine z_istore 11 rfl rfl rfl rfl ?_
        refine inner c 0 r (nI rd) (by omega) hr ?_
        refine z_iinc 62 _ rfl rfl rfl rfl (zi_1 _) ?_
        refine z_goto rfl ?_
        exact K (nI c)
  refine z_in [some (.ref e), none, none, none] (by rfl) rfl rfl rfl ?_
  refine z_push 1 (nI 1) rfl rfl rfl ?_
  refine z_istore 2 rfl rfl rfl rfl ?_
  refine z_push 3 (nI 1) rfl rfl rfl ?_
  refine z_istore 4 rfl rfl rfl rfl ?_
  exact (outer 3 1 1 (by omega) (by decide) q).1
set_option maxRecDepth 10000 in
theorem c_Sh_homingStates {d : Nat} {h : mH} {e n c : Nat} {s g : Nat → Nat} {V : Nat → Int32} {kf : Nat → Bool} {Q : mP} (hE : ShAt h e n (fun j => nI (s j)) V (fun j => nI (g j)) (fun j => bI (kf j)) c) (hn : n < 2 ^ 31) (hc : c ≤ n) (hs : ∀ j, j < c → s j < 4) (hg : ∀ j, j < c → g j < 4) (q : Q (some (.int (nI (rcK g s kf c 3 1)))) h) : mWP (d + 1) 96 [.ref e] h Q := by
  obtain ⟨E0, E1, E2, E3, E4⟩ := hE
  have inner : ∀ m i r (rd : Int32), i + m = c → r < 16 → mZ d tk_96 0 0 Q 59 [some (.ref e), some (.int (nI (rcF g s kf m i r))), some (.int rd), some (.int (nI c))] [] h 0 0 → mZ d tk_96 0 0 Q 11 [some (.ref e), some (.int (nI r)), some (.int rd), some (.int (nI i))] [] h 0 0 := by
    intro m
    induction m with
    | zero =>
      intro i r rd hi hr K
      obtain rfl : i = c := by omega
      refine z_iload 12 rfl rfl rfl ?_
      refine z_aload 13 rfl rfl rfl ?_
      refine z_get 16 rfl rfl E0 rfl ?_
      refine z_nge 19 rfl rfl (by omega) (by omega) (fun _ => ?_) (fun h9 => absurd h9 (by omega))
      exact K
    | succ m ih' =>
      intro i r rd hi hr K
      have ih := fun i r => ih' i r rd
      have hb9 := tb9_lt r (g i)
      refine z_iload 12 rfl rfl rfl ?_
      refine z_aload 13 rfl rfl rfl ?_
      refine z_get 16 rfl rfl (by first | exact E0 | exact E1 | exact E2 | exact E3 | exact E4) rfl ?_
      first | refine z_nge 19 rfl rfl (by omega) (by omega) (fun hc16 => ?_) (fun hc16 => ?_) | refine z_kge 19 rfl rfl (by omega) (fun hc16 => ?_) (fun hc16 => ?_) | refine z_hge 19 rfl rfl (by omega) (fun hc16 => ?_) (fun hc16 => ?_) | refine z_tge 19 rfl rfl (fun hc16 => ?_) (fun hc16 => ?_)
      · exact absurd hc16 (by omega)
      · refine z_aload 20 rfl rfl rfl ?_
        refine z_get 23 rfl rfl (by first | exact E0 | exact E1 | exact E2 | exact E3 | exact E4) rfl ?_
        refine z_iload 24 rfl rfl rfl ?_
        refine z_bld 25 rfl rfl (by first | exact E0 | exact E1 | exact E2 | exact E3 | exact E4) rfl (by omega) (by omega) ?_
        first | refine z_beq 28 rfl rfl (fun hc25 => ?_) (fun hc25 => ?_) | refine z_zeq 28 rfl rfl (by omega) (fun hc25 => ?_) (fun hc25 => ?_) | refine z_jeq 28 rfl rfl (fun hc25 => ?_) (fun hc25 => ?_)
        · refine z_iinc 56 _ rfl rfl rfl rfl (by first | with_reducible exact zi_1 _ | rfl) ?_
          refine z_goto rfl ?_
          refine ih (i + 1) _ (by omega) ?_ ?_
          · first | exact hr | exact zt_lt r hr _ (hs i (by omega))
          · have e9 : rcF g s kf (m + 1) i r = rcF g s kf m (i + 1) (rcS g s kf r i) := rfl
            rw [e9] at K
            first
            | (rw [rcS_a hc25] at K; exact K)
            | (rw [rcS_c hc39] at K; exact K)
            | (rw [rcS_b hc25 hc39] at K; exact K)
        · refine z_iload 29 rfl rfl rfl ?_
          refine z_aload 30 rfl rfl rfl ?_
          refine z_get 33 rfl rfl (by first | exact E0 | exact E1 | exact E2 | exact E3 | exact E4) rfl ?_
          refine z_iload 34 rfl rfl rfl ?_
          refine z_ald 35 rfl rfl (by first | exact E0 | exact E1 | exact E2 | exact E3 | exact E4) rfl (by omega) (by omega) ?_
          refine z_bop 36 _ rfl rfl (zd_7 _ _) ?_
          refine z_push 37 (nI 1) rfl rfl rfl ?_
          refine z_bop 38 _ rfl rfl (zt_bit hr (hg i (by omega))) ?_
          refine z_push 39 (nI 1) rfl rfl rfl ?_
          refine z_nne 42 rfl rfl (by omega) (by omega) (fun hc39 => ?_) (fun hc39 => ?_)
          · refine z_iinc 56 _ rfl rfl rfl rfl (by first | with_reducible exact zi_1 _ | rfl) ?_
            refine z_goto rfl ?_
            refine ih (i + 1) _ (by omega) ?_ ?_
            · first | exact hr | exact zt_lt r hr _ (hs i (by omega))
            · have e9 : rcF g s kf (m + 1) i r = rcF g s kf m (i + 1) (rcS g s kf r i) := rfl
              rw [e9] at K
              first
              | (rw [rcS_a hc25] at K; exact K)
              | (rw [rcS_c hc39] at K; exact K)
              | (rw [rcS_b hc25 hc39] at K; exact K)
          · refine z_iload 43 rfl rfl rfl ?_
            refine z_push 44 (nI 1) rfl rfl rfl ?_
            refine z_aload 45 rfl rfl rfl ?_
            refine z_get 48 rfl rfl (by first | exact E0 | exact E1 | exact E2 | exact E3 | exact E4) rfl ?_
            refine z_iload 49 rfl rfl rfl ?_
            refine z_ald 50 rfl rfl (by first | exact E0 | exact E1 | exact E2 | exact E3 | exact E4) rfl (by omega) (by omega) ?_
            refine z_bop 51 _ rfl rfl (zd_6 _ _) ?_
            refine z_bop 52 _ rfl rfl (zt_or hr (hs i (by omega))) ?_
            refine z_istore 53 rfl rfl rfl rfl ?_
            refine z_iinc 56 _ rfl rfl rfl rfl (by first | with_reducible exact zi_1 _ | rfl) ?_
            refine z_goto rfl ?_
            refine ih (i + 1) _ (by omega) ?_ ?_
            · first | exact hr | exact zt_lt r hr _ (hs i (by omega))
            · have e9 : rcF g s kf (m + 1) i r = rcF g s kf m (i + 1) (rcS g s kf r i) := rfl
              rw [e9] at K
              first
              | (rw [rcS_a hc25] at K; exact K)
              | (rw [rcS_c hc39] at K; exact K)
              | (rw [rcS_b hc25 hc39] at K; exact K)
  have outer : ∀ k rd r, rd + k = 4 → r < 16 → Q (some (.int (nI (rcK g s kf c k r)))) h → mZ d tk_96 0 0 Q 4 [some (.ref e), some (.int (nI r)), some (.int (nI rd)), none] [] h 0 0 ∧ ∀ x : Int32, mZ d tk_96 0 0 Q 4 [some (.ref e), some (.int (nI r)), some (.int (nI rd)), some (.int x)] [] h 0 0 := by
    intro k
    induction k with
    | zero =>
      intro rd r hrd hr hq
      refine ⟨?_, fun x => ?_⟩
      all_goals
        refine z_iload 5 rfl rfl rfl ?_
        refine z_push 6 (nI 4) rfl rfl rfl ?_
        refine z_nge 9 rfl rfl (by omega) (by omega) (fun _ => ?_) (fun h9 => absurd h9 (by omega))
        refine z_iload 66 rfl rfl rfl ?_
        refine z_ireti rfl (Nat.le_refl _) (Nat.le_refl _) ?_
        exact hq
    | succ k ih =>
      intro rd r hrd hr hq
      have hr2 := rcF_lt (s := g) (g := s) (kf := kf) c 0 hr (fun j hj => hs j (by omega))
      have K := (ih (rd + 1) _ (by omega) hr2 hq).2
      refine ⟨?_, fun x => ?_⟩
      all_goals
        refine z_iload 5 rfl rfl rfl ?_
        refine z_push 6 (nI 4) rfl rfl rfl ?_
        refine z_nge 9 rfl rfl (by omega) (by omega) (fun h9 => absurd h9 (by omega)) (fun _ => ?_)
        refine z_push 10 (nI 0) rfl rfl rfl ?_
        refine z_istore 11 rfl rfl rfl rfl ?_
        refine inner c 0 r (nI rd) (by omega) hr ?_
        refine z_iinc 62 _ rfl rfl rfl rfl (zi_1 _) ?_
        refine z_goto rfl ?_
        exact K (nI c)
  refine z_in [some (.ref e), none, none, none] (by rfl) rfl rfl rfl ?_
  refine z_push 1 (nI 1) rfl rfl rfl ?_
  refine z_istore 2 rfl rfl rfl rfl ?_
  refine z_push 3 (nI 1) rfl rfl rfl ?_
  refine z_istore 4 rfl rfl rfl rfl ?_
  exact (outer 3 1 1 (by omega) (by decide) q).1
theorem sgS_a {s g : Nat → Nat} {kf : Nat → Bool} {fr r i : Nat} (h : kf i = true) : sgS s g kf fr r i = r := by simp [sgS, h]
theorem sgS_b {s g : Nat → Nat} {kf : Nat → Bool} {fr r i : Nat} (h : kf i = false) (h2 : tb9 fr (s i) = 1) : sgS s g kf fr r i = r ||| 1 <<< g i := by
  have h3 : fr.testBit (s i) = true := by
    unfold tb9 at h2
    split at h2
    · assumption
    · cases h2
  simp [sgS, h, h3]
theorem sgS_c {s g : Nat → Nat} {kf : Nat → Bool} {fr r i : Nat} (h2 : ¬ tb9 fr (s i) = 1) : sgS s g kf fr r i = r := by
  have h3 : ¬ fr.testBit (s i) = true := by
    intro h3
    exact h2 (by simp [tb9, h3])
  unfold sgS
  rw [if_neg (fun h => h3 h.2)]
set_option maxRecDepth 10000 in
theorem c_Sh_singleGoals {d : Nat} {h : mH} {e n c fr : Nat} {s g : Nat → Nat} {V : Nat → Int32} {kf : Nat → Bool} {Q : mP} (hE : ShAt h e n (fun j => nI (s j)) V (fun j => nI (g j)) (fun j => bI (kf j)) c) (hn : n < 2 ^ 31) (hc : c ≤ n) (hfr : fr < 16) (hs : ∀ j, j < c → s j < 4) (hg : ∀ j, j < c → g j < 4) (q : Q (some (.int (nI (sgF s g kf fr c 0 0)))) h) : mWP (d + 1) 97 [.ref e, .int (nI fr)] h Q := by
  obtain ⟨E0, E1, E2, E3, E4⟩ := hE
  have loop : ∀ m i r, i + m = c → r < 16 → sgF s g kf fr m i r = sgF s g kf fr c 0 0 → mZ d tk_97 0 0 Q 4 [some (.ref e), some (.int (nI fr)), some (.int (nI r)), some (.int (nI i))] [] h 0 0 := by
    intro m
    induction m with
    | zero =>
      intro i r hi hr hq
      obtain rfl : i = c := by omega
      refine z_iload 5 rfl rfl rfl ?_
      refine z_aload 6 rfl rfl rfl ?_
      refine z_get 9 rfl rfl E0 rfl ?_
      refine z_nge 12 rfl rfl (by omega) (by omega) (fun _ => ?_) (fun h9 => absurd h9 (by omega))
      refine z_iload 53 rfl rfl rfl ?_
      refine z_ireti rfl (Nat.le_refl _) (Nat.le_refl _) ?_
      rw [← hq] at q
      exact q
    | succ m ih =>
      intro i r hi hr hq
      have hb9 := tb9_lt fr (s i)
      refine z_iload 5 rfl rfl rfl ?_
      refine z_aload 6 rfl rfl rfl ?_
      refine z_get 9 rfl rfl (by first | exact E0 | exact E1 | exact E2 | exact E3 | exact E4) rfl ?_
      first | refine z_nge 12 rfl rfl (by omega) (by omega) (fun hc9 => ?_) (fun hc9 => ?_) | refine z_kge 12 rfl rfl (by omega) (fun hc9 => ?_) (fun hc9 => ?_) | refine z_hge 12 rfl rfl (by omega) (fun hc9 => ?_) (fun hc9 => ?_) | refine z_tge 12 rfl rfl (fun hc9 => ?_) (fun hc9 => ?_)
      · refine z_iload 53 rfl rfl rfl ?_
        refine z_ireti rfl (Nat.le_refl _) (Nat.le_refl _) ?_
        exact absurd hc9 (by omega)
      · refine z_aload 13 rfl rfl rfl ?_
        refine z_get 16 rfl rfl (by first | exact E0 | exact E1 | exact E2 | exact E3 | exact E4) rfl ?_
        refine z_iload 17 rfl rfl rfl ?_
        refine z_bld 18 rfl rfl (by first | exact E0 | exact E1 | exact E2 | exact E3 | exact E4) rfl (by omega) (by omega) ?_
        first | refine z_bne 21 rfl rfl (fun hc18 => ?_) (fun hc18 => ?_) | refine z_zne 21 rfl rfl (by omega) (fun hc18 => ?_) (fun hc18 => ?_) | refine z_jne 21 rfl rfl (fun hc18 => ?_) (fun hc18 => ?_)
        · refine z_iinc 49 _ rfl rfl rfl rfl (by first | with_reducible exact zi_1 _ | rfl) ?_
          refine z_goto rfl ?_
          refine ih (i + 1) _ (by omega) ?_ ?_
          · first | exact hr | exact zt_lt r hr _ (hg i (by omega))
          · rw [← hq]
            first
            | (rw [show sgF s g kf fr (m + 1) i r = sgF s g kf fr m (i + 1) (sgS s g kf fr r i) from rfl, sgS_a hc18])
            | (rw [show sgF s g kf fr (m + 1) i r = sgF s g kf fr m (i + 1) (sgS s g kf fr r i) from rfl, sgS_c hc32])
            | (rw [show sgF s g kf fr (m + 1) i r = sgF s g kf fr m (i + 1) (sgS s g kf fr r i) from rfl, sgS_b hc18 hc32])
        · refine z_iload 22 rfl rfl rfl ?_
          refine z_aload 23 rfl rfl rfl ?_
          refine z_get 26 rfl rfl (by first | exact E0 | exact E1 | exact E2 | exact E3 | exact E4) rfl ?_
          refine z_iload 27 rfl rfl rfl ?_
          refine z_ald 28 rfl rfl (by first | exact E0 | exact E1 | exact E2 | exact E3 | exact E4) rfl (by omega) (by omega) ?_
          refine z_bop 29 _ rfl rfl (zd_7 _ _) ?_
          refine z_push 30 (nI 1) rfl rfl rfl ?_
          refine z_bop 31 _ rfl rfl (zt_bit hfr (hs i (by omega))) ?_
          refine z_push 32 (nI 1) rfl rfl rfl ?_
          refine z_nne 35 rfl rfl (by omega) (by omega) (fun hc32 => ?_) (fun hc32 => ?_)
          · refine z_iinc 49 _ rfl rfl rfl rfl (by first | with_reducible exact zi_1 _ | rfl) ?_
            refine z_goto rfl ?_
            refine ih (i + 1) _ (by omega) ?_ ?_
            · first | exact hr | exact zt_lt r hr _ (hg i (by omega))
            · rw [← hq]
              first
              | (rw [show sgF s g kf fr (m + 1) i r = sgF s g kf fr m (i + 1) (sgS s g kf fr r i) from rfl, sgS_a hc18])
              | (rw [show sgF s g kf fr (m + 1) i r = sgF s g kf fr m (i + 1) (sgS s g kf fr r i) from rfl, sgS_c hc32])
              | (rw [show sgF s g kf fr (m + 1) i r = sgF s g kf fr m (i + 1) (sgS s g kf fr r i) from rfl, sgS_b hc18 hc32])
          · refine z_iload 36 rfl rfl rfl ?_
            refine z_push 37 (nI 1) rfl rfl rfl ?_
            refine z_aload 38 rfl rfl rfl ?_
            refine z_get 41 rfl rfl (by first | exact E0 | exact E1 | exact E2 | exact E3 | exact E4) rfl ?_
            refine z_iload 42 rfl rfl rfl ?_
            refine z_ald 43 rfl rfl (by first | exact E0 | exact E1 | exact E2 | exact E3 | exact E4) rfl (by omega) (by omega) ?_
            refine z_bop 44 _ rfl rfl (zd_6 _ _) ?_
            refine z_bop 45 _ rfl rfl (zt_or hr (hg i (by omega))) ?_
            refine z_istore 46 rfl rfl rfl rfl ?_
            refine z_iinc 49 _ rfl rfl rfl rfl (by first | with_reducible exact zi_1 _ | rfl) ?_
            refine z_goto rfl ?_
            refine ih (i + 1) _ (by omega) ?_ ?_
            · first | exact hr | exact zt_lt r hr _ (hg i (by omega))
            · rw [← hq]
              first
              | (rw [show sgF s g kf fr (m + 1) i r = sgF s g kf fr m (i + 1) (sgS s g kf fr r i) from rfl, sgS_a hc18])
              | (rw [show sgF s g kf fr (m + 1) i r = sgF s g kf fr m (i + 1) (sgS s g kf fr r i) from rfl, sgS_c hc32])
              | (rw [show sgF s g kf fr (m + 1) i r = sgF s g kf fr m (i + 1) (sgS s g kf fr r i) from rfl, sgS_b hc18 hc32])
  refine z_in [some (.ref e), some (.int (nI fr)), none, none] (by rfl) rfl rfl rfl ?_
  refine z_push 1 (nI 0) rfl rfl rfl ?_
  refine z_istore 2 rfl rfl rfl rfl ?_
  refine z_push 3 (nI 0) rfl rfl rfl ?_
  refine z_istore 4 rfl rfl rfl rfl ?_
  exact loop c 0 0 (by omega) (by decide) rfl
