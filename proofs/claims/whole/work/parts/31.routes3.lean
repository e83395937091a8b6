/-! Routes.leastShift -/
def lsB (v : Nat → Nat) (b : Option Nat) (i : Nat) : Bool := match b with
  | none => true
  | some j => decide (v i < v j)
def lsS (w s g v : Nat → Nat) (kf : Nat → Bool) (gl st lf : Nat) (b : Option Nat) (i : Nat) : Option Nat := if s i = st ∧ sBy w g kf gl i = lf ∧ lsB v b i = true then some i else b
def lsF (w s g v : Nat → Nat) (kf : Nat → Bool) (gl st lf : Nat) : Nat → Nat → Option Nat → Option Nat
  | 0, _, b => b
  | m + 1, i, b => lsF w s g v kf gl st lf m (i + 1) (lsS w s g v kf gl st lf b i)
theorem lsS_in {w s g v : Nat → Nat} {kf : Nat → Bool} {gl st lf i : Nat} {b : Option Nat} {c : Nat} (hb : ∀ j, b = some j → j < c) (hi : i < c) : ∀ j, lsS w s g v kf gl st lf b i = some j → j < c := by
  intro j hj
  unfold lsS at hj
  split at hj
  · cases hj; exact hi
  · exact hb j hj
set_option maxRecDepth 10000 in
theorem c_Ro_leastShift {d : Nat} {h : mH} {e sh n c gl st lf : Nat} {T N A : Nat → Int32} {w : Nat → Nat} {s g v : Nat → Nat} {kf : Nat → Bool} {Q : mP} (hR : RoAt h e T N A (fun j => nI (w j))) (hE : ShAt h sh n (fun j => nI (s j)) (fun j => nI (v j)) (fun j => nI (g j)) (fun j => bI (kf j)) c) (hn : n < 2 ^ 31) (hc : c ≤ n) (hs : ∀ j, j < c → s j < 4) (hg : ∀ j, j < c → g j < 4) (hv : ∀ j, j < c → v j < 256) (hw : ∀ j, j < 4 → w j ≤ 100) (hgl : gl < 5) (hst : st < 4) (hlf : lf < 2 ^ 31) (q : Q (some (.int (oI (lsF w s g v kf gl st lf c 0 none)))) h) : mWP (d + 2) 69 [.ref e, .ref sh, .int (nI gl), .int (nI st), .int (nI lf)] h Q := by
  obtain ⟨R0, R1, R2, R3, R4⟩ := id hR
  obtain ⟨E0, E1, E2, E3, E4⟩ := id hE
  have loop : ∀ m i b, i + m = c → (∀ j, b = some j → j < c) → lsF w s g v kf gl st lf m i b = lsF w s g v kf gl st lf c 0 none → mZ (d + 1) tk_69 0 0 Q 6 [some (.ref e), some (.ref sh), some (.int (nI gl)), some (.int (nI st)), some (.int (nI lf)), some (.int (oI b)), some (.int (nI i))] [] h 0 0 := by
    intro m
    induction m with
    | zero =>
      intro i b hi hb hq
      obtain rfl : i = c := by omega
      refine z_iload 8 rfl rfl rfl ?_
      refine z_aload 9 rfl rfl rfl ?_
      refine z_get 12 rfl rfl E0 rfl ?_
      refine z_nge 15 rfl rfl (by omega) (by omega) (fun _ => ?_) (fun h9 => absurd h9 (by omega))
      refine z_iload 73 rfl rfl rfl ?_
      refine z_ireti rfl (Nat.le_refl _) (Nat.le_refl _) ?_
      rw [← hq] at q
      exact q
    | succ m ih =>
      intro i b hi hb hq
      have hsi := hs i (by omega)
      have hvi := hv i (by omega)
      have hb9 := sBy_le (kf := kf) (gl := gl) hw (hg i (by omega))
      cases b with
      | none =>
        refine z_iload 8 rfl rfl rfl ?_
        refine z_aload 9 rfl rfl rfl ?_
        refine z_get 12 rfl rfl (by first | exact R0 | exact R4 | exact E0 | exact E1 | exact E2 | exact E3 | exact E4) rfl ?_
        first | refine z_nge 15 rfl rfl (by omega) (by omega) (fun hc12 => ?_) (fun hc12 => ?_) | refine z_kge 15 rfl rfl (by omega) (fun hc12 => ?_) (fun hc12 => ?_) | refine z_hge 15 rfl rfl (by omega) (fun hc12 => ?_) (fun hc12 => ?_) | refine z_tge 15 rfl rfl (fun hc12 => ?_) (fun hc12 => ?_)
        · refine z_iload 73 rfl rfl rfl ?_
          refine z_ireti rfl (Nat.le_refl _) (Nat.le_refl _) ?_
          exact absurd hc12 (by omega)
        · refine z_aload 16 rfl rfl rfl ?_
          refine z_get 19 rfl rfl (by first | exact R0 | exact R4 | exact E0 | exact E1 | exact E2 | exact E3 | exact E4) rfl ?_
          refine z_iload 21 rfl rfl rfl ?_
          refine z_ald 22 rfl rfl (by first | exact R0 | exact R4 | exact E0 | exact E1 | exact E2 | exact E3 | exact E4) rfl (by omega) (by omega) ?_
          refine z_iload 23 rfl rfl rfl ?_
          first | refine z_nne 26 rfl rfl (by omega) (by omega) (fun hc23 => ?_) (fun hc23 => ?_) | refine z_kne 26 rfl rfl (by omega) (fun hc23 => ?_) (fun hc23 => ?_) | refine z_hne 26 rfl rfl (by omega) (fun hc23 => ?_) (fun hc23 => ?_) | refine z_cne 26 rfl rfl (fun hc23 => ?_) (fun hc23 => ?_)
          · refine z_iinc 68 _ rfl rfl rfl rfl (by first | with_reducible exact zi_1 _ | rfl) ?_
            refine z_goto rfl ?_
            first
            | exact absurd hc41 (by omega)
            | (refine ih (i + 1) (some i) (by omega) (fun j hj => by cases hj; omega) ?_; rw [← hq]; simp [lsF, lsS, lsB, hc23, hc36]; done)
            | (refine ih (i + 1) none (by omega) hb ?_; rw [← hq]; simp [lsF, lsS, lsB, hc23, hc36]; done)
            | (refine ih (i + 1) none (by omega) hb ?_; rw [← hq]; simp [lsF, lsS, lsB, hc23, hc36]; done)
            | (refine ih (i + 1) none (by omega) hb ?_; rw [← hq]; simp [lsF, lsS, lsB, hc23]; done)
          · refine z_aload 27 rfl rfl rfl ?_
            refine z_aload 28 rfl rfl rfl ?_
            refine z_iload 30 rfl rfl rfl ?_
            refine z_iload 31 rfl rfl rfl ?_
            refine z_cv 34 _ rfl rfl rfl rfl (by first | exact R0 | exact R4 | exact E0 | exact E1 | exact E2 | exact E3 | exact E4) rfl rfl (Nat.le_refl _) (Nat.le_refl _) ?_
            refine c_Ro_stepsBy hR hE hn (by omega) (hg i (by omega)) hgl ?_
            refine z_iload 36 rfl rfl rfl ?_
            first | refine z_nne 39 rfl rfl (by omega) (by omega) (fun hc36 => ?_) (fun hc36 => ?_) | refine z_kne 39 rfl rfl (by omega) (fun hc36 => ?_) (fun hc36 => ?_) | refine z_hne 39 rfl rfl (by omega) (fun hc36 => ?_) (fun hc36 => ?_) | refine z_cne 39 rfl rfl (fun hc36 => ?_) (fun hc36 => ?_)
            · refine z_iinc 68 _ rfl rfl rfl rfl (by first | with_reducible exact zi_1 _ | rfl) ?_
              refine z_goto rfl ?_
              first
              | exact absurd hc41 (by omega)
              | (refine ih (i + 1) (some i) (by omega) (fun j hj => by cases hj; omega) ?_; rw [← hq]; simp [lsF, lsS, lsB, hc23, hc36]; done)
              | (refine ih (i + 1) none (by omega) hb ?_; rw [← hq]; simp [lsF, lsS, lsB, hc23, hc36]; done)
              | (refine ih (i + 1) none (by omega) hb ?_; rw [← hq]; simp [lsF, lsS, lsB, hc23, hc36]; done)
              | (refine ih (i + 1) none (by omega) hb ?_; rw [← hq]; simp [lsF, lsS, lsB, hc23]; done)
            · refine z_iload 41 rfl rfl rfl ?_
              refine z_jlt 44 rfl rfl (fun _ => ?_) (fun h9 => absurd h9 (by decide))
              refine z_iload 63 rfl rfl rfl ?_
              refine z_istore 65 rfl rfl rfl rfl ?_
              refine z_iinc 68 _ rfl rfl rfl rfl (by first | with_reducible exact zi_1 _ | rfl) ?_
              refine z_goto rfl ?_
              first
              | exact absurd hc41 (by omega)
              | (refine ih (i + 1) (some i) (by omega) (fun j hj => by cases hj; omega) ?_; rw [← hq]; simp [lsF, lsS, lsB, hc23, hc36]; done)
              | (refine ih (i + 1) none (by omega) hb ?_; rw [← hq]; simp [lsF, lsS, lsB, hc23, hc36]; done)
              | (refine ih (i + 1) none (by omega) hb ?_; rw [← hq]; simp [lsF, lsS, lsB, hc23, hc36]; done)
              | (refine ih (i + 1) none (by omega) hb ?_; rw [← hq]; simp [lsF, lsS, lsB, hc23]; done)
      | some j =>
        have hj := hb j rfl
        have hvj := hv j hj
        refine z_iload 8 rfl rfl rfl ?_
        refine z_aload 9 rfl rfl rfl ?_
        refine z_get 12 rfl rfl (by first | exact R0 | exact R4 | exact E0 | exact E1 | exact E2 | exact E3 | exact E4) rfl ?_
        first | refine z_nge 15 rfl rfl (by omega) (by omega) (fun hc12 => ?_) (fun hc12 => ?_) | refine z_kge 15 rfl rfl (by omega) (fun hc12 => ?_) (fun hc12 => ?_) | refine z_hge 15 rfl rfl (by omega) (fun hc12 => ?_) (fun hc12 => ?_) | refine z_tge 15 rfl rfl (fun hc12 => ?_) (fun hc12 => ?_)
        · refine z_iload 73 rfl rfl rfl ?_
          refine z_ireti rfl (Nat.le_refl _) (Nat.le_refl _) ?_
          exact absurd hc12 (by omega)
        · refine z_aload 16 rfl rfl rfl ?_
          refine z_get 19 rfl rfl (by first | exact R0 | exact R4 | exact E0 | exact E1 | exact E2 | exact E3 | exact E4) rfl ?_
          refine z_iload 21 rfl rfl rfl ?_
          refine z_ald 22 rfl rfl (by first | exact R0 | exact R4 | exact E0 | exact E1 | exact E2 | exact E3 | exact E4) rfl (by omega) (by omega) ?_
          refine z_iload 23 rfl rfl rfl ?_
          first | refine z_nne 26 rfl rfl (by omega) (by omega) (fun hc23 => ?_) (fun hc23 => ?_) | refine z_kne 26 rfl rfl (by omega) (fun hc23 => ?_) (fun hc23 => ?_) | refine z_hne 26 rfl rfl (by omega) (fun hc23 => ?_) (fun hc23 => ?_) | refine z_cne 26 rfl rfl (fun hc23 => ?_) (fun hc23 => ?_)
          · refine z_iinc 68 _ rfl rfl rfl rfl (by first | with_reducible exact zi_1 _ | rfl) ?_
            refine z_goto rfl ?_
            first
            | exact absurd hc41 (by omega)
            | (refine ih (i + 1) (some i) (by omega) (fun j hj => by cases hj; omega) ?_; rw [← hq]; simp [lsF, lsS, lsB, hc23, hc36, hc58]; done)
            | (refine ih (i + 1) (some j) (by omega) hb ?_; rw [← hq]; simp [lsF, lsS, lsB, hc23, hc36, Nat.not_lt.mpr hc58]; done)
            | (refine ih (i + 1) (some j) (by omega) hb ?_; rw [← hq]; simp [lsF, lsS, lsB, hc23, hc36]; done)
            | (refine ih (i + 1) (some j) (by omega) hb ?_; rw [← hq]; simp [lsF, lsS, lsB, hc23]; done)
          · refine z_aload 27 rfl rfl rfl ?_
            refine z_aload 28 rfl rfl rfl ?_
            refine z_iload 30 rfl rfl rfl ?_
            refine z_iload 31 rfl rfl rfl ?_
            refine z_cv 34 _ rfl rfl rfl rfl (by first | exact R0 | exact R4 | exact E0 | exact E1 | exact E2 | exact E3 | exact E4) rfl rfl (Nat.le_refl _) (Nat.le_refl _) ?_
            refine c_Ro_stepsBy hR hE hn (by omega) (hg i (by omega)) hgl ?_
            refine z_iload 36 rfl rfl rfl ?_
            first | refine z_nne 39 rfl rfl (by omega) (by omega) (fun hc36 => ?_) (fun hc36 => ?_) | refine z_kne 39 rfl rfl (by omega) (fun hc36 => ?_) (fun hc36 => ?_) | refine z_hne 39 rfl rfl (by omega) (fun hc36 => ?_) (fun hc36 => ?_) | refine z_cne 39 rfl rfl (fun hc36 => ?_) (fun hc36 => ?_)
            · refine z_iinc 68 _ rfl rfl rfl rfl (by first | with_reducible exact zi_1 _ | rfl) ?_
              refine z_goto rfl ?_
              first
              | exact absurd hc41 (by omega)
              | (refine ih (i + 1) (some i) (by omega) (fun j hj => by cases hj; omega) ?_; rw [← hq]; simp [lsF, lsS, lsB, hc23, hc36, hc58]; done)
              | (refine ih (i + 1) (some j) (by omega) hb ?_; rw [← hq]; simp [lsF, lsS, lsB, hc23, hc36, Nat.not_lt.mpr hc58]; done)
              | (refine ih (i + 1) (some j) (by omega) hb ?_; rw [← hq]; simp [lsF, lsS, lsB, hc23, hc36]; done)
              | (refine ih (i + 1) (some j) (by omega) hb ?_; rw [← hq]; simp [lsF, lsS, lsB, hc23]; done)
            · refine z_iload 41 rfl rfl rfl ?_
              first | refine z_zlt 44 rfl rfl (by omega) (fun hc41 => ?_) (fun hc41 => ?_) | refine z_jlt 44 rfl rfl (fun hc41 => ?_) (fun hc41 => ?_)
              · refine z_iload 63 rfl rfl rfl ?_
                refine z_istore 65 rfl rfl rfl rfl ?_
                refine z_iinc 68 _ rfl rfl rfl rfl (by first | with_reducible exact zi_1 _ | rfl) ?_
                refine z_goto rfl ?_
                first
                | exact absurd hc41 (by omega)
                | (refine ih (i + 1) (some i) (by omega) (fun j hj => by cases hj; omega) ?_; rw [← hq]; simp [lsF, lsS, lsB, hc23, hc36, hc58]; done)
                | (refine ih (i + 1) (some j) (by omega) hb ?_; rw [← hq]; simp [lsF, lsS, lsB, hc23, hc36, Nat.not_lt.mpr hc58]; done)
                | (refine ih (i + 1) (some j) (by omega) hb ?_; rw [← hq]; simp [lsF, lsS, lsB, hc23, hc36]; done)
                | (refine ih (i + 1) (some j) (by omega) hb ?_; rw [← hq]; simp [lsF, lsS, lsB, hc23]; done)
              · refine z_aload 45 rfl rfl rfl ?_
                refine z_get 48 rfl rfl (by first | exact R0 | exact R4 | exact E0 | exact E1 | exact E2 | exact E3 | exact E4) rfl ?_
                refine z_iload 50 rfl rfl rfl ?_
                refine z_ald 51 rfl rfl (by first | exact R0 | exact R4 | exact E0 | exact E1 | exact E2 | exact E3 | exact E4) rfl (by omega) (by omega) ?_
                refine z_aload 52 rfl rfl rfl ?_
                refine z_get 55 rfl rfl (by first | exact R0 | exact R4 | exact E0 | exact E1 | exact E2 | exact E3 | exact E4) rfl ?_
                refine z_iload 57 rfl rfl rfl ?_
                refine z_ald 58 rfl rfl (by first | exact R0 | exact R4 | exact E0 | exact E1 | exact E2 | exact E3 | exact E4) rfl (by omega) (by omega) ?_
                first | refine z_nge 61 rfl rfl (by omega) (by omega) (fun hc58 => ?_) (fun hc58 => ?_) | refine z_kge 61 rfl rfl (by omega) (fun hc58 => ?_) (fun hc58 => ?_) | refine z_hge 61 rfl rfl (by omega) (fun hc58 => ?_) (fun hc58 => ?_) | refine z_tge 61 rfl rfl (fun hc58 => ?_) (fun hc58 => ?_)
                · refine z_iinc 68 _ rfl rfl rfl rfl (by first | with_reducible exact zi_1 _ | rfl) ?_
                  refine z_goto rfl ?_
                  first
                  | exact absurd hc41 (by omega)
                  | (refine ih (i + 1) (some i) (by omega) (fun j hj => by cases hj; omega) ?_; rw [← hq]; simp [lsF, lsS, lsB, hc23, hc36, hc58]; done)
                  | (refine ih (i + 1) (some j) (by omega) hb ?_; rw [← hq]; simp [lsF, lsS, lsB, hc23, hc36, Nat.not_lt.mpr hc58]; done)
                  | (refine ih (i + 1) (some j) (by omega) hb ?_; rw [← hq]; simp [lsF, lsS, lsB, hc23, hc36]; done)
                  | (refine ih (i + 1) (some j) (by omega) hb ?_; rw [← hq]; simp [lsF, lsS, lsB, hc23]; done)
                · refine z_iload 63 rfl rfl rfl ?_
                  refine z_istore 65 rfl rfl rfl rfl ?_
                  refine z_iinc 68 _ rfl rfl rfl rfl (by first | with_reducible exact zi_1 _ | rfl) ?_
                  refine z_goto rfl ?_
                  first
                  | exact absurd hc41 (by omega)
                  | (refine ih (i + 1) (some i) (by omega) (fun j hj => by cases hj; omega) ?_; rw [← hq]; simp [lsF, lsS, lsB, hc23, hc36, hc58]; done)
                  | (refine ih (i + 1) (some j) (by omega) hb ?_; rw [← hq]; simp [lsF, lsS, lsB, hc23, hc36, Nat.not_lt.mpr hc58]; done)
                  | (refine ih (i + 1) (some j) (by omega) hb ?_; rw [← hq]; simp [lsF, lsS, lsB, hc23, hc36]; done)
                  | (refine ih (i + 1) (some j) (by omega) hb ?_; rw [← hq]; simp [lsF, lsS, lsB, hc23]; done)
  refine z_in [some (.ref e), some (.ref sh), some (.int (nI gl)), some (.int (nI st)), some (.int (nI lf)), none, none] (by rfl) rfl rfl rfl ?_
  refine z_push 1 (-1) rfl rfl rfl ?_
  refine z_istore 3 rfl rfl rfl rfl ?_
  refine z_push 4 (nI 0) rfl rfl rfl ?_
  refine z_istore 6 rfl rfl rfl rfl ?_
  exact loop c 0 none (by omega) (fun j hj => by cases hj) rfl
