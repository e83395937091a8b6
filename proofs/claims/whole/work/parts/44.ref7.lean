/-! the reference: shift, drop -/
theorem jState_n {x : Int32} (h : jState x = true) : ∃ a : Nat, a < 4 ∧ x = nI a ∧ x.toInt.toNat = a := by
  simp only [jState, decide_eq_true_eq] at h
  obtain ⟨a, ha, rfl, ha1, ha2⟩ := ix_of (x := x) (n := 4) (by omega)
  exact ⟨a, ha, rfl, ha2⟩
theorem jByte_n {x : Int32} (h : jByte x = true) : ∃ a : Nat, a < 256 ∧ x = nI a ∧ x.toInt.toNat = a := by
  simp only [jByte, decide_eq_true_eq] at h
  obtain ⟨a, ha, rfl, ha1, ha2⟩ := ix_of (x := x) (n := 256) (by omega)
  exact ⟨a, ha, rfl, ha2⟩
theorem jIn3 (x : Int32) : jIn x (nI 0) (nI 3) = jState x := by rw [jIn_l (by omega) (by omega), jState]; congr 1; rw [eq_iff_iff]; omega
theorem jIn255 (x : Int32) : jIn x (nI 0) (nI 255) = jByte x := by rw [jIn_l (by omega) (by omega), jByte]; congr 1
theorem stS_e (k a b c t : Nat) (v : Bool) (s : rS) : stA 13 k (b2 v) (stA 12 k c (stA 11 k b (stA 10 k a s))) = stS k (a, b, c, v) s := rfl
set_option maxRecDepth 10000 in
theorem r_shift {d r : Nat} {h h0 : mH} {s : rS} {A : Ab} {p st b to : Int32} {k : Bool} {Q : mP} (hR : Rf r h0 s h) (hI : RInv s A) (hB : PgB A.pgs) (hK : ∀ P, pgK A.pgs P < 2 ^ 31)  (q : ∀ h' s', Rf r h0 s' h' → RInv s' (sp_shift A p st b to k).2 → Q (some (.int (sp_shift A p st b to k).1)) h') : mWP (d + 4) 187 [.ref r, .int p, .int st, .int b, .int to, .int (bI k)] h Q := by
  have hG := hI.1
  have hG1 := hG.1
  have hG2 := hG.2.1
  refine z_in [some (.ref r), some (.int p), some (.int st), some (.int b), some (.int to), some (.int (bI k)), none, none] (by rfl) rfl rfl rfl ?_
  refine z_aload 1 rfl rfl rfl ?_
  refine z_iload 2 rfl rfl rfl ?_
  refine z_cv1 5 rfl rfl hR.1 rfl (Nat.le_refl _) (Nat.le_refl _) ?_
  refine r_fixed hR hG hK ?_
  refine z_istore 7 rfl rfl rfl rfl ?_
  refine z_iload 9 rfl rfl rfl ?_
  first | refine z_ieq 12 rfl rfl (fun hc9 => ?_) (fun hc9 => ?_)
  · obtain ⟨hp, hk0, hcl⟩ := fxA_0 hc9
    obtain ⟨P, hP, rfl, hp1, hp2⟩ := ix_of hp
    rw [hp2] at hk0 hcl
    obtain ⟨hg1, hg2, hT⟩ := hG.2.2 P hP
    have hW := hB P hP
    obtain ⟨hT1, hT2, hT3, hT4, hT5⟩ := id hT
    have hW1 := hW.1
    have hW2 := hW.2.1
    refine z_iload 20 rfl rfl rfl ?_
    refine z_push 21 (nI 0) rfl rfl rfl ?_
    refine z_push 22 (nI 3) rfl rfl rfl ?_
    refine z_cs3 25 rfl rfl rfl (Nat.le_refl _) (Nat.le_refl _) ?_
    refine r_in ?_
    rw [jIn3]
    first | refine z_beq 28 rfl rfl (fun hc25 => ?_) (fun hc25 => ?_)
    · refine z_aload 56 rfl rfl rfl ?_
      refine z_push 57 (-1) rfl rfl rfl ?_
      refine z_cv1 60 rfl rfl hR.1 rfl (Nat.le_refl _) (Nat.le_refl _) ?_
      refine r_tell hR (fun h9 => absurd h9 (by decide)) (fun _ h hR => ?_)
      refine z_ireti rfl (Nat.le_refl _) (Nat.le_refl _) ?_
      have e9 : sp_shift A (nI P) st b to k = (-1, A.tell) := by
        rw [sp_shift, if_pos hc9, if_neg ?_]
        intro h9
        first | (rw [hc25] at h9; exact absurd h9.1 (by decide)) | (rw [hc35] at h9; exact absurd h9.2.1 (by decide)) | exact h9.2.2.1 hc41 | (rw [hc52] at h9; exact absurd h9.2.2.2 (by decide))
      rw [e9] at q
      exact q h _ hR hI.tell
    · refine z_iload 30 rfl rfl rfl ?_
      refine z_push 31 (nI 0) rfl rfl rfl ?_
      refine z_push 32 (nI 3) rfl rfl rfl ?_
      refine z_cs3 35 rfl rfl rfl (Nat.le_refl _) (Nat.le_refl _) ?_
      refine r_in ?_
      rw [jIn3]
      first | refine z_beq 38 rfl rfl (fun hc35 => ?_) (fun hc35 => ?_)
      · refine z_aload 56 rfl rfl rfl ?_
        refine z_push 57 (-1) rfl rfl rfl ?_
        refine z_cv1 60 rfl rfl hR.1 rfl (Nat.le_refl _) (Nat.le_refl _) ?_
        refine r_tell hR (fun h9 => absurd h9 (by decide)) (fun _ h hR => ?_)
        refine z_ireti rfl (Nat.le_refl _) (Nat.le_refl _) ?_
        have e9 : sp_shift A (nI P) st b to k = (-1, A.tell) := by
          rw [sp_shift, if_pos hc9, if_neg ?_]
          intro h9
          first | (rw [hc25] at h9; exact absurd h9.1 (by decide)) | (rw [hc35] at h9; exact absurd h9.2.1 (by decide)) | exact h9.2.2.1 hc41 | (rw [hc52] at h9; exact absurd h9.2.2.2 (by decide))
        rw [e9] at q
        exact q h _ hR hI.tell
      · refine z_iload 39 rfl rfl rfl ?_
        refine z_iload 41 rfl rfl rfl ?_
        refine z_ceq 44 rfl rfl (fun hc41 => ?_) (fun hc41 => ?_)
        · refine z_aload 56 rfl rfl rfl ?_
          refine z_push 57 (-1) rfl rfl rfl ?_
          refine z_cv1 60 rfl rfl hR.1 rfl (Nat.le_refl _) (Nat.le_refl _) ?_
          refine r_tell hR (fun h9 => absurd h9 (by decide)) (fun _ h hR => ?_)
          refine z_ireti rfl (Nat.le_refl _) (Nat.le_refl _) ?_
          have e9 : sp_shift A (nI P) st b to k = (-1, A.tell) := by
            rw [sp_shift, if_pos hc9, if_neg ?_]
            intro h9
            first | (rw [hc25] at h9; exact absurd h9.1 (by decide)) | (rw [hc35] at h9; exact absurd h9.2.1 (by decide)) | exact h9.2.2.1 hc41 | (rw [hc52] at h9; exact absurd h9.2.2.2 (by decide))
          rw [e9] at q
          exact q h _ hR hI.tell
        · refine z_iload 45 rfl rfl rfl ?_
          refine z_push 46 (nI 0) rfl rfl rfl ?_
          refine z_push 49 (nI 255) rfl rfl rfl ?_
          refine z_cs3 52 rfl rfl rfl (Nat.le_refl _) (Nat.le_refl _) ?_
          refine r_in ?_
          rw [jIn255]
          first | refine z_bne 55 rfl rfl (fun hc52 => ?_) (fun hc52 => ?_)
          · obtain ⟨a, ha, rfl, ha'⟩ := jState_n hc25
            obtain ⟨g, hg, rfl, hg'⟩ := jState_n hc35
            obtain ⟨b, hb, rfl, hb'⟩ := jByte_n hc52
            refine z_aload 62 rfl rfl rfl ?_
            refine z_iload 63 rfl rfl rfl ?_
            refine z_iload 64 rfl rfl rfl ?_
            refine z_iload 65 rfl rfl rfl ?_
            refine z_cv3 68 rfl rfl hR.1 rfl (Nat.le_refl _) (Nat.le_refl _) ?_
            refine r_shiftOf hR hT hW (by omega) (by omega) ?_
            rcases hfd : ffd (sQ (pgH A.pgs P) a b) (pgH A.pgs P).length 0 with _ | k9
            · simp only [oIb]
              refine z_jlt 71 rfl rfl (fun _ => ?_) (fun h9 => absurd h9 (by decide))
              refine z_aload 79 rfl rfl rfl ?_
              refine y_ga 82 hR rfl rfl rfl ?_
              refine z_iload 83 rfl rfl rfl ?_
              refine y_al (f := 4) 84 _ hR rfl rfl rfl rfl (by omega) (by repeat (first | with_reducible exact hT3 | with_reducible exact gA_eq _ _ _ _ | (with_reducible apply gA_ne; decide) | with_reducible apply gA_I | with_reducible apply gA_O | (with_reducible apply gA_nj; omega) | with_reducible rfl)) ?_
              refine z_push 86 (nI 10) rfl rfl rfl ?_
              refine z_nne 89 rfl rfl (by omega) (by omega) (fun hc86 => ?_) (fun hc86 => ?_)
              · refine z_push 98 (nI 10) rfl rfl rfl ?_
                refine z_iload 99 rfl rfl rfl ?_
                refine z_bop 100 _ rfl rfl (by first | with_reducible exact zb_2 _ _ | exact zd_2 _ _) ?_
                refine z_aload 101 rfl rfl rfl ?_
                refine y_ga 104 hR rfl rfl rfl ?_
                refine z_iload 105 rfl rfl rfl ?_
                refine y_al (f := 4) 106 _ hR rfl rfl rfl rfl (by omega) (by repeat (first | with_reducible exact hT3 | with_reducible exact gA_eq _ _ _ _ | (with_reducible apply gA_ne; decide) | with_reducible apply gA_I | with_reducible apply gA_O | (with_reducible apply gA_nj; omega) | with_reducible rfl)) ?_
                refine z_bop 107 _ rfl rfl (by first | with_reducible exact zb_0 _ _ | exact zd_0 _ _) ?_
                refine z_istore 109 rfl rfl rfl rfl ?_
                refine z_aload 110 rfl rfl rfl ?_
                refine y_ga 113 hR rfl rfl rfl ?_
                refine z_iload 115 rfl rfl rfl ?_
                refine z_iload 116 rfl rfl rfl ?_
                refine y_as (f := 10) 117 hR rfl rfl rfl rfl (by omega) ?_
                intro h hR
                refine z_aload 118 rfl rfl rfl ?_
                refine y_ga 121 hR rfl rfl rfl ?_
                refine z_iload 123 rfl rfl rfl ?_
                refine z_iload 124 rfl rfl rfl ?_
                refine y_as (f := 11) 125 hR rfl rfl rfl rfl (by omega) ?_
                intro h hR
                refine z_aload 126 rfl rfl rfl ?_
                refine y_ga 129 hR rfl rfl rfl ?_
                refine z_iload 131 rfl rfl rfl ?_
                refine z_iload 133 rfl rfl rfl ?_
                refine y_as (f := 12) 134 hR rfl rfl rfl rfl (by omega) ?_
                intro h hR
                refine z_aload 135 rfl rfl rfl ?_
                refine y_ga 138 hR rfl rfl rfl ?_
                refine z_iload 140 rfl rfl rfl ?_
                refine z_iload 142 rfl rfl rfl ?_
                refine y_sb (f := 13) 143 hR rfl rfl rfl rfl (by omega) ?_
                intro h hR
                refine z_aload 144 rfl rfl rfl ?_
                refine y_ga 147 hR rfl rfl rfl ?_
                refine z_iload 148 rfl rfl rfl ?_
                refine z_dup2 149 rfl rfl ?_
                refine y_al (f := 4) 150 _ hR rfl rfl rfl rfl (by omega) (by repeat (first | with_reducible exact hT3 | with_reducible exact gA_eq _ _ _ _ | (with_reducible apply gA_ne; decide) | with_reducible apply gA_I | with_reducible apply gA_O | (with_reducible apply gA_nj; omega) | with_reducible rfl)) ?_
                refine z_push 151 (nI 1) rfl rfl rfl ?_
                refine z_bop 152 _ rfl rfl (by first | with_reducible exact zb_0 _ _ | exact zd_0 _ _) ?_
                refine y_as (f := 4) 153 hR rfl rfl rfl rfl (by omega) ?_
                intro h hR
                refine z_push 154 (nI 0) rfl rfl rfl ?_
                refine z_ireti rfl (Nat.le_refl _) (Nat.le_refl _) ?_
                have e9 : sp_shift A (nI P) (nI a) (nI b) (nI g) k = (0, A.wPgs (A.pgs.set P (0, false, pgE A.pgs P, pgH A.pgs P ++ [(a, b, g, k)]))) := by
                  rw [sp_shift, if_pos hc9, if_pos ⟨hc25, hc35, hc41, hc52⟩, hp2, ha', hb', hg', hfd]
                  rw [if_pos rfl, if_neg (by omega)]
                rw [stS_e (t := 0)] at hR
                rw [e9] at q
                exact q h _ hR (hI.addS hB hP hk0 hcl (by omega))
              · refine z_aload 90 rfl rfl rfl ?_
                refine z_push 92 (-6) rfl rfl rfl ?_
                refine z_cv1 95 rfl rfl hR.1 rfl (Nat.le_refl _) (Nat.le_refl _) ?_
                refine r_tell hR (fun h9 => absurd h9 (by decide)) (fun _ h hR => ?_)
                refine z_ireti rfl (Nat.le_refl _) (Nat.le_refl _) ?_
                have e9 : sp_shift A (nI P) (nI a) (nI b) (nI g) k = (-6, A.tell) := by
                  rw [sp_shift, if_pos hc9, if_pos ⟨hc25, hc35, hc41, hc52⟩, hp2, ha', hb', hg', hfd]
                  rw [if_pos rfl, if_pos (by omega)]
                rw [e9] at q
                exact q h _ hR hI.tell
            · simp only [oIb]
              have hk9 := ffd_lt hfd
              refine z_zlt 71 rfl rfl (by omega) (fun h9 => absurd h9 (by omega)) (fun _ => ?_)
              refine z_aload 72 rfl rfl rfl ?_
              refine z_push 74 (-7) rfl rfl rfl ?_
              refine z_cv1 77 rfl rfl hR.1 rfl (Nat.le_refl _) (Nat.le_refl _) ?_
              refine r_tell hR (fun h9 => absurd h9 (by decide)) (fun _ h hR => ?_)
              refine z_ireti rfl (Nat.le_refl _) (Nat.le_refl _) ?_
              have e9 : sp_shift A (nI P) (nI a) (nI b) (nI g) k = (-7, A.tell) := by
                rw [sp_shift, if_pos hc9, if_pos ⟨hc25, hc35, hc41, hc52⟩, hp2, ha', hb', hg', hfd]
                exact if_neg (by simp)
              rw [e9] at q
              exact q h _ hR hI.tell
          · refine z_aload 56 rfl rfl rfl ?_
            refine z_push 57 (-1) rfl rfl rfl ?_
            refine z_cv1 60 rfl rfl hR.1 rfl (Nat.le_refl _) (Nat.le_refl _) ?_
            refine r_tell hR (fun h9 => absurd h9 (by decide)) (fun _ h hR => ?_)
            refine z_ireti rfl (Nat.le_refl _) (Nat.le_refl _) ?_
            have e9 : sp_shift A (nI P) st b to k = (-1, A.tell) := by
              rw [sp_shift, if_pos hc9, if_neg ?_]
              intro h9
              first | (rw [hc25] at h9; exact absurd h9.1 (by decide)) | (rw [hc35] at h9; exact absurd h9.2.1 (by decide)) | exact h9.2.2.1 hc41 | (rw [hc52] at h9; exact absurd h9.2.2.2 (by decide))
            rw [e9] at q
            exact q h _ hR hI.tell
  · refine z_aload 13 rfl rfl rfl ?_
    refine z_iload 15 rfl rfl rfl ?_
    refine z_cv1 18 rfl rfl hR.1 rfl (Nat.le_refl _) (Nat.le_refl _) ?_
    refine r_tell hR (fun h9 => absurd h9 (by have := fxA_n hc9; omega)) (fun _ h hR => ?_)
    refine z_ireti rfl (Nat.le_refl _) (Nat.le_refl _) ?_
    have e9 : sp_shift A p st b to k = (fxA A.pgs p, A.tell) := if_neg hc9
    rw [e9] at q
    exact q h _ hR hI.tell
/-- entries from k on have moved down, up to i -/
def ErI (lo hi b : Nat) (s0 s : rS) (k i : Nat) : Prop := s.1 = s0.1 ∧ s.2.1 = s0.2.1 ∧ (∀ f, (f < lo ∨ hi < f) → s.2.2 f = s0.2.2 f) ∧ ∀ f, lo ≤ f → f ≤ hi → ∀ j, s.2.2 f j = if b + k ≤ j ∧ j < b + i then s0.2.2 f (j + 1) else s0.2.2 f j
theorem ErI.z {lo hi b k : Nat} {s : rS} : ErI lo hi b s s k k := ⟨rfl, rfl, fun _ _ => rfl, fun f _ _ j => by rw [if_neg (by omega)]⟩
theorem ErI.sE {b k i : Nat} {s0 s : rS} (h : ErI 5 9 b s0 s k i) (hk : k ≤ i) : ErI 5 9 b s0 (cpE (b + i + 1) (b + i) s) k (i + 1) := by
  refine ⟨h.1, h.2.1, fun f hf => ?_, fun f h1 h2 j => ?_⟩
  · rw [← h.2.2.1 f hf]
    simp only [cpE]
    rw [gAf (by omega), gAf (by omega), gAf (by omega), gAf (by omega), gAf (by omega)]
  · have e1 : ∀ j, (cpE (b + i + 1) (b + i) s).2.2 f j = if j = b + i then s.2.2 f (b + i + 1) else s.2.2 f j := by
      intro j
      have hf : f = 5 ∨ f = 6 ∨ f = 7 ∨ f = 8 ∨ f = 9 := by omega
      rcases hf with rfl | rfl | rfl | rfl | rfl <;> simp [cpE, stA, updN]
    rw [e1]
    by_cases hj : j = b + i
    · subst hj
      rw [if_pos rfl, if_pos (by omega), h.2.2.2 f h1 h2, if_neg (by omega)]
    · rw [if_neg hj, h.2.2.2 f h1 h2]
      by_cases h3 : b + k ≤ j ∧ j < b + i
      · rw [if_pos h3, if_pos (by omega)]
      · rw [if_neg h3, if_neg (by omega)]
theorem ErI.sS {b k i : Nat} {s0 s : rS} (h : ErI 10 13 b s0 s k i) (hk : k ≤ i) : ErI 10 13 b s0 (cpS (b + i + 1) (b + i) s) k (i + 1) := by
  refine ⟨h.1, h.2.1, fun f hf => ?_, fun f h1 h2 j => ?_⟩
  · rw [← h.2.2.1 f hf]
    simp only [cpS]
    rw [gAf (by omega), gAf (by omega), gAf (by omega), gAf (by omega)]
  · have e1 : ∀ j, (cpS (b + i + 1) (b + i) s).2.2 f j = if j = b + i then s.2.2 f (b + i + 1) else s.2.2 f j := by
      intro j
      have hf : f = 10 ∨ f = 11 ∨ f = 12 ∨ f = 13 := by omega
      rcases hf with rfl | rfl | rfl | rfl <;> simp [cpS, stA, updN]
    rw [e1]
    by_cases hj : j = b + i
    · subst hj
      rw [if_pos rfl, if_pos (by omega), h.2.2.2 f h1 h2, if_neg (by omega)]
    · rw [if_neg hj, h.2.2.2 f h1 h2]
      by_cases h3 : b + k ≤ j ∧ j < b + i
      · rw [if_pos h3, if_pos (by omega)]
      · rw [if_neg h3, if_neg (by omega)]
theorem TbR.eraE {s s' : rS} {p k : Nat} {E : List En} {H : List Sh} (h : TbR s p E H) (hk : k < E.length) (he : ErI 5 9 (100 * p) (stA 3 p (E.length - 1) s) s' k (E.length - 1)) : TbR s' p (E.eraseIdx k) H := by
  obtain ⟨e1, e2, e3, e4⟩ := he
  refine ⟨h.1, ?_, ?_, fun j hj => ?_, fun j hj => ?_⟩
  · rw [e3 3 (by omega), gA_eq, List.length_eraseIdx, if_pos hk]
  · rw [e3 4 (by omega)]; exact h.2.2.1
  · rw [List.length_eraseIdx, if_pos hk] at hj
    rw [e4 5 (by omega) (by omega), e4 6 (by omega) (by omega), e4 7 (by omega) (by omega), e4 8 (by omega) (by omega), e4 9 (by omega) (by omega), enS, enT, enN, enP, enF, getD_era9]
    by_cases h3 : j < k
    · simp only [if_neg (show ¬ (100 * p + k ≤ 100 * p + j ∧ 100 * p + j < 100 * p + (E.length - 1)) by omega), if_pos h3]
      exact h.2.2.2.1 j (by omega)
    · simp only [if_pos (show 100 * p + k ≤ 100 * p + j ∧ 100 * p + j < 100 * p + (E.length - 1) by omega), if_neg h3]
      exact h.2.2.2.1 (j + 1) (by omega)
  · rw [e3 10 (by omega), e3 11 (by omega), e3 12 (by omega), e3 13 (by omega)]
    exact h.2.2.2.2 j hj
theorem TbR.eraS {s s' : rS} {p k : Nat} {E : List En} {H : List Sh} (h : TbR s p E H) (hk : k < H.length) (he : ErI 10 13 (10 * p) (stA 4 p (H.length - 1) s) s' k (H.length - 1)) : TbR s' p E (H.eraseIdx k) := by
  obtain ⟨e1, e2, e3, e4⟩ := he
  refine ⟨h.1, ?_, ?_, fun j hj => ?_, fun j hj => ?_⟩
  · rw [e3 3 (by omega)]; exact h.2.1
  · rw [e3 4 (by omega), gA_eq, List.length_eraseIdx, if_pos hk]
  · rw [e3 5 (by omega), e3 6 (by omega), e3 7 (by omega), e3 8 (by omega), e3 9 (by omega)]
    exact h.2.2.2.1 j hj
  · rw [List.length_eraseIdx, if_pos hk] at hj
    rw [e4 10 (by omega) (by omega), e4 11 (by omega) (by omega), e4 12 (by omega) (by omega), e4 13 (by omega) (by omega), shS, shV, shG, shK, getD_era9]
    by_cases h3 : j < k
    · simp only [if_neg (show ¬ (10 * p + k ≤ 10 * p + j ∧ 10 * p + j < 10 * p + (H.length - 1)) by omega), if_pos h3]
      exact h.2.2.2.2 j (by omega)
    · simp only [if_pos (show 10 * p + k ≤ 10 * p + j ∧ 10 * p + j < 10 * p + (H.length - 1) by omega), if_neg h3]
      exact h.2.2.2.2 (j + 1) (by omega)
theorem RInv.eraE {s s' : rS} {A : Ab} {P k : Nat} (hI : RInv s A) (hB : PgB A.pgs) (hP : P < A.pgs.length) (hk0 : pgK A.pgs P = 0) (hcl : pgC A.pgs P = false) (hk : k < (pgE A.pgs P).length) (he : ErI 5 9 (100 * P) (stA 3 P ((pgE A.pgs P).length - 1) s) s' k ((pgE A.pgs P).length - 1)) : RInv s' (A.wPgs (A.pgs.set P (0, false, (pgE A.pgs P).eraseIdx k, pgH A.pgs P))) := by
  have hg := hI.1.2.2 P hP
  have hW := (hB P hP).1
  obtain ⟨e1, e2, e3, e4⟩ := id he
  refine hI.pg (fun c hc => by rw [e1]; rfl) (fun f hf => by rw [e3 f (by omega), gAf (by omega)]) (hI.1.upd hB hP (by rw [e1]; rfl) (by rw [e3 1 (by omega)]; exact hg.1.trans hk0) (by rw [e3 2 (by omega)]; exact hg.2.1.trans (by rw [hcl])) (hg.2.2.eraE hk he) (fun p hp hpp => ⟨by rw [e3 1 (by omega)]; rfl, by rw [e3 2 (by omega)]; rfl, ?_⟩))
  refine (same_3 hpp).trans ⟨by rw [e3 3 (by omega)], by rw [e3 4 (by omega)], fun j hj => ?_, fun j hj => ?_⟩
  · rw [e4 5 (by omega) (by omega), e4 6 (by omega) (by omega), e4 7 (by omega) (by omega), e4 8 (by omega) (by omega), e4 9 (by omega) (by omega)]
    simp only [if_neg (show ¬ (100 * P + k ≤ 100 * p + j ∧ 100 * p + j < 100 * P + ((pgE A.pgs P).length - 1)) by omega), and_self]
  · rw [e3 10 (by omega), e3 11 (by omega), e3 12 (by omega), e3 13 (by omega)]
    exact ⟨rfl, rfl, rfl, rfl⟩
theorem RInv.eraS {s s' : rS} {A : Ab} {P k : Nat} (hI : RInv s A) (hB : PgB A.pgs) (hP : P < A.pgs.length) (hk0 : pgK A.pgs P = 0) (hcl : pgC A.pgs P = false) (hk : k < (pgH A.pgs P).length) (he : ErI 10 13 (10 * P) (stA 4 P ((pgH A.pgs P).length - 1) s) s' k ((pgH A.pgs P).length - 1)) : RInv s' (A.wPgs (A.pgs.set P (0, false, pgE A.pgs P, (pgH A.pgs P).eraseIdx k))) := by
  have hg := hI.1.2.2 P hP
  have hW := (hB P hP).2.1
  obtain ⟨e1, e2, e3, e4⟩ := id he
  refine hI.pg (fun c hc => by rw [e1]; rfl) (fun f hf => by rw [e3 f (by omega), gAf (by omega)]) (hI.1.upd hB hP (by rw [e1]; rfl) (by rw [e3 1 (by omega)]; exact hg.1.trans hk0) (by rw [e3 2 (by omega)]; exact hg.2.1.trans (by rw [hcl])) (hg.2.2.eraS hk he) (fun p hp hpp => ⟨by rw [e3 1 (by omega)]; rfl, by rw [e3 2 (by omega)]; rfl, ?_⟩))
  refine (same_4 hpp).trans ⟨by rw [e3 3 (by omega)], by rw [e3 4 (by omega)], fun j hj => ?_, fun j hj => ?_⟩
  · rw [e3 5 (by omega), e3 6 (by omega), e3 7 (by omega), e3 8 (by omega), e3 9 (by omega)]
    exact ⟨rfl, rfl, rfl, rfl, rfl⟩
  · rw [e4 10 (by omega) (by omega), e4 11 (by omega) (by omega), e4 12 (by omega) (by omega), e4 13 (by omega) (by omega)]
    simp only [if_neg (show ¬ (10 * P + k ≤ 10 * p + j ∧ 10 * p + j < 10 * P + ((pgH A.pgs P).length - 1)) by omega), and_self]
def sp_drop (A : Ab) (p st bt n : Int32) : Int32 × Ab :=
  if fxA A.pgs p = 0 then
    if jText st bt n = true then
      match ffd (eQ (pgE A.pgs p.toInt.toNat) st.toInt.toNat bt.toInt.toNat n.toInt.toNat) (pgE A.pgs p.toInt.toNat).length 0 with
      | some k => (0, A.wPgs (A.pgs.set p.toInt.toNat (0, false, (pgE A.pgs p.toInt.toNat).eraseIdx k, pgH A.pgs p.toInt.toNat)))
      | none => if n.toInt.toNat = 1 then
          match ffd (sQ (pgH A.pgs p.toInt.toNat) st.toInt.toNat bt.toInt.toNat) (pgH A.pgs p.toInt.toNat).length 0 with
          | some k => (1, A.wPgs (A.pgs.set p.toInt.toNat (0, false, pgE A.pgs p.toInt.toNat, (pgH A.pgs p.toInt.toNat).eraseIdx k)))
          | none => (-2, A.tell)
        else (-2, A.tell)
    else (-1, A.tell)
  else (fxA A.pgs p, A.tell)
set_option maxRecDepth 10000 in
theorem r_drop {d r : Nat} {h h0 : mH} {s : rS} {A : Ab} {p st bt n : Int32} {Q : mP} (hR : Rf r h0 s h) (hI : RInv s A) (hB : PgB A.pgs) (hK : ∀ P, pgK A.pgs P < 2 ^ 31)  (q : ∀ h' s', Rf r h0 s' h' → RInv s' (sp_drop A p st bt n).2 → Q (some (.int (sp_drop A p st bt n).1)) h') : mWP (d + 4) 188 [.ref r, .int p, .int st, .int bt, .int n] h Q := by
  have hG := hI.1
  have hG1 := hG.1
  have hG2 := hG.2.1
  refine z_in [some (.ref r), some (.int p), some (.int st), some (.int bt), some (.int n), none, none] (by rfl) rfl rfl rfl ?_
  refine z_aload 1 rfl rfl rfl ?_
  refine z_iload 2 rfl rfl rfl ?_
  refine z_cv1 5 rfl rfl hR.1 rfl (Nat.le_refl _) (Nat.le_refl _) ?_
  refine r_fixed hR hG hK ?_
  refine z_istore 7 rfl rfl rfl rfl ?_
  refine z_iload 9 rfl rfl rfl ?_
  first | refine z_ieq 12 rfl rfl (fun hc9 => ?_) (fun hc9 => ?_)
  · obtain ⟨hp, hk0, hcl⟩ := fxA_0 hc9
    obtain ⟨P, hP, rfl, hp1, hp2⟩ := ix_of hp
    rw [hp2] at hk0 hcl
    obtain ⟨hg1, hg2, hT⟩ := hG.2.2 P hP
    have hW := hB P hP
    obtain ⟨hT1, hT2, hT3, hT4, hT5⟩ := id hT
    have hW1 := hW.1
    have hW2 := hW.2.1
    refine z_iload 20 rfl rfl rfl ?_
    refine z_iload 21 rfl rfl rfl ?_
    refine z_iload 23 rfl rfl rfl ?_
    refine z_cs3 26 rfl rfl rfl (Nat.le_refl _) (Nat.le_refl _) ?_
    refine r_isText ?_
    first | refine z_bne 29 rfl rfl (fun hc26 => ?_) (fun hc26 => ?_)
    · obtain ⟨a, b, c, ha, hb, hc0, hc1, hbc, rfl, rfl, rfl, ha', hb', hc'⟩ := jText_n hc26
      refine z_aload 36 rfl rfl rfl ?_
      refine z_iload 37 rfl rfl rfl ?_
      refine z_iload 38 rfl rfl rfl ?_
      refine z_iload 39 rfl rfl rfl ?_
      refine z_iload 41 rfl rfl rfl ?_
      refine z_cv4 44 rfl rfl hR.1 rfl (Nat.le_refl _) (Nat.le_refl _) ?_
      refine r_entryOf hR hT hW (by omega) (by omega) (by omega) ?_
      rcases hfd : ffd (eQ (pgE A.pgs P) a b c) (pgE A.pgs P).length 0 with _ | k
      · simp only [oIb]
        refine z_istore 46 rfl rfl rfl rfl ?_
        refine z_iload 48 rfl rfl rfl ?_
        refine z_jlt 51 rfl rfl (fun _ => ?_) (fun h9 => absurd h9 (by decide))
        refine z_iload 97 rfl rfl rfl ?_
        refine z_push 98 (nI 1) rfl rfl rfl ?_
        refine z_nne 101 rfl rfl (by omega) (by omega) (fun hc98 => ?_) (fun hc98 => ?_)
        · refine z_push 112 (-1) rfl rfl rfl ?_
          refine z_istore 114 rfl rfl rfl rfl ?_
          refine z_iload 116 rfl rfl rfl ?_
          refine z_jge 119 rfl rfl (fun h9 => absurd h9 (by decide)) (fun _ => ?_)
          refine z_aload 120 rfl rfl rfl ?_
          refine z_push 122 (-2) rfl rfl rfl ?_
          refine z_cv1 125 rfl rfl hR.1 rfl (Nat.le_refl _) (Nat.le_refl _) ?_
          refine r_tell hR (fun h9 => absurd h9 (by decide)) (fun _ h hR => ?_)
          refine z_ireti rfl (Nat.le_refl _) (Nat.le_refl _) ?_
          have e9 : sp_drop A (nI P) (nI a) (nI b) (nI c) = (-2, A.tell) := by
            rw [sp_drop, if_pos hc9, if_pos hc26, hp2, ha', hb', hc', hfd]
            first | (simp only [if_neg hc98]; done) | (simp only [if_pos hc98, hfs]; done)
          rw [e9] at q
          exact q h _ hR hI.tell
        · refine z_aload 102 rfl rfl rfl ?_
          refine z_iload 103 rfl rfl rfl ?_
          refine z_iload 104 rfl rfl rfl ?_
          refine z_iload 105 rfl rfl rfl ?_
          refine z_cv3 108 rfl rfl hR.1 rfl (Nat.le_refl _) (Nat.le_refl _) ?_
          refine r_shiftOf hR hT hW (by omega) (by omega) ?_
          rcases hfs : ffd (sQ (pgH A.pgs P) a b) (pgH A.pgs P).length 0 with _ | k
          · simp only [oIb]
            refine z_goto rfl ?_
            refine z_istore 114 rfl rfl rfl rfl ?_
            refine z_iload 116 rfl rfl rfl ?_
            refine z_jge 119 rfl rfl (fun h9 => absurd h9 (by decide)) (fun _ => ?_)
            refine z_aload 120 rfl rfl rfl ?_
            refine z_push 122 (-2) rfl rfl rfl ?_
            refine z_cv1 125 rfl rfl hR.1 rfl (Nat.le_refl _) (Nat.le_refl _) ?_
            refine r_tell hR (fun h9 => absurd h9 (by decide)) (fun _ h hR => ?_)
            refine z_ireti rfl (Nat.le_refl _) (Nat.le_refl _) ?_
            have e9 : sp_drop A (nI P) (nI a) (nI b) (nI c) = (-2, A.tell) := by
              rw [sp_drop, if_pos hc9, if_pos hc26, hp2, ha', hb', hc', hfd]
              first | (simp only [if_neg hc98]; done) | (simp only [if_pos hc98, hfs]; done)
            rw [e9] at q
            exact q h _ hR hI.tell
          · simp only [oIb]
            have hk9 := ffd_lt hfs
            have loopS : ∀ m i s1 h, (pgH A.pgs P).length - 1 < i + m → i ≤ (pgH A.pgs P).length - 1 → k ≤ i → Rf r h0 s1 h → ErI 10 13 (10 * P) (stA 4 P ((pgH A.pgs P).length - 1) s) s1 k i → mZ (d + 3) tk_188 0 0 Q 136 [some (.ref r), some (.int (nI P)), some (.int (nI a)), some (.int (nI b)), some (.int (nI c)), some (.int 0), some (.int (nI (10 * P + i)))] [] h 0 0 := by
              intro m
              induction m with
              | zero => intro i s1 h h1 h2; omega
              | succ m ih =>
                intro i s1 h h1 h2 hki hR he
                have hfl : s1.2.2 4 P = (pgH A.pgs P).length - 1 := by rw [he.2.2.1 4 (by omega)]; exact gA_eq _ _ _ _
                refine z_iload 138 rfl rfl rfl ?_
                refine z_push 140 (nI 10) rfl rfl rfl ?_
                refine z_iload 141 rfl rfl rfl ?_
                refine z_bop 142 _ rfl rfl (by first | with_reducible exact zb_2 _ _ | exact zd_2 _ _) ?_
                refine z_aload 143 rfl rfl rfl ?_
                refine y_ga 146 hR rfl rfl rfl ?_
                refine z_iload 147 rfl rfl rfl ?_
                refine y_al (f := 4) 148 _ hR rfl rfl rfl rfl (by omega) (by repeat (first | with_reducible exact hfl | with_reducible exact gA_eq _ _ _ _ | (with_reducible apply gA_ne; decide) | with_reducible apply gA_I | with_reducible apply gA_O | (with_reducible apply gA_nj; omega) | with_reducible rfl)) ?_
                refine z_bop 149 _ rfl rfl (by first | with_reducible exact zb_0 _ _ | exact zd_0 _ _) ?_
                refine z_nge 152 rfl rfl (by omega) (by omega) (fun hc149 => ?_) (fun hc149 => ?_)
                · refine z_push 169 (nI 1) rfl rfl rfl ?_
                  refine z_ireti rfl (Nat.le_refl _) (Nat.le_refl _) ?_
                  have e9 : sp_drop A (nI P) (nI a) (nI b) (nI c) = (1, A.wPgs (A.pgs.set P (0, false, pgE A.pgs P, (pgH A.pgs P).eraseIdx k))) := by
                    rw [sp_drop, if_pos hc9, if_pos hc26, hp2, ha', hb', hc', hfd]
                    simp only [if_pos hc98, hfs]
                  rw [e9] at q
                  obtain rfl : i = (pgH A.pgs P).length - 1 := by omega
                  exact q h s1 hR (hI.eraS hB hP hk0 hcl (by omega) he)
                · refine z_aload 153 rfl rfl rfl ?_
                  refine z_iload 155 rfl rfl rfl ?_
                  refine z_push 156 (nI 1) rfl rfl rfl ?_
                  refine z_bop 157 _ rfl rfl (by first | with_reducible exact zb_0 _ _ | exact zd_0 _ _) ?_
                  refine z_iload 159 rfl rfl rfl ?_
                  refine z_cv2 162 rfl rfl hR.1 rfl (Nat.le_refl _) (Nat.le_refl _) ?_
                  refine r_copyShift hR (by omega) (by omega) ?_ (fun h hR => ?_)
                  · rw [he.2.2.2 13 (by omega) (by omega), if_neg (by omega)]
                    have h9 := (hT5 (i + 1) (by omega)).2.2.2
                    exact Nat.lt_of_le_of_lt (Nat.le_of_eq h9) (b2_lt _)
                  refine z_iinc 165 _ rfl rfl rfl rfl (by first | with_reducible exact zi_1 _ | rfl) ?_
                  refine z_goto rfl ?_
                  exact ih (i + 1) _ h (by omega) (by omega) (by omega) hR (he.sS hki)
            refine z_goto rfl ?_
            refine z_istore 114 rfl rfl rfl rfl ?_
            refine z_iload 116 rfl rfl rfl ?_
            refine z_zge 119 rfl rfl (by omega) (fun _ => ?_) (fun h9 => absurd h9 (by omega))
            refine z_aload 127 rfl rfl rfl ?_
            refine y_ga 130 hR rfl rfl rfl ?_
            refine z_iload 131 rfl rfl rfl ?_
            refine z_dup2 132 rfl rfl ?_
            refine y_al (f := 4) 133 _ hR rfl rfl rfl rfl (by omega) (by repeat (first | with_reducible exact hT2 | with_reducible exact hT3 | with_reducible exact gA_eq _ _ _ _ | (with_reducible apply gA_ne; decide) | with_reducible apply gA_I | with_reducible apply gA_O | (with_reducible apply gA_nj; omega) | with_reducible rfl)) ?_
            refine z_push 134 (nI 1) rfl rfl rfl ?_
            refine z_bop 135 _ rfl rfl (zb_1 (by omega)) ?_
            refine y_as (f := 4) 136 hR rfl rfl rfl rfl (by omega) ?_
            intro h hR
            rw [hc9]
            exact loopS ((pgH A.pgs P).length) k _ h (by omega) (by omega) (by omega) hR ErI.z
      · simp only [oIb]
        have hk9 := ffd_lt hfd
        have loopE : ∀ m i s1 h, (pgE A.pgs P).length - 1 < i + m → i ≤ (pgE A.pgs P).length - 1 → k ≤ i → Rf r h0 s1 h → ErI 5 9 (100 * P) (stA 3 P ((pgE A.pgs P).length - 1) s) s1 k i → mZ (d + 3) tk_188 0 0 Q 61 [some (.ref r), some (.int (nI P)), some (.int (nI a)), some (.int (nI b)), some (.int (nI c)), some (.int 0), some (.int (nI (100 * P + i)))] [] h 0 0 := by
          intro m
          induction m with
          | zero => intro i s1 h h1 h2; omega
          | succ m ih =>
            intro i s1 h h1 h2 hki hR he
            have hfl : s1.2.2 3 P = (pgE A.pgs P).length - 1 := by rw [he.2.2.1 3 (by omega)]; exact gA_eq _ _ _ _
            refine z_iload 63 rfl rfl rfl ?_
            refine z_push 65 (nI 100) rfl rfl rfl ?_
            refine z_iload 66 rfl rfl rfl ?_
            refine z_bop 67 _ rfl rfl (by first | with_reducible exact zb_2 _ _ | exact zd_2 _ _) ?_
            refine z_aload 68 rfl rfl rfl ?_
            refine y_ga 71 hR rfl rfl rfl ?_
            refine z_iload 72 rfl rfl rfl ?_
            refine y_al (f := 3) 73 _ hR rfl rfl rfl rfl (by omega) (by repeat (first | with_reducible exact hfl | with_reducible exact gA_eq _ _ _ _ | (with_reducible apply gA_ne; decide) | with_reducible apply gA_I | with_reducible apply gA_O | (with_reducible apply gA_nj; omega) | with_reducible rfl)) ?_
            refine z_bop 74 _ rfl rfl (by first | with_reducible exact zb_0 _ _ | exact zd_0 _ _) ?_
            refine z_nge 77 rfl rfl (by omega) (by omega) (fun hc74 => ?_) (fun hc74 => ?_)
            · refine z_push 94 (nI 0) rfl rfl rfl ?_
              refine z_ireti rfl (Nat.le_refl _) (Nat.le_refl _) ?_
              have e9 : sp_drop A (nI P) (nI a) (nI b) (nI c) = (0, A.wPgs (A.pgs.set P (0, false, (pgE A.pgs P).eraseIdx k, pgH A.pgs P))) := by
                rw [sp_drop, if_pos hc9, if_pos hc26, hp2, ha', hb', hc', hfd]
              rw [e9] at q
              obtain rfl : i = (pgE A.pgs P).length - 1 := by omega
              exact q h s1 hR (hI.eraE hB hP hk0 hcl (by omega) he)
            · refine z_aload 78 rfl rfl rfl ?_
              refine z_iload 80 rfl rfl rfl ?_
              refine z_push 81 (nI 1) rfl rfl rfl ?_
              refine z_bop 82 _ rfl rfl (by first | with_reducible exact zb_0 _ _ | exact zd_0 _ _) ?_
              refine z_iload 84 rfl rfl rfl ?_
              refine z_cv2 87 rfl rfl hR.1 rfl (Nat.le_refl _) (Nat.le_refl _) ?_
              refine r_copyEntry hR (by omega) (by omega) ?_ (fun h hR => ?_)
              · rw [he.2.2.2 9 (by omega) (by omega), if_neg (by omega)]
                have h9 := (hT4 (i + 1) (by omega)).2.2.2.2
                exact Nat.lt_of_le_of_lt (Nat.le_of_eq h9) (b2_lt _)
              refine z_iinc 90 _ rfl rfl rfl rfl (by first | with_reducible exact zi_1 _ | rfl) ?_
              refine z_goto rfl ?_
              exact ih (i + 1) _ h (by omega) (by omega) (by omega) hR (he.sE hki)
        refine z_istore 46 rfl rfl rfl rfl ?_
        refine z_iload 48 rfl rfl rfl ?_
        refine z_zlt 51 rfl rfl (by omega) (fun h9 => absurd h9 (by omega)) (fun _ => ?_)
        refine z_aload 52 rfl rfl rfl ?_
        refine y_ga 55 hR rfl rfl rfl ?_
        refine z_iload 56 rfl rfl rfl ?_
        refine z_dup2 57 rfl rfl ?_
        refine y_al (f := 3) 58 _ hR rfl rfl rfl rfl (by omega) (by repeat (first | with_reducible exact hT2 | with_reducible exact hT3 | with_reducible exact gA_eq _ _ _ _ | (with_reducible apply gA_ne; decide) | with_reducible apply gA_I | with_reducible apply gA_O | (with_reducible apply gA_nj; omega) | with_reducible rfl)) ?_
        refine z_push 59 (nI 1) rfl rfl rfl ?_
        refine z_bop 60 _ rfl rfl (zb_1 (by omega)) ?_
        refine y_as (f := 3) 61 hR rfl rfl rfl rfl (by omega) ?_
        intro h hR
        rw [hc9]
        exact loopE ((pgE A.pgs P).length) k _ h (by omega) (by omega) (by omega) hR ErI.z
    · refine z_aload 30 rfl rfl rfl ?_
      refine z_push 31 (-1) rfl rfl rfl ?_
      refine z_cv1 34 rfl rfl hR.1 rfl (Nat.le_refl _) (Nat.le_refl _) ?_
      refine r_tell hR (fun h9 => absurd h9 (by decide)) (fun _ h hR => ?_)
      refine z_ireti rfl (Nat.le_refl _) (Nat.le_refl _) ?_
      have e9 : sp_drop A (nI P) st bt n = (-1, A.tell) := by
        rw [sp_drop, if_pos hc9, if_neg (by rw [hc26]; decide)]
      rw [e9] at q
      exact q h _ hR hI.tell
  · refine z_aload 13 rfl rfl rfl ?_
    refine z_iload 15 rfl rfl rfl ?_
    refine z_cv1 18 rfl rfl hR.1 rfl (Nat.le_refl _) (Nat.le_refl _) ?_
    refine r_tell hR (fun h9 => absurd h9 (by have := fxA_n hc9; omega)) (fun _ h hR => ?_)
    refine z_ireti rfl (Nat.le_refl _) (Nat.le_refl _) ?_
    have e9 : sp_drop A p st bt n = (fxA A.pgs p, A.tell) := if_neg hc9
    rw [e9] at q
    exact q h _ hR hI.tell
