/-! the reference: entry, shift -/
theorem jText_n {x y z : Int32} (h : jText x y z = true) : ∃ a b c : Nat, a < 4 ∧ b < 16777216 ∧ 1 ≤ c ∧ c ≤ 3 ∧ b < 256 ^ c ∧ x = nI a ∧ y = nI b ∧ z = nI c ∧ x.toInt.toNat = a ∧ y.toInt.toNat = b ∧ z.toInt.toNat = c := by
  simp only [jText, jState, Bool.and_eq_true, decide_eq_true_eq] at h
  obtain ⟨⟨h1, h2⟩, h3⟩ := h
  obtain ⟨a, ha, rfl, ha1, ha2⟩ := ix_of (x := x) (n := 4) (by omega)
  obtain ⟨c, hc, rfl, hc1, hc2⟩ := ix_of (x := z) (n := 4) (by omega)
  have e : (nI 1 <<< ((nI 8 * nI c) &&& 31)).toInt = (256 ^ c : Nat) := by
    have : ∀ c, c < 4 → 1 ≤ c → (nI 1 <<< ((nI 8 * nI c) &&& 31)).toInt = (256 ^ c : Nat) := by decide +kernel
    exact this c hc (by omega)
  rw [e] at h3
  obtain ⟨b, hb, rfl, hb1, hb2⟩ := ix_of (x := y) (n := 256 ^ c) (by omega)
  have h6 : 256 ^ c ≤ 256 ^ 3 := Nat.pow_le_pow_right (by decide) (by omega)
  exact ⟨a, b, c, ha, by omega, by omega, by omega, hb, rfl, rfl, rfl, ha2, hb2, hc2⟩
theorem jPoint_n {x : Int32} (h : jPoint x = true) : ∃ a : Nat, nPt a = true ∧ x = nI a ∧ x.toInt.toNat = a := by
  simp only [jPoint, jHalf, Bool.and_eq_true, decide_eq_true_eq, Bool.not_eq_true', decide_eq_false_iff_not] at h
  obtain ⟨a, ha, rfl, ha1, ha2⟩ := ix_of (x := x) (n := 1114112) (by omega)
  refine ⟨a, ?_, rfl, ha2⟩
  simp only [nPt, Bool.and_eq_true, decide_eq_true_eq, Bool.not_eq_true', decide_eq_false_iff_not]
  omega
theorem RInv.setE {s : rS} {A : Ab} {P k : Nat} {e : En} (hI : RInv s A) (hB : PgB A.pgs) (hP : P < A.pgs.length) (hk0 : pgK A.pgs P = 0) (hcl : pgC A.pgs P = false) (hk : k < (pgE A.pgs P).length) : RInv (stE (100 * P + k) e s) (A.wPgs (A.pgs.set P (0, false, (pgE A.pgs P).set k e, pgH A.pgs P))) := by
  have hg := hI.1.2.2 P hP
  have hW := (hB P hP).1
  refine hI.pg (fun c hc => rfl) (fun f hf => ?_) (hI.1.upd hB hP rfl (hg.1.trans hk0) (hg.2.1.trans (by rw [hcl])) (hg.2.2.setE hk) (fun p hp hpp => ⟨rfl, rfl, same_E hpp (by omega)⟩))
  simp only [stE]
  rw [gAf (by omega), gAf (by omega), gAf (by omega), gAf (by omega), gAf (by omega)]
theorem RInv.addE {s : rS} {A : Ab} {P : Nat} {e : En} (hI : RInv s A) (hB : PgB A.pgs) (hP : P < A.pgs.length) (hk0 : pgK A.pgs P = 0) (hcl : pgC A.pgs P = false) (hk : (pgE A.pgs P).length < 100) : RInv (stA 3 P ((pgE A.pgs P).length + 1) (stE (100 * P + (pgE A.pgs P).length) e s)) (A.wPgs (A.pgs.set P (0, false, pgE A.pgs P ++ [e], pgH A.pgs P))) := by
  have hg := hI.1.2.2 P hP
  refine hI.pg (fun c hc => rfl) (fun f hf => ?_) (hI.1.upd hB hP rfl (hg.1.trans hk0) (hg.2.1.trans (by rw [hcl])) hg.2.2.addE (fun p hp hpp => ⟨rfl, rfl, (same_E hpp (by omega)).trans (same_3 hpp)⟩))
  simp only [stE]
  rw [gAf (by omega), gAf (by omega), gAf (by omega), gAf (by omega), gAf (by omega), gAf (by omega)]
theorem RInv.addS {s : rS} {A : Ab} {P : Nat} {e : Sh} (hI : RInv s A) (hB : PgB A.pgs) (hP : P < A.pgs.length) (hk0 : pgK A.pgs P = 0) (hcl : pgC A.pgs P = false) (hk : (pgH A.pgs P).length < 10) : RInv (stA 4 P ((pgH A.pgs P).length + 1) (stS (10 * P + (pgH A.pgs P).length) e s)) (A.wPgs (A.pgs.set P (0, false, pgE A.pgs P, pgH A.pgs P ++ [e]))) := by
  have hg := hI.1.2.2 P hP
  refine hI.pg (fun c hc => rfl) (fun f hf => ?_) (hI.1.upd hB hP rfl (hg.1.trans hk0) (hg.2.1.trans (by rw [hcl])) hg.2.2.addS (fun p hp hpp => ⟨rfl, rfl, (same_S hpp (by omega)).trans (same_4 hpp)⟩))
  simp only [stS]
  rw [gAf (by omega), gAf (by omega), gAf (by omega), gAf (by omega), gAf (by omega)]
theorem stE_f (k a b c t : Nat) (s : rS) : stA 9 k 0 (stA 8 k t (stA 7 k b (stA 6 k c (stA 5 k a s)))) = stE k (a, b, c, t, false) s := rfl
theorem stE_t (k a b c t : Nat) (s : rS) : stA 9 k 1 (stA 8 k t (stA 7 k b (stA 6 k c (stA 5 k a s)))) = stE k (a, b, c, t, true) s := rfl
theorem ffd_lt {P : Nat → Bool} {k : Nat} : ∀ {m i : Nat}, ffd P m i = some k → k < i + m
  | 0, _, h => by cases h
  | m + 1, i, h => by
    unfold ffd at h
    split at h
    · cases h; omega
    · have := ffd_lt h; omega
set_option maxRecDepth 10000 in
theorem r_entry {d r : Nat} {h h0 : mH} {s : rS} {A : Ab} {p st bt n code : Int32} {Q : mP} (hR : Rf r h0 s h) (hI : RInv s A) (hB : PgB A.pgs) (hK : ∀ P, pgK A.pgs P < 2 ^ 31)  (q : ∀ h' s', Rf r h0 s' h' → RInv s' (sp_entry A p st bt n code).2 → Q (some (.int (sp_entry A p st bt n code).1)) h') : mWP (d + 4) 186 [.ref r, .int p, .int st, .int bt, .int n, .int code] h Q := by
  have hG := hI.1
  have hG1 := hG.1
  have hG2 := hG.2.1
  refine z_in [some (.ref r), some (.int p), some (.int st), some (.int bt), some (.int n), some (.int code), none, none, none, none] (by rfl) rfl rfl rfl ?_
  refine z_aload 1 rfl rfl rfl ?_
  refine z_iload 2 rfl rfl rfl ?_
  refine z_cv1 5 rfl rfl hR.1 rfl (Nat.le_refl _) (Nat.le_refl _) ?_
  refine r_fixed hR hG hK ?_
  refine z_istore 7 rfl rfl rfl rfl ?_
  refine z_iload 9 rfl rfl rfl ?_
  first | refine z_ieq 12 rfl rfl (fun hc9 => ?_) (fun hc9 => ?_)
  · obtain ⟨hp, hk0, hcl⟩ := fxA_0 hc9
    obtain ⟨P, hP, rfl, hp1, hp2⟩ := ix_of hp
    rw [hp2] at hk0 hcl
    obtain ⟨hg1, hg2, hT⟩ := hG.2.2 P hP
    have hW := hB P hP
    obtain ⟨hT1, hT2, hT3, hT4, hT5⟩ := id hT
    have hW1 := hW.1
    have hW2 := hW.2.1
    refine z_iload 21 rfl rfl rfl ?_
    first | refine z_jlt 24 rfl rfl (fun hc21 => ?_) (fun hc21 => ?_)
    · refine z_push 30 (-1) rfl rfl rfl ?_
      refine z_iload 32 rfl rfl rfl ?_
      refine z_bop 33 _ rfl rfl (by first | with_reducible exact zb_1 (by omega) | exact zd_1 _ _) ?_
      refine z_istore 35 rfl rfl rfl rfl ?_
      refine z_iload 36 rfl rfl rfl ?_
      refine z_iload 37 rfl rfl rfl ?_
      refine z_iload 39 rfl rfl rfl ?_
      refine z_cs3 42 rfl rfl rfl (Nat.le_refl _) (Nat.le_refl _) ?_
      refine r_isText ?_
      first | refine z_beq 45 rfl rfl (fun hc42 => ?_) (fun hc42 => ?_)
      · refine z_aload 54 rfl rfl rfl ?_
        refine z_push 55 (-1) rfl rfl rfl ?_
        refine z_cv1 58 rfl rfl hR.1 rfl (Nat.le_refl _) (Nat.le_refl _) ?_
        refine r_tell hR (fun h9 => absurd h9 (by decide)) (fun _ h hR => ?_)
        refine z_ireti rfl (Nat.le_refl _) (Nat.le_refl _) ?_
        have e9 : sp_entry A (nI P) st bt n code = (-1, A.tell) := by
          rw [sp_entry, if_pos hc9, if_neg ?_]
          intro h9
          first | (rw [hc42] at h9; exact absurd h9.1 (by decide)) | (have h10 := h9.2; rw [show ptOf code = _ from by first | exact if_pos (by omega) | exact if_neg (by omega), hjp, hc50] at h10; exact absurd h10 (by decide))
        rw [e9] at q
        exact q h _ hR hI.tell
      · refine z_iload 47 rfl rfl rfl ?_
        refine z_cs1 50 rfl rfl rfl (Nat.le_refl _) (Nat.le_refl _) ?_
        refine r_isPoint ?_
        generalize hjp : jPoint _ = jp
        first | refine z_bne 53 rfl rfl (fun hc50 => ?_) (fun hc50 => ?_)
        · obtain ⟨a, b, c, ha, hb, hc0, hc1, hbc, rfl, rfl, rfl, ha', hb', hc'⟩ := jText_n hc42
          obtain ⟨t, ht, ht1, ht2⟩ := jPoint_n (hjp.trans hc50)
          have htl := nPt_lt ht
          have hti : (nI t).toInt = t := nI_toInt (by omega)
          refine z_aload 60 rfl rfl rfl ?_
          refine z_iload 61 rfl rfl rfl ?_
          refine z_iload 62 rfl rfl rfl ?_
          refine z_iload 63 rfl rfl rfl ?_
          refine z_iload 65 rfl rfl rfl ?_
          refine z_cv4 68 rfl rfl hR.1 rfl (Nat.le_refl _) (Nat.le_refl _) ?_
          refine r_entryOf hR hT hW (by omega) (by omega) (by omega) ?_
          rcases hfd : ffd (eQ (pgE A.pgs P) a b c) (pgE A.pgs P).length 0 with _ | k
          · simp only [oIb]
            refine z_istore 70 rfl rfl rfl rfl ?_
            refine z_iload 72 rfl rfl rfl ?_
            refine z_jge 75 rfl rfl (fun h9 => absurd h9 (by decide)) (fun _ => ?_)
            refine z_aload 76 rfl rfl rfl ?_
            refine y_ga 79 hR rfl rfl rfl ?_
            refine z_iload 80 rfl rfl rfl ?_
            refine y_al (f := 3) 81 _ hR rfl rfl rfl rfl (by omega) (by repeat (first | with_reducible exact hT2 | with_reducible exact gA_eq _ _ _ _ | (with_reducible apply gA_ne; decide) | with_reducible apply gA_I | with_reducible apply gA_O | (with_reducible apply gA_nj; omega) | with_reducible rfl)) ?_
            refine z_push 83 (nI 100) rfl rfl rfl ?_
            refine z_nne 86 rfl rfl (by omega) (by omega) (fun hc83 => ?_) (fun hc83 => ?_)
            · refine z_iload 95 rfl rfl rfl ?_
              refine z_jlt 98 rfl rfl (fun _ => ?_) (fun h9 => absurd h9 (by decide))
              refine z_push 105 (nI 100) rfl rfl rfl ?_
              refine z_iload 106 rfl rfl rfl ?_
              refine z_bop 107 _ rfl rfl (by first | with_reducible exact zb_2 _ _ | exact zd_2 _ _) ?_
              refine z_aload 108 rfl rfl rfl ?_
              refine y_ga 111 hR rfl rfl rfl ?_
              refine z_iload 112 rfl rfl rfl ?_
              refine y_al (f := 3) 113 _ hR rfl rfl rfl rfl (by omega) (by repeat (first | with_reducible exact hT2 | with_reducible exact gA_eq _ _ _ _ | (with_reducible apply gA_ne; decide) | with_reducible apply gA_I | with_reducible apply gA_O | (with_reducible apply gA_nj; omega) | with_reducible rfl)) ?_
              refine z_bop 114 _ rfl rfl (by first | with_reducible exact zb_0 _ _ | exact zd_0 _ _) ?_
              refine z_istore 116 rfl rfl rfl rfl ?_
              refine z_aload 117 rfl rfl rfl ?_
              refine y_ga 120 hR rfl rfl rfl ?_
              refine z_iload 122 rfl rfl rfl ?_
              refine z_iload 123 rfl rfl rfl ?_
              refine y_as (f := 5) 124 hR rfl rfl rfl rfl (by omega) ?_
              intro h hR
              refine z_aload 125 rfl rfl rfl ?_
              refine y_ga 128 hR rfl rfl rfl ?_
              refine z_iload 130 rfl rfl rfl ?_
              refine z_iload 132 rfl rfl rfl ?_
              refine y_as (f := 6) 133 hR rfl rfl rfl rfl (by omega) ?_
              intro h hR
              refine z_aload 134 rfl rfl rfl ?_
              refine y_ga 137 hR rfl rfl rfl ?_
              refine z_iload 139 rfl rfl rfl ?_
              refine z_iload 140 rfl rfl rfl ?_
              refine y_as (f := 7) 141 hR rfl rfl rfl rfl (by omega) ?_
              intro h hR
              refine z_aload 142 rfl rfl rfl ?_
              refine y_ga 145 hR rfl rfl rfl ?_
              refine z_iload 147 rfl rfl rfl ?_
              refine z_iload 149 rfl rfl rfl ?_
              rw [ht1]
              refine y_as (f := 8) 150 hR rfl rfl rfl rfl (by omega) ?_
              intro h hR
              refine z_aload 151 rfl rfl rfl ?_
              refine y_ga 154 hR rfl rfl rfl ?_
              refine z_iload 156 rfl rfl rfl ?_
              refine z_iload 158 rfl rfl rfl ?_
              refine z_jlt 161 rfl rfl (fun _ => ?_) (fun h9 => absurd h9 (by omega))
              refine z_push 166 (nI 0) rfl rfl rfl ?_
              refine y_bs (f := 9) 167 hR rfl rfl rfl rfl (by omega) (by decide) ?_
              intro h hR
              refine z_iload 169 rfl rfl rfl ?_
              refine z_jlt 172 rfl rfl (fun _ => ?_) (fun h9 => absurd h9 (by decide))
              refine z_aload 175 rfl rfl rfl ?_
              refine y_ga 178 hR rfl rfl rfl ?_
              refine z_iload 179 rfl rfl rfl ?_
              refine z_dup2 180 rfl rfl ?_
              refine y_al (f := 3) 181 _ hR rfl rfl rfl rfl (by omega) (by repeat (first | with_reducible exact hT2 | with_reducible exact gA_eq _ _ _ _ | (with_reducible apply gA_ne; decide) | with_reducible apply gA_I | with_reducible apply gA_O | (with_reducible apply gA_nj; omega) | with_reducible rfl)) ?_
              refine z_push 182 (nI 1) rfl rfl rfl ?_
              refine z_bop 183 _ rfl rfl (by first | with_reducible exact zb_0 _ _ | exact zd_0 _ _) ?_
              refine y_as (f := 3) 184 hR rfl rfl rfl rfl (by omega) ?_
              intro h hR
              refine z_push 185 (nI 0) rfl rfl rfl ?_
              refine z_ireti rfl (Nat.le_refl _) (Nat.le_refl _) ?_
              have e9 : sp_entry A (nI P) (nI a) (nI b) (nI c) code = (0, A.wPgs (A.pgs.set P (0, false, pgE A.pgs P ++ [(a, b, c, t, decide (0 ≤ code.toInt))], pgH A.pgs P))) := by
                rw [sp_entry, if_pos hc9, if_pos ⟨hc42, by rw [show ptOf code = _ from by first | exact if_pos (by omega) | exact if_neg (by omega)]; exact hjp.trans hc50⟩, hp2, ha', hb', hc', hfd, show ptOf code = _ from by first | exact if_pos (by omega) | exact if_neg (by omega), ht2]
                exact if_neg (by omega)
              rw [stE_f] at hR
              rw [e9, show decide (0 ≤ code.toInt) = false from by first | exact decide_eq_true (by omega) | exact decide_eq_false (by omega)] at q
              exact q h (stA 3 P ((pgE A.pgs P).length + 1) (stE (100 * P + (pgE A.pgs P).length) (a, b, c, t, false) s)) hR (hI.addE hB hP hk0 hcl (by omega))
            · refine z_aload 87 rfl rfl rfl ?_
              refine z_push 89 (-6) rfl rfl rfl ?_
              refine z_cv1 92 rfl rfl hR.1 rfl (Nat.le_refl _) (Nat.le_refl _) ?_
              refine r_tell hR (fun h9 => absurd h9 (by decide)) (fun _ h hR => ?_)
              refine z_ireti rfl (Nat.le_refl _) (Nat.le_refl _) ?_
              have e9 : sp_entry A (nI P) (nI a) (nI b) (nI c) code = (-6, A.tell) := by
                rw [sp_entry, if_pos hc9, if_pos ⟨hc42, by rw [show ptOf code = _ from by first | exact if_pos (by omega) | exact if_neg (by omega)]; exact hjp.trans hc50⟩, hp2, ha', hb', hc', hfd]
                exact if_pos (by omega)
              rw [e9] at q
              exact q h _ hR hI.tell
          · simp only [oIb]
            have hk9 := ffd_lt hfd
            refine z_istore 70 rfl rfl rfl rfl ?_
            refine z_iload 72 rfl rfl rfl ?_
            refine z_zge 75 rfl rfl (by omega) (fun _ => ?_) (fun h9 => absurd h9 (by omega))
            refine z_iload 95 rfl rfl rfl ?_
            refine z_zlt 98 rfl rfl (by omega) (fun h9 => absurd h9 (by omega)) (fun _ => ?_)
            refine z_iload 100 rfl rfl rfl ?_
            refine z_goto rfl ?_
            refine z_istore 116 rfl rfl rfl rfl ?_
            refine z_aload 117 rfl rfl rfl ?_
            refine y_ga 120 hR rfl rfl rfl ?_
            refine z_iload 122 rfl rfl rfl ?_
            refine z_iload 123 rfl rfl rfl ?_
            refine y_as (f := 5) 124 hR rfl rfl rfl rfl (by omega) ?_
            intro h hR
            refine z_aload 125 rfl rfl rfl ?_
            refine y_ga 128 hR rfl rfl rfl ?_
            refine z_iload 130 rfl rfl rfl ?_
            refine z_iload 132 rfl rfl rfl ?_
            refine y_as (f := 6) 133 hR rfl rfl rfl rfl (by omega) ?_
            intro h hR
            refine z_aload 134 rfl rfl rfl ?_
            refine y_ga 137 hR rfl rfl rfl ?_
            refine z_iload 139 rfl rfl rfl ?_
            refine z_iload 140 rfl rfl rfl ?_
            refine y_as (f := 7) 141 hR rfl rfl rfl rfl (by omega) ?_
            intro h hR
            refine z_aload 142 rfl rfl rfl ?_
            refine y_ga 145 hR rfl rfl rfl ?_
            refine z_iload 147 rfl rfl rfl ?_
            refine z_iload 149 rfl rfl rfl ?_
            rw [ht1]
            refine y_as (f := 8) 150 hR rfl rfl rfl rfl (by omega) ?_
            intro h hR
            refine z_aload 151 rfl rfl rfl ?_
            refine y_ga 154 hR rfl rfl rfl ?_
            refine z_iload 156 rfl rfl rfl ?_
            refine z_iload 158 rfl rfl rfl ?_
            refine z_jlt 161 rfl rfl (fun _ => ?_) (fun h9 => absurd h9 (by omega))
            refine z_push 166 (nI 0) rfl rfl rfl ?_
            refine y_bs (f := 9) 167 hR rfl rfl rfl rfl (by omega) (by decide) ?_
            intro h hR
            refine z_iload 169 rfl rfl rfl ?_
            refine z_zlt 172 rfl rfl (by omega) (fun h9 => absurd h9 (by omega)) (fun _ => ?_)
            refine z_push 173 (nI 1) rfl rfl rfl ?_
            refine z_ireti rfl (Nat.le_refl _) (Nat.le_refl _) ?_
            have e9 : sp_entry A (nI P) (nI a) (nI b) (nI c) code = (1, A.wPgs (A.pgs.set P (0, false, (pgE A.pgs P).set k (a, b, c, t, decide (0 ≤ code.toInt)), pgH A.pgs P))) := by
              rw [sp_entry, if_pos hc9, if_pos ⟨hc42, by rw [show ptOf code = _ from by first | exact if_pos (by omega) | exact if_neg (by omega)]; exact hjp.trans hc50⟩, hp2, ha', hb', hc', hfd, show ptOf code = _ from by first | exact if_pos (by omega) | exact if_neg (by omega), ht2]
            rw [stE_f] at hR
            rw [e9, show decide (0 ≤ code.toInt) = false from by first | exact decide_eq_true (by omega) | exact decide_eq_false (by omega)] at q
            exact q h (stE (100 * P + k) (a, b, c, t, false) s) hR (hI.setE hB hP hk0 hcl (by omega))
        · refine z_aload 54 rfl rfl rfl ?_
          refine z_push 55 (-1) rfl rfl rfl ?_
          refine z_cv1 58 rfl rfl hR.1 rfl (Nat.le_refl _) (Nat.le_refl _) ?_
          refine r_tell hR (fun h9 => absurd h9 (by decide)) (fun _ h hR => ?_)
          refine z_ireti rfl (Nat.le_refl _) (Nat.le_refl _) ?_
          have e9 : sp_entry A (nI P) st bt n code = (-1, A.tell) := by
            rw [sp_entry, if_pos hc9, if_neg ?_]
            intro h9
            first | (rw [hc42] at h9; exact absurd h9.1 (by decide)) | (have h10 := h9.2; rw [show ptOf code = _ from by first | exact if_pos (by omega) | exact if_neg (by omega), hjp, hc50] at h10; exact absurd h10 (by decide))
          rw [e9] at q
          exact q h _ hR hI.tell
    · refine z_iload 26 rfl rfl rfl ?_
      refine z_goto rfl ?_
      refine z_istore 35 rfl rfl rfl rfl ?_
      refine z_iload 36 rfl rfl rfl ?_
      refine z_iload 37 rfl rfl rfl ?_
      refine z_iload 39 rfl rfl rfl ?_
      refine z_cs3 42 rfl rfl rfl (Nat.le_refl _) (Nat.le_refl _) ?_
      refine r_isText ?_
      first | refine z_beq 45 rfl rfl (fun hc42 => ?_) (fun hc42 => ?_)
      · refine z_aload 54 rfl rfl rfl ?_
        refine z_push 55 (-1) rfl rfl rfl ?_
        refine z_cv1 58 rfl rfl hR.1 rfl (Nat.le_refl _) (Nat.le_refl _) ?_
        refine r_tell hR (fun h9 => absurd h9 (by decide)) (fun _ h hR => ?_)
        refine z_ireti rfl (Nat.le_refl _) (Nat.le_refl _) ?_
        have e9 : sp_entry A (nI P) st bt n code = (-1, A.tell) := by
          rw [sp_entry, if_pos hc9, if_neg ?_]
          intro h9
          first | (rw [hc42] at h9; exact absurd h9.1 (by decide)) | (have h10 := h9.2; rw [show ptOf code = _ from by first | exact if_pos (by omega) | exact if_neg (by omega), hjp, hc50] at h10; exact absurd h10 (by decide))
        rw [e9] at q
        exact q h _ hR hI.tell
      · refine z_iload 47 rfl rfl rfl ?_
        refine z_cs1 50 rfl rfl rfl (Nat.le_refl _) (Nat.le_refl _) ?_
        refine r_isPoint ?_
        generalize hjp : jPoint _ = jp
        first | refine z_bne 53 rfl rfl (fun hc50 => ?_) (fun hc50 => ?_)
        · obtain ⟨a, b, c, ha, hb, hc0, hc1, hbc, rfl, rfl, rfl, ha', hb', hc'⟩ := jText_n hc42
          obtain ⟨t, ht, ht1, ht2⟩ := jPoint_n (hjp.trans hc50)
          have htl := nPt_lt ht
          have hti : (nI t).toInt = t := nI_toInt (by omega)
          refine z_aload 60 rfl rfl rfl ?_
          refine z_iload 61 rfl rfl rfl ?_
          refine z_iload 62 rfl rfl rfl ?_
          refine z_iload 63 rfl rfl rfl ?_
          refine z_iload 65 rfl rfl rfl ?_
          refine z_cv4 68 rfl rfl hR.1 rfl (Nat.le_refl _) (Nat.le_refl _) ?_
          refine r_entryOf hR hT hW (by omega) (by omega) (by omega) ?_
          rcases hfd : ffd (eQ (pgE A.pgs P) a b c) (pgE A.pgs P).length 0 with _ | k
          · simp only [oIb]
            refine z_istore 70 rfl rfl rfl rfl ?_
            refine z_iload 72 rfl rfl rfl ?_
            refine z_jge 75 rfl rfl (fun h9 => absurd h9 (by decide)) (fun _ => ?_)
            refine z_aload 76 rfl rfl rfl ?_
            refine y_ga 79 hR rfl rfl rfl ?_
            refine z_iload 80 rfl rfl rfl ?_
            refine y_al (f := 3) 81 _ hR rfl rfl rfl rfl (by omega) (by repeat (first | with_reducible exact hT2 | with_reducible exact gA_eq _ _ _ _ | (with_reducible apply gA_ne; decide) | with_reducible apply gA_I | with_reducible apply gA_O | (with_reducible apply gA_nj; omega) | with_reducible rfl)) ?_
            refine z_push 83 (nI 100) rfl rfl rfl ?_
            refine z_nne 86 rfl rfl (by omega) (by omega) (fun hc83 => ?_) (fun hc83 => ?_)
            · refine z_iload 95 rfl rfl rfl ?_
              refine z_jlt 98 rfl rfl (fun _ => ?_) (fun h9 => absurd h9 (by decide))
              refine z_push 105 (nI 100) rfl rfl rfl ?_
              refine z_iload 106 rfl rfl rfl ?_
              refine z_bop 107 _ rfl rfl (by first | with_reducible exact zb_2 _ _ | exact zd_2 _ _) ?_
              refine z_aload 108 rfl rfl rfl ?_
              refine y_ga 111 hR rfl rfl rfl ?_
              refine z_iload 112 rfl rfl rfl ?_
              refine y_al (f := 3) 113 _ hR rfl rfl rfl rfl (by omega) (by repeat (first | with_reducible exact hT2 | with_reducible exact gA_eq _ _ _ _ | (with_reducible apply gA_ne; decide) | with_reducible apply gA_I | with_reducible apply gA_O | (with_reducible apply gA_nj; omega) | with_reducible rfl)) ?_
              refine z_bop 114 _ rfl rfl (by first | with_reducible exact zb_0 _ _ | exact zd_0 _ _) ?_
              refine z_istore 116 rfl rfl rfl rfl ?_
              refine z_aload 117 rfl rfl rfl ?_
              refine y_ga 120 hR rfl rfl rfl ?_
              refine z_iload 122 rfl rfl rfl ?_
              refine z_iload 123 rfl rfl rfl ?_
              refine y_as (f := 5) 124 hR rfl rfl rfl rfl (by omega) ?_
              intro h hR
              refine z_aload 125 rfl rfl rfl ?_
              refine y_ga 128 hR rfl rfl rfl ?_
              refine z_iload 130 rfl rfl rfl ?_
              refine z_iload 132 rfl rfl rfl ?_
              refine y_as (f := 6) 133 hR rfl rfl rfl rfl (by omega) ?_
              intro h hR
              refine z_aload 134 rfl rfl rfl ?_
              refine y_ga 137 hR rfl rfl rfl ?_
              refine z_iload 139 rfl rfl rfl ?_
              refine z_iload 140 rfl rfl rfl ?_
              refine y_as (f := 7) 141 hR rfl rfl rfl rfl (by omega) ?_
              intro h hR
              refine z_aload 142 rfl rfl rfl ?_
              refine y_ga 145 hR rfl rfl rfl ?_
              refine z_iload 147 rfl rfl rfl ?_
              refine z_iload 149 rfl rfl rfl ?_
              rw [ht1]
              refine y_as (f := 8) 150 hR rfl rfl rfl rfl (by omega) ?_
              intro h hR
              refine z_aload 151 rfl rfl rfl ?_
              refine y_ga 154 hR rfl rfl rfl ?_
              refine z_iload 156 rfl rfl rfl ?_
              refine z_iload 158 rfl rfl rfl ?_
              refine z_jlt 161 rfl rfl (fun h9 => absurd h9 (by omega)) (fun _ => ?_)
              refine z_push 162 (nI 1) rfl rfl rfl ?_
              refine z_goto rfl ?_
              refine y_bs (f := 9) 167 hR rfl rfl rfl rfl (by omega) (by decide) ?_
              intro h hR
              refine z_iload 169 rfl rfl rfl ?_
              refine z_jlt 172 rfl rfl (fun _ => ?_) (fun h9 => absurd h9 (by decide))
              refine z_aload 175 rfl rfl rfl ?_
              refine y_ga 178 hR rfl rfl rfl ?_
              refine z_iload 179 rfl rfl rfl ?_
              refine z_dup2 180 rfl rfl ?_
              refine y_al (f := 3) 181 _ hR rfl rfl rfl rfl (by omega) (by repeat (first | with_reducible exact hT2 | with_reducible exact gA_eq _ _ _ _ | (with_reducible apply gA_ne; decide) | with_reducible apply gA_I | with_reducible apply gA_O | (with_reducible apply gA_nj; omega) | with_reducible rfl)) ?_
              refine z_push 182 (nI 1) rfl rfl rfl ?_
              refine z_bop 183 _ rfl rfl (by first | with_reducible exact zb_0 _ _ | exact zd_0 _ _) ?_
              refine y_as (f := 3) 184 hR rfl rfl rfl rfl (by omega) ?_
              intro h hR
              refine z_push 185 (nI 0) rfl rfl rfl ?_
              refine z_ireti rfl (Nat.le_refl _) (Nat.le_refl _) ?_
              have e9 : sp_entry A (nI P) (nI a) (nI b) (nI c) code = (0, A.wPgs (A.pgs.set P (0, false, pgE A.pgs P ++ [(a, b, c, t, decide (0 ≤ code.toInt))], pgH A.pgs P))) := by
                rw [sp_entry, if_pos hc9, if_pos ⟨hc42, by rw [show ptOf code = _ from by first | exact if_pos (by omega) | exact if_neg (by omega)]; exact hjp.trans hc50⟩, hp2, ha', hb', hc', hfd, show ptOf code = _ from by first | exact if_pos (by omega) | exact if_neg (by omega), ht2]
                exact if_neg (by omega)
              rw [stE_t] at hR
              rw [e9, show decide (0 ≤ code.toInt) = true from by first | exact decide_eq_true (by omega) | exact decide_eq_false (by omega)] at q
              exact q h (stA 3 P ((pgE A.pgs P).length + 1) (stE (100 * P + (pgE A.pgs P).length) (a, b, c, t, true) s)) hR (hI.addE hB hP hk0 hcl (by omega))
            · refine z_aload 87 rfl rfl rfl ?_
              refine z_push 89 (-6) rfl rfl rfl ?_
              refine z_cv1 92 rfl rfl hR.1 rfl (Nat.le_refl _) (Nat.le_refl _) ?_
              refine r_tell hR (fun h9 => absurd h9 (by decide)) (fun _ h hR => ?_)
              refine z_ireti rfl (Nat.le_refl _) (Nat.le_refl _) ?_
              have e9 : sp_entry A (nI P) (nI a) (nI b) (nI c) code = (-6, A.tell) := by
                rw [sp_entry, if_pos hc9, if_pos ⟨hc42, by rw [show ptOf code = _ from by first | exact if_pos (by omega) | exact if_neg (by omega)]; exact hjp.trans hc50⟩, hp2, ha', hb', hc', hfd]
                exact if_pos (by omega)
              rw [e9] at q
              exact q h _ hR hI.tell
          · simp only [oIb]
            have hk9 := ffd_lt hfd
            refine z_istore 70 rfl rfl rfl rfl ?_
            refine z_iload 72 rfl rfl rfl ?_
            refine z_zge 75 rfl rfl (by omega) (fun _ => ?_) (fun h9 => absurd h9 (by omega))
            refine z_iload 95 rfl rfl rfl ?_
            refine z_zlt 98 rfl rfl (by omega) (fun h9 => absurd h9 (by omega)) (fun _ => ?_)
            refine z_iload 100 rfl rfl rfl ?_
            refine z_goto rfl ?_
            refine z_istore 116 rfl rfl rfl rfl ?_
            refine z_aload 117 rfl rfl rfl ?_
            refine y_ga 120 hR rfl rfl rfl ?_
            refine z_iload 122 rfl rfl rfl ?_
            refine z_iload 123 rfl rfl rfl ?_
            refine y_as (f := 5) 124 hR rfl rfl rfl rfl (by omega) ?_
            intro h hR
            refine z_aload 125 rfl rfl rfl ?_
            refine y_ga 128 hR rfl rfl rfl ?_
            refine z_iload 130 rfl rfl rfl ?_
            refine z_iload 132 rfl rfl rfl ?_
            refine y_as (f := 6) 133 hR rfl rfl rfl rfl (by omega) ?_
            intro h hR
            refine z_aload 134 rfl rfl rfl ?_
            refine y_ga 137 hR rfl rfl rfl ?_
            refine z_iload 139 rfl rfl rfl ?_
            refine z_iload 140 rfl rfl rfl ?_
            refine y_as (f := 7) 141 hR rfl rfl rfl rfl (by omega) ?_
            intro h hR
            refine z_aload 142 rfl rfl rfl ?_
            refine y_ga 145 hR rfl rfl rfl ?_
            refine z_iload 147 rfl rfl rfl ?_
            refine z_iload 149 rfl rfl rfl ?_
            rw [ht1]
            refine y_as (f := 8) 150 hR rfl rfl rfl rfl (by omega) ?_
            intro h hR
            refine z_aload 151 rfl rfl rfl ?_
            refine y_ga 154 hR rfl rfl rfl ?_
            refine z_iload 156 rfl rfl rfl ?_
            refine z_iload 158 rfl rfl rfl ?_
            refine z_jlt 161 rfl rfl (fun h9 => absurd h9 (by omega)) (fun _ => ?_)
            refine z_push 162 (nI 1) rfl rfl rfl ?_
            refine z_goto rfl ?_
            refine y_bs (f := 9) 167 hR rfl rfl rfl rfl (by omega) (by decide) ?_
            intro h hR
            refine z_iload 169 rfl rfl rfl ?_
            refine z_zlt 172 rfl rfl (by omega) (fun h9 => absurd h9 (by omega)) (fun _ => ?_)
            refine z_push 173 (nI 1) rfl rfl rfl ?_
            refine z_ireti rfl (Nat.le_refl _) (Nat.le_refl _) ?_
            have e9 : sp_entry A (nI P) (nI a) (nI b) (nI c) code = (1, A.wPgs (A.pgs.set P (0, false, (pgE A.pgs P).set k (a, b, c, t, decide (0 ≤ code.toInt)), pgH A.pgs P))) := by
              rw [sp_entry, if_pos hc9, if_pos ⟨hc42, by rw [show ptOf code = _ from by first | exact if_pos (by omega) | exact if_neg (by omega)]; exact hjp.trans hc50⟩, hp2, ha', hb', hc', hfd, show ptOf code = _ from by first | exact if_pos (by omega) | exact if_neg (by omega), ht2]
            rw [stE_t] at hR
            rw [e9, show decide (0 ≤ code.toInt) = true from by first | exact decide_eq_true (by omega) | exact decide_eq_false (by omega)] at q
            exact q h (stE (100 * P + k) (a, b, c, t, true) s) hR (hI.setE hB hP hk0 hcl (by omega))
        · refine z_aload 54 rfl rfl rfl ?_
          refine z_push 55 (-1) rfl rfl rfl ?_
          refine z_cv1 58 rfl rfl hR.1 rfl (Nat.le_refl _) (Nat.le_refl _) ?_
          refine r_tell hR (fun h9 => absurd h9 (by decide)) (fun _ h hR => ?_)
          refine z_ireti rfl (Nat.le_refl _) (Nat.le_refl _) ?_
          have e9 : sp_entry A (nI P) st bt n code = (-1, A.tell) := by
            rw [sp_entry, if_pos hc9, if_neg ?_]
            intro h9
            first | (rw [hc42] at h9; exact absurd h9.1 (by decide)) | (have h10 := h9.2; rw [show ptOf code = _ from by first | exact if_pos (by omega) | exact if_neg (by omega), hjp, hc50] at h10; exact absurd h10 (by decide))
          rw [e9] at q
          exact q h _ hR hI.tell
  · refine z_aload 13 rfl rfl rfl ?_
    refine z_iload 15 rfl rfl rfl ?_
    refine z_cv1 18 rfl rfl hR.1 rfl (Nat.le_refl _) (Nat.le_refl _) ?_
    refine r_tell hR (fun h9 => absurd h9 (by have := fxA_n hc9; omega)) (fun _ h hR => ?_)
    refine z_ireti rfl (Nat.le_refl _) (Nat.le_refl _) ?_
    have e9 : sp_entry A p st bt n code = (fxA A.pgs p, A.tell) := if_neg hc9
    rw [e9] at q
    exact q h _ hR hI.tell
