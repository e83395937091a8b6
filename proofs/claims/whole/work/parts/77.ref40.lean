/-! the reference: send, entries -/
theorem enB_len {E : List En} {H : List Sh} (hW : TbW E H) {k : Nat} (hk : k < E.length) : (enB E k).length ≤ 9 := by
  have := (hW.2.2.1 k hk).2.2.1
  rw [enB]
  simp only [List.length_append, List.length_singleton, btD_len]
  omega
theorem enBs_len {E : List En} {H : List Sh} (hW : TbW E H) : ∀ k, k ≤ E.length → (enBs E k).length ≤ 9 * k
  | 0, _ => Nat.le_refl _
  | k + 1, h => by
    have := enBs_len hW k (by omega)
    have h2 := enB_len hW (k := k) (by omega)
    rw [enBs, List.length_append]; omega
theorem enT_b {E : List En} {H : List Sh} (hW : TbW E H) {k : Nat} (hk : k < E.length) : enT E k < 2 ^ 32 := by
  obtain ⟨_, _, a, b, _⟩ := hW.2.2.1 k hk
  have : 256 ^ enN E k ≤ 256 ^ 3 := Nat.pow_le_pow_right (by decide) a
  omega
theorem enP_b {E : List En} {H : List Sh} (hW : TbW E H) {k : Nat} (hk : k < E.length) : enP E k < 2 ^ 32 := by
  have := nPt_lt (hW.2.2.1 k hk).2.2.2.2
  omega
set_option maxRecDepth 10000 in
theorem r_sendE {d r : Nat} {h0 : mH} {Q : mP} {p : Nat} {E : List En} {H : List Sh} {l0 : List Nat} (hW : TbW E H) (hl0 : l0.length ≤ 2000) : ∀ m i s h o3, E.length < i + m → i ≤ E.length → Rf r h0 s h → TbR s p E H → OutAt s 45 (l0 ++ enBs E i) → (∀ h' s' o3, Rf r h0 s' h' → On [37, 45] s s' → OutAt s' 45 (l0 ++ enBs E E.length) → mZ (d + 1) tk_254 0 0 Q 202 [some (.ref r), some (.int (nI p)), some (.int (nI (100 * p + E.length))), o3] [] h' 0 0) → mZ (d + 1) tk_254 0 0 Q 74 [some (.ref r), some (.int (nI p)), some (.int (nI (100 * p + i))), o3] [] h 0 0 := by
  intro m
  induction m with
  | zero => intro i s h o3 h1 h2; omega
  | succ m ih =>
    intro i s h o3 h1 h2 hR hT ho q
    have hp := hT.1
    have hl100 := hW.1
    have f3 : s.2.2 3 p = E.length := hT.2.1
    have hll := enBs_len hW i h2
    have hl9 : (l0 ++ enBs E i).length ≤ 2900 := by rw [List.length_append]; omega
    refine z_iload 75 rfl rfl rfl ?_
    refine z_push 77 (nI 100) rfl rfl rfl ?_
    refine z_iload 78 rfl rfl rfl ?_
    refine z_bop 79 _ rfl rfl (by first | with_reducible exact zb_2 _ _ | exact zd_2 _ _) ?_
    refine z_aload 80 rfl rfl rfl ?_
    refine y_ga 83 hR rfl rfl rfl ?_
    refine z_iload 84 rfl rfl rfl ?_
    refine y_al (f := 3) 85 _ hR rfl rfl rfl rfl (by omega) (by repeat (first | with_reducible exact f3 | with_reducible exact t1 | with_reducible exact t2 | with_reducible exact t5 | with_reducible exact gA_eq _ _ _ _ | (with_reducible apply gA_ne; decide) | with_reducible apply gA_I | with_reducible apply gA_O | (with_reducible apply gA_nj; omega) | with_reducible rfl)) ?_
    refine z_bop 86 _ rfl rfl (by first | with_reducible exact zb_0 _ _ | exact zd_0 _ _) ?_
    refine z_nge 89 rfl rfl (by omega) (by omega) (fun hc86 => ?_) (fun hc86 => ?_)
    · obtain rfl : i = E.length := by omega
      exact q h s o3 hR On.rfl ho
    · obtain ⟨t1, t2, t3, t4, t5⟩ := hT.2.2.2.1 i (by omega)
      obtain ⟨w1, w2, w3, w4, w5⟩ := hW.2.2.1 i (by omega)
      have hvt := enT_b hW (k := i) (by omega)
      have hvp := enP_b hW (k := i) (by omega)
      refine z_aload 90 rfl rfl rfl ?_
      refine z_aload 91 rfl rfl rfl ?_
      refine y_ga 94 hR rfl rfl rfl ?_
      refine z_iload 95 rfl rfl rfl ?_
      refine y_al (f := 5) 96 _ hR rfl rfl rfl rfl (by omega) (by repeat (first | with_reducible exact f3 | with_reducible exact t1 | with_reducible exact t2 | with_reducible exact t5 | with_reducible exact gA_eq _ _ _ _ | (with_reducible apply gA_ne; decide) | with_reducible apply gA_I | with_reducible apply gA_O | (with_reducible apply gA_nj; omega) | with_reducible rfl)) ?_
      refine z_cv1 99 rfl rfl hR.1 rfl (Nat.le_refl _) (Nat.le_refl _) ?_
      refine r_put1 hR ho rfl (by omega) (fun h s1 hR hO1 ho1 => ?_)
      obtain ⟨t1, t2, t3, t4, t5⟩ := (hO1.tb (by decide) hT).2.2.2.1 i (by omega)
      refine z_aload 100 rfl rfl rfl ?_
      refine z_aload 101 rfl rfl rfl ?_
      refine y_ga 104 hR rfl rfl rfl ?_
      refine z_iload 105 rfl rfl rfl ?_
      refine y_al (f := 6) 106 _ hR rfl rfl rfl rfl (by omega) (by repeat (first | with_reducible exact f3 | with_reducible exact t1 | with_reducible exact t2 | with_reducible exact t5 | with_reducible exact gA_eq _ _ _ _ | (with_reducible apply gA_ne; decide) | with_reducible apply gA_I | with_reducible apply gA_O | (with_reducible apply gA_nj; omega) | with_reducible rfl)) ?_
      refine z_cv1 109 rfl rfl hR.1 rfl (Nat.le_refl _) (Nat.le_refl _) ?_
      refine r_put1 hR ho1 rfl (by rw [List.length_append, List.length_singleton]; omega) (fun h s2 hR hO2 ho2 => ?_)
      obtain ⟨t1, t2, t3, t4, t5⟩ := ((hO1.trans hO2).tb (by decide) hT).2.2.2.1 i (by omega)
      refine z_aload 110 rfl rfl rfl ?_
      refine y_ga 113 hR rfl rfl rfl ?_
      refine z_iload 114 rfl rfl rfl ?_
      refine y_al (f := 6) 115 _ hR rfl rfl rfl rfl (by omega) (by repeat (first | with_reducible exact f3 | with_reducible exact t1 | with_reducible exact t2 | with_reducible exact t5 | with_reducible exact gA_eq _ _ _ _ | (with_reducible apply gA_ne; decide) | with_reducible apply gA_I | with_reducible apply gA_O | (with_reducible apply gA_nj; omega) | with_reducible rfl)) ?_
      refine z_push 116 (nI 1) rfl rfl rfl ?_
      refine z_bop 117 _ rfl rfl (by first | with_reducible exact zb_1 (by omega) | exact zd_1 _ _) ?_
      refine z_istore 118 rfl rfl rfl rfl ?_
      rw [show nI (enN E i - 1) = dnI (enN E i) from by cases hh : enN E i with | zero => exact absurd hh (by omega) | succ N => rfl]
      refine r_sendT (by omega) hvt (enN E i) _ s2 h (by omega) (by simp only [List.length_append, List.length_singleton, btD_len] at hl9 ⊢; omega) hR ho2 t3 (fun h s3 hR hO3 ho3 => ?_)
      obtain ⟨t1, t2, t3, t4, t5⟩ := (((hO1.trans hO2).trans hO3).tb (by decide) hT).2.2.2.1 i (by omega)
      refine z_push 148 (nI 2) rfl rfl rfl ?_
      refine z_istore 149 rfl rfl rfl rfl ?_
      refine r_sendP (by omega) hvp 3 _ s3 h (by omega) (by simp only [List.length_append, List.length_singleton, btD_len] at hl9 ⊢; omega) hR ho3 t4 (fun h s4 hR hO4 ho4 => ?_)
      obtain ⟨t1, t2, t3, t4, t5⟩ := ((((hO1.trans hO2).trans hO3).trans hO4).tb (by decide) hT).2.2.2.1 i (by omega)
      refine z_aload 179 rfl rfl rfl ?_
      refine z_aload 180 rfl rfl rfl ?_
      refine y_ga 183 hR rfl rfl rfl ?_
      refine z_iload 184 rfl rfl rfl ?_
      refine y_bb (f := 9) 185 _ hR rfl rfl rfl rfl (by omega) (by repeat (first | with_reducible exact t5 | with_reducible exact gA_eq _ _ _ _ | (with_reducible apply gA_ne; decide) | with_reducible apply gA_I | with_reducible apply gA_O | (with_reducible apply gA_nj; omega) | with_reducible rfl)) ?_
      first | refine z_beq 188 rfl rfl (fun hc185 => ?_) (fun hc185 => ?_)
      · refine z_push 193 (nI 0) rfl rfl rfl ?_
        refine z_cv1 196 rfl rfl hR.1 rfl (Nat.le_refl _) (Nat.le_refl _) ?_
        refine r_put1 hR ho4 rfl (by simp only [List.length_append, List.length_singleton, btD_len] at hl9 ⊢; omega) (fun h s5 hR hO5 ho5 => ?_)
        refine z_iinc 199 _ rfl rfl rfl rfl (by first | with_reducible exact zi_1 _ | rfl) ?_
        refine z_goto rfl ?_
        have hO6 := (((hO1.trans hO2).trans hO3).trans hO4).trans hO5
        refine ih (i + 1) s5 h _ (by omega) (by omega) hR (hO6.tb (by decide) hT) ?_ (fun h' s6 o3 hR6 hO7 ho6 => q h' s6 o3 hR6 (hO6.trans hO7) ho6)
        simp only [enBs, enB, List.append_assoc, hc185, b2] at ho5 ⊢
        exact ho5
      · refine z_push 189 (nI 1) rfl rfl rfl ?_
        refine z_goto rfl ?_
        refine z_cv1 196 rfl rfl hR.1 rfl (Nat.le_refl _) (Nat.le_refl _) ?_
        refine r_put1 hR ho4 rfl (by simp only [List.length_append, List.length_singleton, btD_len] at hl9 ⊢; omega) (fun h s5 hR hO5 ho5 => ?_)
        refine z_iinc 199 _ rfl rfl rfl rfl (by first | with_reducible exact zi_1 _ | rfl) ?_
        refine z_goto rfl ?_
        have hO6 := (((hO1.trans hO2).trans hO3).trans hO4).trans hO5
        refine ih (i + 1) s5 h _ (by omega) (by omega) hR (hO6.tb (by decide) hT) ?_ (fun h' s6 o3 hR6 hO7 ho6 => q h' s6 o3 hR6 (hO6.trans hO7) ho6)
        simp only [enBs, enB, List.append_assoc, hc185, b2] at ho5 ⊢
        exact ho5
