/-! the reference: send, entries and shifts -/
def enB (E : List En) (k : Nat) : List Nat := [enS E k] ++ [enN E k] ++ btD (enT E k) (enN E k) ++ btD (enP E k) 3 ++ [b2 (enF E k)]
def shB (H : List Sh) (k : Nat) : List Nat := [shS H k] ++ [shV H k] ++ [shG H k] ++ [b2 (shK H k)]
def enBs (E : List En) : Nat → List Nat
  | 0 => []
  | k + 1 => enBs E k ++ enB E k
def shBs (H : List Sh) : Nat → List Nat
  | 0 => []
  | k + 1 => shBs H k ++ shB H k
theorem shB_len (H : List Sh) (k : Nat) : (shB H k).length = 4 := rfl
theorem shBs_len (H : List Sh) : ∀ k, (shBs H k).length = 4 * k
  | 0 => rfl
  | k + 1 => by rw [shBs, List.length_append, shBs_len H k, shB_len]; omega
set_option maxRecDepth 10000 in
theorem r_sendH {d r : Nat} {h0 : mH} {Q : mP} {p : Nat} {E : List En} {H : List Sh} {l0 : List Nat} {o3 : Option Value} (hW : TbW E H) (hl0 : l0.length ≤ 2000) : ∀ m i s h, H.length < i + m → i ≤ H.length → Rf r h0 s h → TbR s p E H → OutAt s 45 (l0 ++ shBs H i) → (∀ h' s', Rf r h0 s' h' → On [37, 45] s s' → OutAt s' 45 (l0 ++ shBs H H.length) → mZ (d + 1) tk_254 0 0 Q 286 [some (.ref r), some (.int (nI p)), some (.int (nI (10 * p + H.length))), o3] [] h' 0 0) → mZ (d + 1) tk_254 0 0 Q 217 [some (.ref r), some (.int (nI p)), some (.int (nI (10 * p + i))), o3] [] h 0 0 := by
  intro m
  induction m with
  | zero => intro i s h h1 h2; omega
  | succ m ih =>
    intro i s h h1 h2 hR hT ho q
    have hp := hT.1
    have hl10 := hW.2.1
    have f4 : s.2.2 4 p = H.length := hT.2.2.1
    have hll : (l0 ++ shBs H i).length = l0.length + 4 * i := by rw [List.length_append, shBs_len]
    refine z_iload 218 rfl rfl rfl ?_
    refine z_push 220 (nI 10) rfl rfl rfl ?_
    refine z_iload 221 rfl rfl rfl ?_
    refine z_bop 222 _ rfl rfl (by first | with_reducible exact zb_2 _ _ | exact zd_2 _ _) ?_
    refine z_aload 223 rfl rfl rfl ?_
    refine y_ga 226 hR rfl rfl rfl ?_
    refine z_iload 227 rfl rfl rfl ?_
    refine y_al (f := 4) 228 _ hR rfl rfl rfl rfl (by omega) (by repeat (first | with_reducible exact f4 | with_reducible exact t1 | with_reducible exact t2 | with_reducible exact t3 | with_reducible exact t4 | with_reducible exact gA_eq _ _ _ _ | (with_reducible apply gA_ne; decide) | with_reducible apply gA_I | with_reducible apply gA_O | (with_reducible apply gA_nj; omega) | with_reducible rfl)) ?_
    refine z_bop 229 _ rfl rfl (by first | with_reducible exact zb_0 _ _ | exact zd_0 _ _) ?_
    refine z_nge 232 rfl rfl (by omega) (by omega) (fun hc229 => ?_) (fun hc229 => ?_)
    · obtain rfl : i = H.length := by omega
      exact q h s hR On.rfl ho
    · obtain ⟨t1, t2, t3, t4⟩ := hT.2.2.2.2 i (by omega)
      refine z_aload 233 rfl rfl rfl ?_
      refine z_aload 234 rfl rfl rfl ?_
      refine y_ga 237 hR rfl rfl rfl ?_
      refine z_iload 238 rfl rfl rfl ?_
      refine y_al (f := 10) 239 _ hR rfl rfl rfl rfl (by omega) (by repeat (first | with_reducible exact f4 | with_reducible exact t1 | with_reducible exact t2 | with_reducible exact t3 | with_reducible exact t4 | with_reducible exact gA_eq _ _ _ _ | (with_reducible apply gA_ne; decide) | with_reducible apply gA_I | with_reducible apply gA_O | (with_reducible apply gA_nj; omega) | with_reducible rfl)) ?_
      refine z_cv1 242 rfl rfl hR.1 rfl (Nat.le_refl _) (Nat.le_refl _) ?_
      refine r_put1 hR ho rfl (by omega) (fun h s1 hR hO1 ho1 => ?_)
      obtain ⟨t1, t2, t3, t4⟩ := (hO1.tb (by decide) hT).2.2.2.2 i (by omega)
      refine z_aload 243 rfl rfl rfl ?_
      refine z_aload 244 rfl rfl rfl ?_
      refine y_ga 247 hR rfl rfl rfl ?_
      refine z_iload 248 rfl rfl rfl ?_
      refine y_al (f := 11) 249 _ hR rfl rfl rfl rfl (by omega) (by repeat (first | with_reducible exact f4 | with_reducible exact t1 | with_reducible exact t2 | with_reducible exact t3 | with_reducible exact t4 | with_reducible exact gA_eq _ _ _ _ | (with_reducible apply gA_ne; decide) | with_reducible apply gA_I | with_reducible apply gA_O | (with_reducible apply gA_nj; omega) | with_reducible rfl)) ?_
      refine z_cv1 252 rfl rfl hR.1 rfl (Nat.le_refl _) (Nat.le_refl _) ?_
      refine r_put1 hR ho1 rfl (by rw [List.length_append, List.length_singleton]; omega) (fun h s2 hR hO2 ho2 => ?_)
      obtain ⟨t1, t2, t3, t4⟩ := ((hO1.trans hO2).tb (by decide) hT).2.2.2.2 i (by omega)
      refine z_aload 253 rfl rfl rfl ?_
      refine z_aload 254 rfl rfl rfl ?_
      refine y_ga 257 hR rfl rfl rfl ?_
      refine z_iload 258 rfl rfl rfl ?_
      refine y_al (f := 12) 259 _ hR rfl rfl rfl rfl (by omega) (by repeat (first | with_reducible exact f4 | with_reducible exact t1 | with_reducible exact t2 | with_reducible exact t3 | with_reducible exact t4 | with_reducible exact gA_eq _ _ _ _ | (with_reducible apply gA_ne; decide) | with_reducible apply gA_I | with_reducible apply gA_O | (with_reducible apply gA_nj; omega) | with_reducible rfl)) ?_
      refine z_cv1 262 rfl rfl hR.1 rfl (Nat.le_refl _) (Nat.le_refl _) ?_
      refine r_put1 hR ho2 rfl (by rw [List.length_append, List.length_append, List.length_singleton, List.length_singleton]; omega) (fun h s3 hR hO3 ho3 => ?_)
      obtain ⟨t1, t2, t3, t4⟩ := (((hO1.trans hO2).trans hO3).tb (by decide) hT).2.2.2.2 i (by omega)
      refine z_aload 263 rfl rfl rfl ?_
      refine z_aload 264 rfl rfl rfl ?_
      refine y_ga 267 hR rfl rfl rfl ?_
      refine z_iload 268 rfl rfl rfl ?_
      refine y_bb (f := 13) 269 _ hR rfl rfl rfl rfl (by omega) (by repeat (first | with_reducible exact f4 | with_reducible exact t1 | with_reducible exact t2 | with_reducible exact t3 | with_reducible exact t4 | with_reducible exact gA_eq _ _ _ _ | (with_reducible apply gA_ne; decide) | with_reducible apply gA_I | with_reducible apply gA_O | (with_reducible apply gA_nj; omega) | with_reducible rfl)) ?_
      first | refine z_beq 272 rfl rfl (fun hc269 => ?_) (fun hc269 => ?_)
      · refine z_push 277 (nI 0) rfl rfl rfl ?_
        refine z_cv1 280 rfl rfl hR.1 rfl (Nat.le_refl _) (Nat.le_refl _) ?_
        refine r_put1 hR ho3 rfl (by rw [List.length_append, List.length_append, List.length_append, List.length_singleton, List.length_singleton, List.length_singleton]; omega) (fun h s4 hR hO4 ho4 => ?_)
        refine z_iinc 283 _ rfl rfl rfl rfl (by first | with_reducible exact zi_1 _ | rfl) ?_
        refine z_goto rfl ?_
        have hO5 := ((hO1.trans hO2).trans hO3).trans hO4
        refine ih (i + 1) s4 h (by omega) (by omega) hR (hO5.tb (by decide) hT) ?_ (fun h' s5 hR5 hO6 ho5 => q h' s5 hR5 (hO5.trans hO6) ho5)
        simp only [shBs, shB, List.append_assoc, hc269, b2] at ho4 ⊢
        exact ho4
      · refine z_push 273 (nI 1) rfl rfl rfl ?_
        refine z_goto rfl ?_
        refine z_cv1 280 rfl rfl hR.1 rfl (Nat.le_refl _) (Nat.le_refl _) ?_
        refine r_put1 hR ho3 rfl (by rw [List.length_append, List.length_append, List.length_append, List.length_singleton, List.length_singleton, List.length_singleton]; omega) (fun h s4 hR hO4 ho4 => ?_)
        refine z_iinc 283 _ rfl rfl rfl rfl (by first | with_reducible exact zi_1 _ | rfl) ?_
        refine z_goto rfl ?_
        have hO5 := ((hO1.trans hO2).trans hO3).trans hO4
        refine ih (i + 1) s4 h (by omega) (by omega) hR (hO5.tb (by decide) hT) ?_ (fun h' s5 hR5 hO6 ho5 => q h' s5 hR5 (hO5.trans hO6) ho5)
        simp only [shBs, shB, List.append_assoc, hc269, b2] at ho4 ⊢
        exact ho4
