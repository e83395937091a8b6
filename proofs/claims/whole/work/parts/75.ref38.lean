/-! the reference: send, the bytes of a number -/
def btD (v : Nat) : Nat → List Nat
  | 0 => []
  | m + 1 => (v / 2 ^ (8 * m) % 256) :: btD v m
theorem btD_len (v : Nat) : ∀ m, (btD v m).length = m
  | 0 => rfl
  | m + 1 => by rw [btD, List.length_cons, btD_len v m]
set_option maxRecDepth 10000 in
theorem r_sendT {d r : Nat} {h0 : mH} {Q : mP} {p K v : Nat} (hK : K < 1100) (hv : v < 2 ^ 32) : ∀ m l s h, m ≤ 4 → l.length + m ≤ 6000 → Rf r h0 s h → OutAt s 45 l → s.2.2 7 K = v → (∀ h' s', Rf r h0 s' h' → On [37, 45] s s' → OutAt s' 45 (l ++ btD v m) → mZ (d + 1) tk_254 0 0 Q 147 [some (.ref r), some (.int (nI p)), some (.int (nI K)), some (.int (-1))] [] h' 0 0) → mZ (d + 1) tk_254 0 0 Q 118 [some (.ref r), some (.int (nI p)), some (.int (nI K)), some (.int (dnI m))] [] h 0 0 := by
  intro m
  induction m with
  | zero =>
    intro l s h h1 h2 hR ho hs q
    rw [show dnI 0 = -1 from rfl]
    rw [btD, List.append_nil] at q
    refine z_iload 119 rfl rfl rfl ?_
    refine z_jlt 122 rfl rfl (fun _ => ?_) (fun h9 => absurd h9 (by decide))
    exact q h s hR On.rfl ho
  | succ m ih =>
    intro l s h h1 h2 hR ho hs q
    rw [show dnI (m + 1) = nI m from rfl]
    refine z_iload 119 rfl rfl rfl ?_
    refine z_zlt 122 rfl rfl (by omega) (fun h9 => absurd h9 (by omega)) (fun _ => ?_)
    refine z_aload 123 rfl rfl rfl ?_
    refine z_aload 124 rfl rfl rfl ?_
    refine y_ga 127 hR rfl rfl rfl ?_
    refine z_iload 128 rfl rfl rfl ?_
    refine y_al (f := 7) 129 _ hR rfl rfl rfl rfl (by omega) (by repeat (first | with_reducible exact hs | with_reducible exact gA_eq _ _ _ _ | (with_reducible apply gA_ne; decide) | with_reducible apply gA_I | with_reducible apply gA_O | (with_reducible apply gA_nj; omega) | with_reducible rfl)) ?_
    refine z_push 131 (nI 8) rfl rfl rfl ?_
    refine z_iload 132 rfl rfl rfl ?_
    refine z_bop 133 _ rfl rfl (by first | with_reducible exact zb_2 _ _ | exact zd_2 _ _) ?_
    refine z_bop 134 _ rfl rfl rfl ?_
    refine z_push 137 (nI 255) rfl rfl rfl ?_
    refine z_bop 138 _ rfl rfl rfl ?_
    refine z_cv1 141 rfl rfl hR.1 rfl (Nat.le_refl _) (Nat.le_refl _) ?_
    rw [shb hv (by omega)]
    refine r_put1 hR ho rfl (by omega) (fun h s1 hR hO ho1 => ?_)
    refine z_iinc 144 _ rfl rfl rfl rfl (show nI m + Int32.ofInt (-1) = dnI m from by cases m with | zero => rfl | succ m => exact pk_m1 m) ?_
    refine z_goto rfl ?_
    refine ih (l ++ [v / 2 ^ (8 * m) % 256]) s1 h (by omega) (by rw [List.length_append, List.length_singleton]; omega) hR ho1 (by rw [(hO.1 7 (by decide)).2]; exact hs) (fun h' s2 hR2 hO2 ho2 => q h' s2 hR2 (hO.trans hO2) ?_)
    rw [List.append_assoc] at ho2
    exact ho2
set_option maxRecDepth 10000 in
theorem r_sendP {d r : Nat} {h0 : mH} {Q : mP} {p K v : Nat} (hK : K < 1100) (hv : v < 2 ^ 32) : ∀ m l s h, m ≤ 4 → l.length + m ≤ 6000 → Rf r h0 s h → OutAt s 45 l → s.2.2 8 K = v → (∀ h' s', Rf r h0 s' h' → On [37, 45] s s' → OutAt s' 45 (l ++ btD v m) → mZ (d + 1) tk_254 0 0 Q 178 [some (.ref r), some (.int (nI p)), some (.int (nI K)), some (.int (-1))] [] h' 0 0) → mZ (d + 1) tk_254 0 0 Q 149 [some (.ref r), some (.int (nI p)), some (.int (nI K)), some (.int (dnI m))] [] h 0 0 := by
  intro m
  induction m with
  | zero =>
    intro l s h h1 h2 hR ho hs q
    rw [show dnI 0 = -1 from rfl]
    rw [btD, List.append_nil] at q
    refine z_iload 150 rfl rfl rfl ?_
    refine z_jlt 153 rfl rfl (fun _ => ?_) (fun h9 => absurd h9 (by decide))
    exact q h s hR On.rfl ho
  | succ m ih =>
    intro l s h h1 h2 hR ho hs q
    rw [show dnI (m + 1) = nI m from rfl]
    refine z_iload 150 rfl rfl rfl ?_
    refine z_zlt 153 rfl rfl (by omega) (fun h9 => absurd h9 (by omega)) (fun _ => ?_)
    refine z_aload 154 rfl rfl rfl ?_
    refine z_aload 155 rfl rfl rfl ?_
    refine y_ga 158 hR rfl rfl rfl ?_
    refine z_iload 159 rfl rfl rfl ?_
    refine y_al (f := 8) 160 _ hR rfl rfl rfl rfl (by omega) (by repeat (first | with_reducible exact hs | with_reducible exact gA_eq _ _ _ _ | (with_reducible apply gA_ne; decide) | with_reducible apply gA_I | with_reducible apply gA_O | (with_reducible apply gA_nj; omega) | with_reducible rfl)) ?_
    refine z_push 162 (nI 8) rfl rfl rfl ?_
    refine z_iload 163 rfl rfl rfl ?_
    refine z_bop 164 _ rfl rfl (by first | with_reducible exact zb_2 _ _ | exact zd_2 _ _) ?_
    refine z_bop 165 _ rfl rfl rfl ?_
    refine z_push 168 (nI 255) rfl rfl rfl ?_
    refine z_bop 169 _ rfl rfl rfl ?_
    refine z_cv1 172 rfl rfl hR.1 rfl (Nat.le_refl _) (Nat.le_refl _) ?_
    rw [shb hv (by omega)]
    refine r_put1 hR ho rfl (by omega) (fun h s1 hR hO ho1 => ?_)
    refine z_iinc 175 _ rfl rfl rfl rfl (show nI m + Int32.ofInt (-1) = dnI m from by cases m with | zero => rfl | succ m => exact pk_m1 m) ?_
    refine z_goto rfl ?_
    refine ih (l ++ [v / 2 ^ (8 * m) % 256]) s1 h (by omega) (by rw [List.length_append, List.length_singleton]; omega) hR ho1 (by rw [(hO.1 8 (by decide)).2]; exact hs) (fun h' s2 hR2 hO2 ho2 => q h' s2 hR2 (hO.trans hO2) ?_)
    rw [List.append_assoc] at ho2
    exact ho2
