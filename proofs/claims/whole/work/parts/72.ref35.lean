/-! the reference: next -/
/-- the byte at a place, or -1 behind the end -/
def nxV (bs : List Nat) (i : Nat) : Int32 := if i < bs.length then nI (bs.getD i 0) else -1
set_option maxRecDepth 10000 in
theorem r_next {d r : Nat} {h h0 : mH} {s : rS} {i : Nat} {bs : List Nat} {Q : mP} (hR : Rf r h0 s h) (h67 : s.1 67 = i) (h68 : s.1 68 = bs.length) (hi : i < 100000) (hb1 : bs.length ≤ 1000) (hb : ∀ j, j < bs.length → s.2.2 15 j = bs.getD j 0)  (q : ∀ h', Rf r h0 (stI 67 (i + 1) s) h' → Q (some (.int (nxV bs i))) h') : mWP (d + 1) 255 [.ref r] h Q := by
  refine z_in [some (.ref r), none] (by rfl) rfl rfl rfl ?_
  refine z_aload 1 rfl rfl rfl ?_
  refine y_gi 4 _ hR rfl rfl rfl rfl rfl (by repeat (first | with_reducible exact gI_eq _ _ _ | (with_reducible apply gI_ne; decide) | with_reducible apply gI_A | with_reducible apply gI_O | with_reducible exact h67 | with_reducible exact h68 | with_reducible exact hb i (by omega) | with_reducible rfl)) ?_
  refine z_aload 5 rfl rfl rfl ?_
  refine y_gi 8 _ hR rfl rfl rfl rfl rfl (by repeat (first | with_reducible exact gI_eq _ _ _ | (with_reducible apply gI_ne; decide) | with_reducible apply gI_A | with_reducible apply gI_O | with_reducible exact h67 | with_reducible exact h68 | with_reducible exact hb i (by omega) | with_reducible rfl)) ?_
  refine z_nge 11 rfl rfl (by omega) (by omega) (fun hc8 => ?_) (fun hc8 => ?_)
  · refine z_push 24 (-1) rfl rfl rfl ?_
    refine z_istore 25 rfl rfl rfl rfl ?_
    refine z_aload 26 rfl rfl rfl ?_
    first | refine z_dup 27 rfl rfl ?_ | refine z_dupi 27 rfl rfl ?_
    refine y_gi 30 _ hR rfl rfl rfl rfl rfl (by repeat (first | with_reducible exact gI_eq _ _ _ | (with_reducible apply gI_ne; decide) | with_reducible apply gI_A | with_reducible apply gI_O | with_reducible exact h67 | with_reducible exact h68 | with_reducible exact hb i (by omega) | with_reducible rfl)) ?_
    refine z_push 31 (nI 1) rfl rfl rfl ?_
    refine z_bop 32 _ rfl rfl (by first | with_reducible exact zb_0 _ _ | exact zd_0 _ _) ?_
    refine y_pi 35 hR rfl rfl rfl rfl rfl (mFi rfl) ?_
    intro h hR
    refine z_iload 36 rfl rfl rfl ?_
    refine z_ireti rfl (Nat.le_refl _) (Nat.le_refl _) ?_
    have e9 : nxV bs i = -1 := if_neg (by omega)
    rw [e9] at q
    exact q h hR
  · refine z_aload 12 rfl rfl rfl ?_
    refine y_ga 15 hR rfl rfl rfl ?_
    refine z_aload 16 rfl rfl rfl ?_
    refine y_gi 19 _ hR rfl rfl rfl rfl rfl (by repeat (first | with_reducible exact gI_eq _ _ _ | (with_reducible apply gI_ne; decide) | with_reducible apply gI_A | with_reducible apply gI_O | with_reducible exact h67 | with_reducible exact h68 | with_reducible exact hb i (by omega) | with_reducible rfl)) ?_
    refine y_al (f := 15) 20 _ hR rfl rfl rfl rfl (by omega) (by repeat (first | with_reducible exact h67 | with_reducible exact h68 | with_reducible exact hb i (by omega) | with_reducible exact gA_eq _ _ _ _ | (with_reducible apply gA_ne; decide) | with_reducible apply gA_I | with_reducible apply gA_O | (with_reducible apply gA_nj; omega) | with_reducible rfl)) ?_
    refine z_goto rfl ?_
    refine z_istore 25 rfl rfl rfl rfl ?_
    refine z_aload 26 rfl rfl rfl ?_
    first | refine z_dup 27 rfl rfl ?_ | refine z_dupi 27 rfl rfl ?_
    refine y_gi 30 _ hR rfl rfl rfl rfl rfl (by repeat (first | with_reducible exact gI_eq _ _ _ | (with_reducible apply gI_ne; decide) | with_reducible apply gI_A | with_reducible apply gI_O | with_reducible exact h67 | with_reducible exact h68 | with_reducible exact hb i (by omega) | with_reducible rfl)) ?_
    refine z_push 31 (nI 1) rfl rfl rfl ?_
    refine z_bop 32 _ rfl rfl (by first | with_reducible exact zb_0 _ _ | exact zd_0 _ _) ?_
    refine y_pi 35 hR rfl rfl rfl rfl rfl (mFi rfl) ?_
    intro h hR
    refine z_iload 36 rfl rfl rfl ?_
    refine z_ireti rfl (Nat.le_refl _) (Nat.le_refl _) ?_
    have e9 : nxV bs i = nI (bs.getD i 0) := if_pos (by omega)
    rw [e9] at q
    exact q h hR
