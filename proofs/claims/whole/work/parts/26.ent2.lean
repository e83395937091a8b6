/-! Entries, Shifts: taking away, copying, counting -/
/-- the values behind k come one place ahead, up to place i -/
def rmv (S : Nat → Int32) (k i : Nat) : Nat → Int32 := fun j => if k ≤ j ∧ j < i then S (j + 1) else S j
theorem rmv_0 (S : Nat → Int32) (k : Nat) : rmv S k k = S := by
  funext j
  simp only [rmv]
  rw [if_neg (by omega)]
theorem rmv_at (S : Nat → Int32) (k i : Nat) : rmv S k i (i + 1) = S (i + 1) := by
  simp only [rmv]
  rw [if_neg (by omega)]
theorem rmv_s (S : Nat → Int32) {k i : Nat} (h : k ≤ i) : upd (rmv S k i) i (S (i + 1)) = rmv S k (i + 1) := by
  funext j
  simp only [rmv, upd]
  by_cases hj : j = i
  · subst hj
    rw [if_pos rfl, if_pos (by omega)]
  · rw [if_neg hj]
    by_cases h2 : k ≤ j ∧ j < i
    · rw [if_pos h2, if_pos (by omega)]
    · rw [if_neg h2, if_neg (by omega)]
/-- the first i values of S2, behind them S -/
def cpf (S2 S : Nat → Int32) (i : Nat) : Nat → Int32 := fun j => if j < i then S2 j else S j
theorem cpf_0 (S2 S : Nat → Int32) : cpf S2 S 0 = S := by
  funext j
  simp [cpf]
theorem cpf_s (S2 S : Nat → Int32) (i : Nat) : upd (cpf S2 S i) i (S2 i) = cpf S2 S (i + 1) := by
  funext j
  simp only [cpf, upd]
  by_cases hj : j = i
  · subst hj
    rw [if_pos rfl, if_pos (by omega)]
  · rw [if_neg hj]
    by_cases h2 : j < i
    · rw [if_pos h2, if_pos (by omega)]
    · rw [if_neg h2, if_neg (by omega)]
def cnt9 (p : Nat → Bool) : Nat → Nat
  | 0 => 0
  | n + 1 => cnt9 p n + (if p n = true then 1 else 0)
theorem cnt9_le (p : Nat → Bool) (n : Nat) : cnt9 p n ≤ n := by
  induction n with
  | zero => exact Nat.le_refl 0
  | succ n ih => unfold cnt9; split <;> omega
theorem EntAt.fr {h h' : mH} {e n c lo hi : Nat} {S T N P F : Nat → Int32} (hE : EntAt h e n S T N P F c) (hf : Fr lo hi h h') (hd : e + 6 ≤ lo ∨ hi ≤ e) : EntAt h' e n S T N P F c := by
  obtain ⟨E0, E1, E2, E3, E4, E5⟩ := hE
  exact ⟨by rw [hf.2 _ (by omega)]; exact E0, by rw [hf.2 _ (by omega)]; exact E1, by rw [hf.2 _ (by omega)]; exact E2, by rw [hf.2 _ (by omega)]; exact E3, by rw [hf.2 _ (by omega)]; exact E4, by rw [hf.2 _ (by omega)]; exact E5⟩
theorem ShAt.fr {h h' : mH} {e n c lo hi : Nat} {S V G K : Nat → Int32} (hE : ShAt h e n S V G K c) (hf : Fr lo hi h h') (hd : e + 5 ≤ lo ∨ hi ≤ e) : ShAt h' e n S V G K c := by
  obtain ⟨E0, E1, E2, E3, E4⟩ := hE
  exact ⟨by rw [hf.2 _ (by omega)]; exact E0, by rw [hf.2 _ (by omega)]; exact E1, by rw [hf.2 _ (by omega)]; exact E2, by rw [hf.2 _ (by omega)]; exact E3, by rw [hf.2 _ (by omega)]; exact E4⟩
set_option maxRecDepth 10000 in
theorem c_Ent_removeAt {d : Nat} {h : mH} {e n c k : Nat} {S T N P F : Nat → Int32} {Q : mP} (hE : EntAt h e n S T N P F c) (hn : n < 2 ^ 31) (hk : k < c) (hc : c ≤ n) (hF : ∀ j, F j = 0 ∨ F j = 1) (q : ∀ h', EntAt h' e n (rmv S k (c - 1)) (rmv T k (c - 1)) (rmv N k (c - 1)) (rmv P k (c - 1)) (rmv F k (c - 1)) (c - 1) → Fr e (e + 6) h h' → Q none h') : mWP (d + 2) 3 [.ref e, .int (nI k)] h Q := by
  have loop : ∀ m i, i + m = c - 1 → k ≤ i → ∀ h1, EntAt h1 e n (rmv S k i) (rmv T k i) (rmv N k i) (rmv P k i) (rmv F k i) c → Fr e (e + 6) h h1 → mZ (d + 1) tk_3 0 0 Q 15 [some (.ref e), some (.int (nI k)), some (.int (nI i))] [] h1 0 0 := by
    intro m
    induction m with
    | zero =>
      intro i hi hki h1 hE1 hf1
      obtain rfl : i = c - 1 := by omega
      obtain ⟨E0, E1, E2, E3, E4, E5⟩ := hE1
      refine z_iload 16 rfl rfl rfl ?_
      refine z_push 17 (nI 1) rfl rfl rfl ?_
      refine z_bop 18 _ rfl rfl (zb_0 _ _) ?_
      refine z_aload 19 rfl rfl rfl ?_
      refine z_get 22 rfl rfl E0 rfl ?_
      refine z_nge 25 rfl rfl (by omega) (by omega) (fun _ => ?_) (fun h9 => absurd h9 (by omega))
      refine z_aload 77 rfl rfl rfl ?_
      first | refine z_dup 78 rfl rfl ?_ | refine z_dupi 78 rfl rfl ?_
      refine z_get 81 rfl rfl E0 rfl ?_
      refine z_push 82 (nI 1) rfl rfl rfl ?_
      refine z_bop 83 _ rfl rfl (by first | with_reducible exact zb_1 (by omega) | exact zd_1 _ _) ?_
      refine z_put 86 rfl rfl E0 rfl (mFi rfl) ?_
      refine z_vret rfl (Nat.le_refl _) (Nat.le_refl _) ?_
      refine q _ ⟨mg_eq _ _ _, mg_ne (by omega) E1, mg_ne (by omega) E2, mg_ne (by omega) E3, mg_ne (by omega) E4, mg_ne (by omega) E5⟩ (Fr.set hf1 (by omega) (by omega))
    | succ m ih =>
      intro i hi hki h1 hE1 hf1
      obtain ⟨E0, E1, E2, E3, E4, E5⟩ := id hE1
      refine z_iload 16 rfl rfl rfl ?_
      refine z_push 17 (nI 1) rfl rfl rfl ?_
      refine z_bop 18 _ rfl rfl (by first | with_reducible exact zb_0 _ _ | exact zd_0 _ _) ?_
      refine z_aload 19 rfl rfl rfl ?_
      refine z_get 22 rfl rfl (by repeat (first | exact E0 | exact E1 | exact E2 | exact E3 | exact E4 | exact E5 | exact mg_eq _ _ _ | refine mg_ne (by omega) ?_)) rfl ?_
      first | refine z_nge 25 rfl rfl (by omega) (by omega) (fun hc22 => ?_) (fun hc22 => ?_) | refine z_kge 25 rfl rfl (by omega) (fun hc22 => ?_) (fun hc22 => ?_) | refine z_hge 25 rfl rfl (by omega) (fun hc22 => ?_) (fun hc22 => ?_) | refine z_tge 25 rfl rfl (fun hc22 => ?_) (fun hc22 => ?_)
      · refine z_aload 77 rfl rfl rfl ?_
        first | refine z_dup 78 rfl rfl ?_ | refine z_dupi 78 rfl rfl ?_
        refine z_get 81 rfl rfl (by repeat (first | exact E0 | exact E1 | exact E2 | exact E3 | exact E4 | exact E5 | exact mg_eq _ _ _ | refine mg_ne (by omega) ?_)) rfl ?_
        refine z_push 82 (nI 1) rfl rfl rfl ?_
        refine z_bop 83 _ rfl rfl (by first | with_reducible exact zb_1 (by omega) | exact zd_1 _ _) ?_
        refine z_put 86 rfl rfl (by repeat (first | exact E0 | exact E1 | exact E2 | exact E3 | exact E4 | exact E5 | exact mg_eq _ _ _ | refine mg_ne (by omega) ?_)) rfl (mFi rfl) ?_
        refine z_vret rfl (Nat.le_refl _) (Nat.le_refl _) ?_
        exact absurd hc22 (by omega)
      · refine z_aload 26 rfl rfl rfl ?_
        refine z_iload 27 rfl rfl rfl ?_
        refine z_aload 28 rfl rfl rfl ?_
        refine z_get 31 rfl rfl (by repeat (first | exact E0 | exact E1 | exact E2 | exact E3 | exact E4 | exact E5 | exact mg_eq _ _ _ | refine mg_ne (by omega) ?_)) rfl ?_
        refine z_iload 32 rfl rfl rfl ?_
        refine z_push 33 (nI 1) rfl rfl rfl ?_
        refine z_bop 34 _ rfl rfl (by first | with_reducible exact zb_0 _ _ | exact zd_0 _ _) ?_
        refine z_ald 35 rfl rfl (by repeat (first | exact E0 | exact E1 | exact E2 | exact E3 | exact E4 | exact E5 | exact mg_eq _ _ _ | refine mg_ne (by omega) ?_)) rfl (by omega) (by omega) ?_
        refine z_aload 36 rfl rfl rfl ?_
        refine z_get 39 rfl rfl (by repeat (first | exact E0 | exact E1 | exact E2 | exact E3 | exact E4 | exact E5 | exact mg_eq _ _ _ | refine mg_ne (by omega) ?_)) rfl ?_
        refine z_iload 40 rfl rfl rfl ?_
        refine z_push 41 (nI 1) rfl rfl rfl ?_
        refine z_bop 42 _ rfl rfl (by first | with_reducible exact zb_0 _ _ | exact zd_0 _ _) ?_
        refine z_ald 43 rfl rfl (by repeat (first | exact E0 | exact E1 | exact E2 | exact E3 | exact E4 | exact E5 | exact mg_eq _ _ _ | refine mg_ne (by omega) ?_)) rfl (by omega) (by omega) ?_
        refine z_aload 44 rfl rfl rfl ?_
        refine z_get 47 rfl rfl (by repeat (first | exact E0 | exact E1 | exact E2 | exact E3 | exact E4 | exact E5 | exact mg_eq _ _ _ | refine mg_ne (by omega) ?_)) rfl ?_
        refine z_iload 48 rfl rfl rfl ?_
        refine z_push 49 (nI 1) rfl rfl rfl ?_
        refine z_bop 50 _ rfl rfl (by first | with_reducible exact zb_0 _ _ | exact zd_0 _ _) ?_
        refine z_ald 51 rfl rfl (by repeat (first | exact E0 | exact E1 | exact E2 | exact E3 | exact E4 | exact E5 | exact mg_eq _ _ _ | refine mg_ne (by omega) ?_)) rfl (by omega) (by omega) ?_
        refine z_aload 52 rfl rfl rfl ?_
        refine z_get 55 rfl rfl (by repeat (first | exact E0 | exact E1 | exact E2 | exact E3 | exact E4 | exact E5 | exact mg_eq _ _ _ | refine mg_ne (by omega) ?_)) rfl ?_
        refine z_iload 56 rfl rfl rfl ?_
        refine z_push 57 (nI 1) rfl rfl rfl ?_
        refine z_bop 58 _ rfl rfl (by first | with_reducible exact zb_0 _ _ | exact zd_0 _ _) ?_
        refine z_ald 59 rfl rfl (by repeat (first | exact E0 | exact E1 | exact E2 | exact E3 | exact E4 | exact E5 | exact mg_eq _ _ _ | refine mg_ne (by omega) ?_)) rfl (by omega) (by omega) ?_
        refine z_aload 60 rfl rfl rfl ?_
        refine z_get 63 rfl rfl (by repeat (first | exact E0 | exact E1 | exact E2 | exact E3 | exact E4 | exact E5 | exact mg_eq _ _ _ | refine mg_ne (by omega) ?_)) rfl ?_
        refine z_iload 64 rfl rfl rfl ?_
        refine z_push 65 (nI 1) rfl rfl rfl ?_
        refine z_bop 66 _ rfl rfl (by first | with_reducible exact zb_0 _ _ | exact zd_0 _ _) ?_
        refine z_bld 67 rfl rfl (by repeat (first | exact E0 | exact E1 | exact E2 | exact E3 | exact E4 | exact E5 | exact mg_eq _ _ _ | refine mg_ne (by omega) ?_)) rfl (by omega) (by omega) ?_
        refine z_cv 70 _ rfl rfl rfl rfl (by repeat (first | exact E0 | exact E1 | exact E2 | exact E3 | exact E4 | exact E5 | exact mg_eq _ _ _ | refine mg_ne (by omega) ?_)) rfl rfl (Nat.le_refl _) (Nat.le_refl _) ?_
        refine c_Ent_put hE1 hn (by omega) (by omega) (by omega) (by rw [rmv_at]; exact hF _) (fun h2 hE2 hf2 => ?_)
        rw [rmv_at, rmv_at, rmv_at, rmv_at, rmv_at, rmv_s S (by omega), rmv_s T (by omega), rmv_s N (by omega), rmv_s P (by omega), rmv_s F (by omega), Nat.max_eq_left (by omega)] at hE2
        refine z_iinc 73 _ rfl rfl rfl rfl (by first | with_reducible exact zi_1 _ | rfl) ?_
        refine z_goto rfl ?_
        exact ih (i + 1) (by omega) (by omega) h2 hE2 (hf1.trans hf2)
  refine z_in [some (.ref e), some (.int (nI k)), none] (by rfl) rfl rfl rfl ?_
  refine z_iload 1 rfl rfl rfl ?_
  first | refine z_zlt 4 rfl rfl (by omega) (fun hc1 => ?_) (fun hc1 => ?_) | refine z_jlt 4 rfl rfl (fun hc1 => ?_) (fun hc1 => ?_)
  · refine z_vret rfl (Nat.le_refl _) (Nat.le_refl _) ?_
    first | exact absurd hc1 (by omega) | exact absurd hc9 (by omega)
  · refine z_iload 5 rfl rfl rfl ?_
    refine z_aload 6 rfl rfl rfl ?_
    refine z_get 9 rfl rfl hE.1 rfl ?_
    first | refine z_nlt 12 rfl rfl (by omega) (by omega) (fun hc9 => ?_) (fun hc9 => ?_) | refine z_klt 12 rfl rfl (by omega) (fun hc9 => ?_) (fun hc9 => ?_) | refine z_hlt 12 rfl rfl (by omega) (fun hc9 => ?_) (fun hc9 => ?_) | refine z_tlt 12 rfl rfl (fun hc9 => ?_) (fun hc9 => ?_)
    · refine z_iload 14 rfl rfl rfl ?_
      refine z_istore 15 rfl rfl rfl rfl ?_
      exact loop (c - 1 - k) k (by omega) (Nat.le_refl k) h (by rw [rmv_0, rmv_0, rmv_0, rmv_0, rmv_0]; exact hE) Fr.rfl
    · refine z_vret rfl (Nat.le_refl _) (Nat.le_refl _) ?_
      first | exact absurd hc1 (by omega) | exact absurd hc9 (by omega)
set_option maxRecDepth 10000 in
theorem c_Ent_copyFrom {d : Nat} {h : mH} {e n c e2 n2 c2 : Nat} {S T N P F S2 T2 N2 P2 F2 : Nat → Int32} {Q : mP} (hE : EntAt h e n S T N P F c) (hG : EntAt h e2 n2 S2 T2 N2 P2 F2 c2) (hn : n < 2 ^ 31) (hn2 : n2 < 2 ^ 31) (hc2 : c2 ≤ n2) (hcn : c2 ≤ n) (hd : e + 6 ≤ e2 ∨ e2 + 6 ≤ e) (hF2 : ∀ j, F2 j = 0 ∨ F2 j = 1) (q : ∀ h', EntAt h' e n (cpf S2 S c2) (cpf T2 T c2) (cpf N2 N c2) (cpf P2 P c2) (cpf F2 F c2) c2 → Fr e (e + 6) h h' → Q none h') : mWP (d + 2) 4 [.ref e, .ref e2] h Q := by
  have loop : ∀ m i, i + m = c2 → ∀ h1, EntAt h1 e n (cpf S2 S i) (cpf T2 T i) (cpf N2 N i) (cpf P2 P i) (cpf F2 F i) i → Fr e (e + 6) h h1 → mZ (d + 1) tk_4 0 0 Q 7 [some (.ref e), some (.ref e2), some (.int (nI i))] [] h1 0 0 := by
    intro m
    induction m with
    | zero =>
      intro i hi h1 hE1 hf1
      obtain rfl : i = c2 := by omega
      obtain ⟨G0, G1, G2, G3, G4, G5⟩ := hG.fr hf1 (by omega)
      refine z_iload 8 rfl rfl rfl ?_
      refine z_aload 9 rfl rfl rfl ?_
      refine z_get 12 rfl rfl G0 rfl ?_
      refine z_nge 15 rfl rfl (by omega) (by omega) (fun _ => ?_) (fun h9 => absurd h9 (by omega))
      refine z_vret rfl (Nat.le_refl _) (Nat.le_refl _) ?_
      exact q h1 hE1 hf1
    | succ m ih =>
      intro i hi h1 hE1 hf1
      obtain ⟨E0, E1, E2, E3, E4, E5⟩ := id hE1
      obtain ⟨G0, G1, G2, G3, G4, G5⟩ := hG.fr hf1 (by omega)
      refine z_iload 8 rfl rfl rfl ?_
      refine z_aload 9 rfl rfl rfl ?_
      refine z_get 12 rfl rfl (by repeat (first | exact E0 | exact E1 | exact E2 | exact E3 | exact E4 | exact E5 | exact G0 | exact G1 | exact G2 | exact G3 | exact G4 | exact G5 | exact mg_eq _ _ _ | refine mg_ne (by omega) ?_)) rfl ?_
      first | refine z_nge 15 rfl rfl (by omega) (by omega) (fun hc12 => ?_) (fun hc12 => ?_) | refine z_kge 15 rfl rfl (by omega) (fun hc12 => ?_) (fun hc12 => ?_) | refine z_hge 15 rfl rfl (by omega) (fun hc12 => ?_) (fun hc12 => ?_) | refine z_tge 15 rfl rfl (fun hc12 => ?_) (fun hc12 => ?_)
      · refine z_vret rfl (Nat.le_refl _) (Nat.le_refl _) ?_
        exact absurd hc12 (by omega)
      · refine z_aload 16 rfl rfl rfl ?_
        refine z_iload 17 rfl rfl rfl ?_
        refine z_aload 18 rfl rfl rfl ?_
        refine z_get 21 rfl rfl (by repeat (first | exact E0 | exact E1 | exact E2 | exact E3 | exact E4 | exact E5 | exact G0 | exact G1 | exact G2 | exact G3 | exact G4 | exact G5 | exact mg_eq _ _ _ | refine mg_ne (by omega) ?_)) rfl ?_
        refine z_iload 22 rfl rfl rfl ?_
        refine z_ald 23 rfl rfl (by repeat (first | exact E0 | exact E1 | exact E2 | exact E3 | exact E4 | exact E5 | exact G0 | exact G1 | exact G2 | exact G3 | exact G4 | exact G5 | exact mg_eq _ _ _ | refine mg_ne (by omega) ?_)) rfl (by omega) (by omega) ?_
        refine z_aload 24 rfl rfl rfl ?_
        refine z_get 27 rfl rfl (by repeat (first | exact E0 | exact E1 | exact E2 | exact E3 | exact E4 | exact E5 | exact G0 | exact G1 | exact G2 | exact G3 | exact G4 | exact G5 | exact mg_eq _ _ _ | refine mg_ne (by omega) ?_)) rfl ?_
        refine z_iload 28 rfl rfl rfl ?_
        refine z_ald 29 rfl rfl (by repeat (first | exact E0 | exact E1 | exact E2 | exact E3 | exact E4 | exact E5 | exact G0 | exact G1 | exact G2 | exact G3 | exact G4 | exact G5 | exact mg_eq _ _ _ | refine mg_ne (by omega) ?_)) rfl (by omega) (by omega) ?_
        refine z_aload 30 rfl rfl rfl ?_
        refine z_get 33 rfl rfl (by repeat (first | exact E0 | exact E1 | exact E2 | exact E3 | exact E4 | exact E5 | exact G0 | exact G1 | exact G2 | exact G3 | exact G4 | exact G5 | exact mg_eq _ _ _ | refine mg_ne (by omega) ?_)) rfl ?_
        refine z_iload 34 rfl rfl rfl ?_
        refine z_ald 35 rfl rfl (by repeat (first | exact E0 | exact E1 | exact E2 | exact E3 | exact E4 | exact E5 | exact G0 | exact G1 | exact G2 | exact G3 | exact G4 | exact G5 | exact mg_eq _ _ _ | refine mg_ne (by omega) ?_)) rfl (by omega) (by omega) ?_
        refine z_aload 36 rfl rfl rfl ?_
        refine z_get 39 rfl rfl (by repeat (first | exact E0 | exact E1 | exact E2 | exact E3 | exact E4 | exact E5 | exact G0 | exact G1 | exact G2 | exact G3 | exact G4 | exact G5 | exact mg_eq _ _ _ | refine mg_ne (by omega) ?_)) rfl ?_
        refine z_iload 40 rfl rfl rfl ?_
        refine z_ald 41 rfl rfl (by repeat (first | exact E0 | exact E1 | exact E2 | exact E3 | exact E4 | exact E5 | exact G0 | exact G1 | exact G2 | exact G3 | exact G4 | exact G5 | exact mg_eq _ _ _ | refine mg_ne (by omega) ?_)) rfl (by omega) (by omega) ?_
        refine z_aload 42 rfl rfl rfl ?_
        refine z_get 45 rfl rfl (by repeat (first | exact E0 | exact E1 | exact E2 | exact E3 | exact E4 | exact E5 | exact G0 | exact G1 | exact G2 | exact G3 | exact G4 | exact G5 | exact mg_eq _ _ _ | refine mg_ne (by omega) ?_)) rfl ?_
        refine z_iload 46 rfl rfl rfl ?_
        refine z_bld 47 rfl rfl (by repeat (first | exact E0 | exact E1 | exact E2 | exact E3 | exact E4 | exact E5 | exact G0 | exact G1 | exact G2 | exact G3 | exact G4 | exact G5 | exact mg_eq _ _ _ | refine mg_ne (by omega) ?_)) rfl (by omega) (by omega) ?_
        refine z_cv 50 _ rfl rfl rfl rfl (by repeat (first | exact E0 | exact E1 | exact E2 | exact E3 | exact E4 | exact E5 | exact G0 | exact G1 | exact G2 | exact G3 | exact G4 | exact G5 | exact mg_eq _ _ _ | refine mg_ne (by omega) ?_)) rfl rfl (Nat.le_refl _) (Nat.le_refl _) ?_
        refine c_Ent_put hE1 hn (by omega) (by omega) (by omega) (hF2 _) (fun h2 hE3 hf2 => ?_)
        rw [cpf_s, cpf_s, cpf_s, cpf_s, cpf_s, Nat.max_eq_right (by omega)] at hE3
        refine z_iinc 53 _ rfl rfl rfl rfl (by first | with_reducible exact zi_1 _ | rfl) ?_
        refine z_goto rfl ?_
        exact ih (i + 1) (by omega) h2 hE3 (hf1.trans hf2)
  refine z_in [some (.ref e), some (.ref e2), none] (by rfl) rfl rfl rfl ?_
  refine z_aload 1 rfl rfl rfl ?_
  refine z_push 2 (nI 0) rfl rfl rfl ?_
  refine z_put 5 rfl rfl hE.1 rfl (mFi rfl) ?_
  refine z_push 6 (nI 0) rfl rfl rfl ?_
  refine z_istore 7 rfl rfl rfl rfl ?_
  refine loop c2 0 (by omega) _ ?_ (Fr.set Fr.rfl (by omega) (by omega))
  rw [cpf_0, cpf_0, cpf_0, cpf_0, cpf_0]
  exact ⟨mg_eq _ _ _, mg_ne (by omega) hE.2.1, mg_ne (by omega) hE.2.2.1, mg_ne (by omega) hE.2.2.2.1, mg_ne (by omega) hE.2.2.2.2.1, mg_ne (by omega) hE.2.2.2.2.2⟩
set_option maxRecDepth 10000 in
theorem c_Sh_copyFrom {d : Nat} {h : mH} {e n c e2 n2 c2 : Nat} {S V G K S2 V2 G2' K2 : Nat → Int32} {Q : mP} (hE : ShAt h e n S V G K c) (hG : ShAt h e2 n2 S2 V2 G2' K2 c2) (hn : n < 2 ^ 31) (hn2 : n2 < 2 ^ 31) (hc2 : c2 ≤ n2) (hcn : c2 ≤ n) (hd : e + 5 ≤ e2 ∨ e2 + 5 ≤ e) (hF2 : ∀ j, K2 j = 0 ∨ K2 j = 1) (q : ∀ h', ShAt h' e n (cpf S2 S c2) (cpf V2 V c2) (cpf G2' G c2) (cpf K2 K c2) c2 → Fr e (e + 5) h h' → Q none h') : mWP (d + 2) 94 [.ref e, .ref e2] h Q := by
  have loop : ∀ m i, i + m = c2 → ∀ h1, ShAt h1 e n (cpf S2 S i) (cpf V2 V i) (cpf G2' G i) (cpf K2 K i) i → Fr e (e + 5) h h1 → mZ (d + 1) tk_94 0 0 Q 7 [some (.ref e), some (.ref e2), some (.int (nI i))] [] h1 0 0 := by
    intro m
    induction m with
    | zero =>
      intro i hi h1 hE1 hf1
      obtain rfl : i = c2 := by omega
      obtain ⟨G0, G1, G2, G3, G4⟩ := hG.fr hf1 (by omega)
      refine z_iload 8 rfl rfl rfl ?_
      refine z_aload 9 rfl rfl rfl ?_
      refine z_get 12 rfl rfl G0 rfl ?_
      refine z_nge 15 rfl rfl (by omega) (by omega) (fun _ => ?_) (fun h9 => absurd h9 (by omega))
      refine z_vret rfl (Nat.le_refl _) (Nat.le_refl _) ?_
      exact q h1 hE1 hf1
    | succ m ih =>
      intro i hi h1 hE1 hf1
      obtain ⟨E0, E1, E2, E3, E4⟩ := id hE1
      obtain ⟨G0, G1, G2, G3, G4⟩ := hG.fr hf1 (by omega)
      refine z_iload 8 rfl rfl rfl ?_
      refine z_aload 9 rfl rfl rfl ?_
      refine z_get 12 rfl rfl (by repeat (first | exact E0 | exact E1 | exact E2 | exact E3 | exact E4 | exact G0 | exact G1 | exact G2 | exact G3 | exact G4 | exact mg_eq _ _ _ | refine mg_ne (by omega) ?_)) rfl ?_
      first | refine z_nge 15 rfl rfl (by omega) (by omega) (fun hc12 => ?_) (fun hc12 => ?_) | refine z_kge 15 rfl rfl (by omega) (fun hc12 => ?_) (fun hc12 => ?_) | refine z_hge 15 rfl rfl (by omega) (fun hc12 => ?_) (fun hc12 => ?_) | refine z_tge 15 rfl rfl (fun hc12 => ?_) (fun hc12 => ?_)
      · refine z_vret rfl (Nat.le_refl _) (Nat.le_refl _) ?_
        exact absurd hc12 (by omega)
      · refine z_aload 16 rfl rfl rfl ?_
        refine z_aload 17 rfl rfl rfl ?_
        refine z_get 20 rfl rfl (by repeat (first | exact E0 | exact E1 | exact E2 | exact E3 | exact E4 | exact G0 | exact G1 | exact G2 | exact G3 | exact G4 | exact mg_eq _ _ _ | refine mg_ne (by omega) ?_)) rfl ?_
        refine z_iload 21 rfl rfl rfl ?_
        refine z_ald 22 rfl rfl (by repeat (first | exact E0 | exact E1 | exact E2 | exact E3 | exact E4 | exact G0 | exact G1 | exact G2 | exact G3 | exact G4 | exact mg_eq _ _ _ | refine mg_ne (by omega) ?_)) rfl (by omega) (by omega) ?_
        refine z_aload 23 rfl rfl rfl ?_
        refine z_get 26 rfl rfl (by repeat (first | exact E0 | exact E1 | exact E2 | exact E3 | exact E4 | exact G0 | exact G1 | exact G2 | exact G3 | exact G4 | exact mg_eq _ _ _ | refine mg_ne (by omega) ?_)) rfl ?_
        refine z_iload 27 rfl rfl rfl ?_
        refine z_ald 28 rfl rfl (by repeat (first | exact E0 | exact E1 | exact E2 | exact E3 | exact E4 | exact G0 | exact G1 | exact G2 | exact G3 | exact G4 | exact mg_eq _ _ _ | refine mg_ne (by omega) ?_)) rfl (by omega) (by omega) ?_
        refine z_aload 29 rfl rfl rfl ?_
        refine z_get 32 rfl rfl (by repeat (first | exact E0 | exact E1 | exact E2 | exact E3 | exact E4 | exact G0 | exact G1 | exact G2 | exact G3 | exact G4 | exact mg_eq _ _ _ | refine mg_ne (by omega) ?_)) rfl ?_
        refine z_iload 33 rfl rfl rfl ?_
        refine z_ald 34 rfl rfl (by repeat (first | exact E0 | exact E1 | exact E2 | exact E3 | exact E4 | exact G0 | exact G1 | exact G2 | exact G3 | exact G4 | exact mg_eq _ _ _ | refine mg_ne (by omega) ?_)) rfl (by omega) (by omega) ?_
        refine z_aload 35 rfl rfl rfl ?_
        refine z_get 38 rfl rfl (by repeat (first | exact E0 | exact E1 | exact E2 | exact E3 | exact E4 | exact G0 | exact G1 | exact G2 | exact G3 | exact G4 | exact mg_eq _ _ _ | refine mg_ne (by omega) ?_)) rfl ?_
        refine z_iload 39 rfl rfl rfl ?_
        refine z_bld 40 rfl rfl (by repeat (first | exact E0 | exact E1 | exact E2 | exact E3 | exact E4 | exact G0 | exact G1 | exact G2 | exact G3 | exact G4 | exact mg_eq _ _ _ | refine mg_ne (by omega) ?_)) rfl (by omega) (by omega) ?_
        refine z_cv 43 _ rfl rfl rfl rfl (by repeat (first | exact E0 | exact E1 | exact E2 | exact E3 | exact E4 | exact G0 | exact G1 | exact G2 | exact G3 | exact G4 | exact mg_eq _ _ _ | refine mg_ne (by omega) ?_)) rfl rfl (Nat.le_refl _) (Nat.le_refl _) ?_
        refine c_Sh_add hE1 hn (by omega) (hF2 _) (fun h2 hE3 hf2 => ?_)
        rw [cpf_s, cpf_s, cpf_s, cpf_s] at hE3
        refine z_iinc 46 _ rfl rfl rfl rfl (by first | with_reducible exact zi_1 _ | rfl) ?_
        refine z_goto rfl ?_
        exact ih (i + 1) (by omega) h2 hE3 (hf1.trans hf2)
  refine z_in [some (.ref e), some (.ref e2), none] (by rfl) rfl rfl rfl ?_
  refine z_aload 1 rfl rfl rfl ?_
  refine z_push 2 (nI 0) rfl rfl rfl ?_
  refine z_put 5 rfl rfl hE.1 rfl (mFi rfl) ?_
  refine z_push 6 (nI 0) rfl rfl rfl ?_
  refine z_istore 7 rfl rfl rfl rfl ?_
  refine loop c2 0 (by omega) _ ?_ (Fr.set Fr.rfl (by omega) (by omega))
  rw [cpf_0, cpf_0, cpf_0, cpf_0]
  exact ⟨mg_eq _ _ _, mg_ne (by omega) hE.2.1, mg_ne (by omega) hE.2.2.1, mg_ne (by omega) hE.2.2.2.1, mg_ne (by omega) hE.2.2.2.2⟩
