/-! Routes: its cells at e .. e + 4 -/
def RoAt (h : mH) (e : Nat) (T N A S : Nat → Int32) : Prop := h.2 e = .inr (.inr (6, [.ref (e + 1), .ref (e + 2), .ref (e + 3), .ref (e + 4)])) ∧ h.2 (e + 1) = aI 20 T ∧ h.2 (e + 2) = aI 20 N ∧ h.2 (e + 3) = aI 20 A ∧ h.2 (e + 4) = aI 4 S
theorem RoAt.fr {h h' : mH} {e lo hi : Nat} {T N A S : Nat → Int32} (hE : RoAt h e T N A S) (hf : Fr lo hi h h') (hd : e + 5 ≤ lo ∨ hi ≤ e) : RoAt h' e T N A S := by
  obtain ⟨E0, E1, E2, E3, E4⟩ := hE
  exact ⟨by rw [hf.2 _ (by omega)]; exact E0, by rw [hf.2 _ (by omega)]; exact E1, by rw [hf.2 _ (by omega)]; exact E2, by rw [hf.2 _ (by omega)]; exact E3, by rw [hf.2 _ (by omega)]; exact E4⟩
/-- the goal's state: 4 is home -/
def gSt (g : Nat) : Nat := if g = 4 then 0 else g
/-- how many shifts the way by shift i has -/
def sBy (w g : Nat → Nat) (kf : Nat → Bool) (gl i : Nat) : Nat := if kf i = true then 1 + w (g i) else if gl ≠ 4 ∧ g i = gl then 1 else 100
set_option maxRecDepth 10000 in
theorem c_Ro_slotOf {d : Nat} {h : mH} {g f : Nat} {Q : mP} (q : Q (some (.int (nI (g * 4 + f)))) h) : mWP (d + 1) 63 [.int (nI g), .int (nI f)] h Q := by
  refine z_in [some (.int (nI g)), some (.int (nI f))] (by rfl) rfl rfl rfl ?_
  refine z_iload 1 rfl rfl rfl ?_
  refine z_push 2 (nI 4) rfl rfl rfl ?_
  refine z_bop 3 _ rfl rfl (by first | with_reducible exact zb_2 _ _ | exact zd_2 _ _) ?_
  refine z_iload 4 rfl rfl rfl ?_
  refine z_bop 5 _ rfl rfl (by first | with_reducible exact zb_0 _ _ | exact zd_0 _ _) ?_
  refine z_ireti rfl (Nat.le_refl _) (Nat.le_refl _) ?_
  exact q
set_option maxRecDepth 10000 in
theorem c_Ro_stateOf {d : Nat} {h : mH} {g : Nat} {Q : mP} (hg : g < 2 ^ 31) (q : Q (some (.int (nI (gSt g)))) h) : mWP (d + 1) 65 [.int (nI g)] h Q := by
  refine z_in [some (.int (nI g))] (by rfl) rfl rfl rfl ?_
  refine z_iload 1 rfl rfl rfl ?_
  refine z_push 2 (nI 4) rfl rfl rfl ?_
  first | refine z_nne 5 rfl rfl (by omega) (by omega) (fun hc2 => ?_) (fun hc2 => ?_) | refine z_kne 5 rfl rfl (by omega) (fun hc2 => ?_) (fun hc2 => ?_) | refine z_hne 5 rfl rfl (by omega) (fun hc2 => ?_) (fun hc2 => ?_) | refine z_cne 5 rfl rfl (fun hc2 => ?_) (fun hc2 => ?_)
  · refine z_iload 10 rfl rfl rfl ?_
    refine z_ireti rfl (Nat.le_refl _) (Nat.le_refl _) ?_
    first | exact zqo (by rw [gSt, if_pos hc2]) q | exact zqo (by rw [gSt, if_neg hc2]) q
  · refine z_push 6 (nI 0) rfl rfl rfl ?_
    refine z_goto rfl ?_
    refine z_ireti rfl (Nat.le_refl _) (Nat.le_refl _) ?_
    first | exact zqo (by rw [gSt, if_pos hc2]) q | exact zqo (by rw [gSt, if_neg hc2]) q
set_option maxRecDepth 10000 in
theorem c_Ro_stepsBy {d : Nat} {h : mH} {e s n c i gl : Nat} {T N A : Nat → Int32} {w : Nat → Nat} {S V : Nat → Int32} {g : Nat → Nat} {kf : Nat → Bool} {Q : mP} (hR : RoAt h e T N A (fun j => nI (w j))) (hE : ShAt h s n S V (fun j => nI (g j)) (fun j => bI (kf j)) c) (hn : n < 2 ^ 31) (hi : i < n) (hgi : g i < 4) (hgl : gl < 5) (q : Q (some (.int (nI (sBy w g kf gl i)))) h) : mWP (d + 1) 66 [.ref e, .ref s, .int (nI i), .int (nI gl)] h Q := by
  obtain ⟨R0, R1, R2, R3, R4⟩ := hR
  obtain ⟨E0, E1, E2, E3, E4⟩ := hE
  refine z_in [some (.ref e), some (.ref s), some (.int (nI i)), some (.int (nI gl))] (by rfl) rfl rfl rfl ?_
  refine z_aload 1 rfl rfl rfl ?_
  refine z_get 4 rfl rfl (by first | exact R0 | exact R4 | exact E0 | exact E3 | exact E4) rfl ?_
  refine z_iload 5 rfl rfl rfl ?_
  refine z_bld 6 rfl rfl (by first | exact R0 | exact R4 | exact E0 | exact E3 | exact E4) rfl (by omega) (by omega) ?_
  first | refine z_beq 9 rfl rfl (fun hc6 => ?_) (fun hc6 => ?_)
  · refine z_iload 24 rfl rfl rfl ?_
    refine z_push 25 (nI 4) rfl rfl rfl ?_
    first | refine z_neq 28 rfl rfl (by omega) (by omega) (fun hc25 => ?_) (fun hc25 => ?_) | refine z_keq 28 rfl rfl (by omega) (fun hc25 => ?_) (fun hc25 => ?_) | refine z_heq 28 rfl rfl (by omega) (fun hc25 => ?_) (fun hc25 => ?_) | refine z_ceq 28 rfl rfl (fun hc25 => ?_) (fun hc25 => ?_)
    · refine z_push 44 (nI 100) rfl rfl rfl ?_
      refine z_ireti rfl (Nat.le_refl _) (Nat.le_refl _) ?_
      first
      | (refine zqo ?_ q; simp [sBy, hc6, hc25, hc35]; done)
      | (refine zqo ?_ q; simp [sBy, hc6, hc25]; done)
      | (refine zqo ?_ q; simp [sBy, hc6]; done)
    · refine z_aload 29 rfl rfl rfl ?_
      refine z_get 32 rfl rfl (by first | exact R0 | exact R4 | exact E0 | exact E3 | exact E4) rfl ?_
      refine z_iload 33 rfl rfl rfl ?_
      refine z_ald 34 rfl rfl (by first | exact R0 | exact R4 | exact E0 | exact E3 | exact E4) rfl (by omega) (by omega) ?_
      refine z_iload 35 rfl rfl rfl ?_
      first | refine z_nne 38 rfl rfl (by omega) (by omega) (fun hc35 => ?_) (fun hc35 => ?_) | refine z_kne 38 rfl rfl (by omega) (fun hc35 => ?_) (fun hc35 => ?_) | refine z_hne 38 rfl rfl (by omega) (fun hc35 => ?_) (fun hc35 => ?_) | refine z_cne 38 rfl rfl (fun hc35 => ?_) (fun hc35 => ?_)
      · refine z_push 44 (nI 100) rfl rfl rfl ?_
        refine z_ireti rfl (Nat.le_refl _) (Nat.le_refl _) ?_
        first
        | (refine zqo ?_ q; simp [sBy, hc6, hc25, hc35]; done)
        | (refine zqo ?_ q; simp [sBy, hc6, hc25]; done)
        | (refine zqo ?_ q; simp [sBy, hc6]; done)
      · refine z_push 39 (nI 1) rfl rfl rfl ?_
        refine z_goto rfl ?_
        refine z_ireti rfl (Nat.le_refl _) (Nat.le_refl _) ?_
        first
        | (refine zqo ?_ q; simp [sBy, hc6, hc25, hc35]; done)
        | (refine zqo ?_ q; simp [sBy, hc6, hc25]; done)
        | (refine zqo ?_ q; simp [sBy, hc6]; done)
  · refine z_push 10 (nI 1) rfl rfl rfl ?_
    refine z_aload 11 rfl rfl rfl ?_
    refine z_get 14 rfl rfl (by first | exact R0 | exact R4 | exact E0 | exact E3 | exact E4) rfl ?_
    refine z_aload 15 rfl rfl rfl ?_
    refine z_get 18 rfl rfl (by first | exact R0 | exact R4 | exact E0 | exact E3 | exact E4) rfl ?_
    refine z_iload 19 rfl rfl rfl ?_
    refine z_ald 20 rfl rfl (by first | exact R0 | exact R4 | exact E0 | exact E3 | exact E4) rfl (by omega) (by omega) ?_
    refine z_ald 21 rfl rfl (by first | exact R0 | exact R4 | exact E0 | exact E3 | exact E4) rfl (by omega) (by omega) ?_
    refine z_bop 22 _ rfl rfl (by first | with_reducible exact zb_0 _ _ | exact zd_0 _ _) ?_
    refine z_ireti rfl (Nat.le_refl _) (Nat.le_refl _) ?_
    first
    | (refine zqo ?_ q; simp [sBy, hc6, hc25, hc35]; done)
    | (refine zqo ?_ q; simp [sBy, hc6, hc25]; done)
    | (refine zqo ?_ q; simp [sBy, hc6]; done)
