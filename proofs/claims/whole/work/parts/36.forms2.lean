/-! Forms: unitText, holdsPoint -/
theorem zo_a {u : Nat} (h : u < 2 ^ 32) : mBop 3 (nI u) (nI 255) = nI (u % 256) := pk_andN h 8 (by decide)
theorem zo_s {u : Nat} (h : u < 2 ^ 31) : mBop 7 (nI u) (nI 8) = nI (u / 256) := pk_shrN h (nI 8 &&& 31) 8 (by decide)
def uTx (k u : Nat) : Nat := if k = 1 then u else u % 256 * 256 + u / 256
def hldP (l m : Int32) (n : Nat) : Bool := decide ((if n ≤ 1 then 0 else if n = 2 then 128 else if n = 3 then 2048 else 65536) ≤ m.toInt ∧ l.toInt ≤ 1114111) && !(jHalf l && jHalf m)
set_option maxRecDepth 10000 in
theorem c_unitText {d : Nat} {h : mH} {k u : Nat} {Q : mP} (hk : k < 4) (hu : u < 65536) (q : Q (some (.int (nI (uTx k u)))) h) : mWP (d + 1) 9 [.int (nI k), .int (nI u)] h Q := by
  refine z_in [some (.int (nI k)), some (.int (nI u))] (by rfl) rfl rfl rfl ?_
  refine z_iload 1 rfl rfl rfl ?_
  refine z_push 2 (nI 1) rfl rfl rfl ?_
  first | refine z_nne 5 rfl rfl (by omega) (by omega) (fun hc2 => ?_) (fun hc2 => ?_) | refine z_kne 5 rfl rfl (by omega) (fun hc2 => ?_) (fun hc2 => ?_) | refine z_hne 5 rfl rfl (by omega) (fun hc2 => ?_) (fun hc2 => ?_) | refine z_cne 5 rfl rfl (fun hc2 => ?_) (fun hc2 => ?_)
  · refine z_iload 10 rfl rfl rfl ?_
    refine z_push 13 (nI 255) rfl rfl rfl ?_
    refine z_bop 14 _ rfl rfl (zo_a (by omega)) ?_
    refine z_push 16 (nI 8) rfl rfl rfl ?_
    refine z_bop 17 _ rfl rfl (zd_6 _ _) ?_
    refine z_iload 18 rfl rfl rfl ?_
    refine z_push 20 (nI 8) rfl rfl rfl ?_
    refine z_bop 21 _ rfl rfl (zo_s (by omega)) ?_
    refine z_bop 22 _ rfl rfl (zo_8 (by omega) (by omega)) ?_
    refine z_ireti rfl (Nat.le_refl _) (Nat.le_refl _) ?_
    first | exact zqo (by rw [uTx, if_pos hc2]) q | exact zqo (by rw [uTx, if_neg hc2]) q
  · refine z_iload 6 rfl rfl rfl ?_
    refine z_goto rfl ?_
    refine z_ireti rfl (Nat.le_refl _) (Nat.le_refl _) ?_
    first | exact zqo (by rw [uTx, if_pos hc2]) q | exact zqo (by rw [uTx, if_neg hc2]) q
