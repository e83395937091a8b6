/-! small static methods of the class and of the reference -/
def jHalf (x : Int32) : Bool := decide (55296 ≤ x.toInt ∧ x.toInt ≤ 57343)
def jHigh (x : Int32) : Bool := decide (55296 ≤ x.toInt ∧ x.toInt < 56320)
def jLow (x : Int32) : Bool := decide (56320 ≤ x.toInt ∧ x.toInt ≤ 57343)
def jByte (x : Int32) : Bool := decide (0 ≤ x.toInt ∧ x.toInt ≤ 255)
def jState (x : Int32) : Bool := decide (0 ≤ x.toInt ∧ x.toInt < 4)
def jRd (x : Int32) : Bool := decide (0 ≤ x.toInt ∧ x.toInt ≤ 3)
def jWr (x : Int32) : Bool := decide (0 ≤ x.toInt ∧ x.toInt ≤ 4)
set_option maxRecDepth 10000 in
theorem c_isHalf {d : Nat} {h : mH} {x : Int32} {Q : mP} (q : Q (some (.int (bI (jHalf x)))) h) : mWP (d + 1) 140 [.int x] h Q := by
  refine z_in [some (.int x)] (by rfl) rfl rfl rfl ?_
  refine z_iload 1 rfl rfl rfl ?_
  refine z_push 4 (nI 55296) rfl rfl rfl ?_
  first | refine z_nlt 7 rfl rfl (by omega) (by omega) (fun hc4 => ?_) (fun hc4 => ?_) | refine z_klt 7 rfl rfl (by omega) (fun hc4 => ?_) (fun hc4 => ?_) | refine z_hlt 7 rfl rfl (by omega) (fun hc4 => ?_) (fun hc4 => ?_) | refine z_tlt 7 rfl rfl (fun hc4 => ?_) (fun hc4 => ?_)
  · refine z_push 19 (nI 0) rfl rfl rfl ?_
    refine z_iretb rfl (Nat.le_refl _) (Nat.le_refl _) (by first | decide | exact bI_01 _) ?_
    first | exact zq q (by rw [show jHalf x = true from decide_eq_true (by omega)]; rfl) | exact zq q (by rw [show jHalf x = false from decide_eq_false (by omega)]; rfl)
  · refine z_iload 8 rfl rfl rfl ?_
    refine z_push 11 (nI 57343) rfl rfl rfl ?_
    first | refine z_ngt 14 rfl rfl (by omega) (by omega) (fun hc11 => ?_) (fun hc11 => ?_) | refine z_kgt 14 rfl rfl (by omega) (fun hc11 => ?_) (fun hc11 => ?_) | refine z_hgt 14 rfl rfl (by omega) (fun hc11 => ?_) (fun hc11 => ?_) | refine z_tgt 14 rfl rfl (fun hc11 => ?_) (fun hc11 => ?_)
    · refine z_push 19 (nI 0) rfl rfl rfl ?_
      refine z_iretb rfl (Nat.le_refl _) (Nat.le_refl _) (by first | decide | exact bI_01 _) ?_
      first | exact zq q (by rw [show jHalf x = true from decide_eq_true (by omega)]; rfl) | exact zq q (by rw [show jHalf x = false from decide_eq_false (by omega)]; rfl)
    · refine z_push 15 (nI 1) rfl rfl rfl ?_
      refine z_goto rfl ?_
      refine z_iretb rfl (Nat.le_refl _) (Nat.le_refl _) (by first | decide | exact bI_01 _) ?_
      first | exact zq q (by rw [show jHalf x = true from decide_eq_true (by omega)]; rfl) | exact zq q (by rw [show jHalf x = false from decide_eq_false (by omega)]; rfl)
set_option maxRecDepth 10000 in
theorem c_isHighHalf {d : Nat} {h : mH} {x : Int32} {Q : mP} (q : Q (some (.int (bI (jHigh x)))) h) : mWP (d + 1) 141 [.int x] h Q := by
  refine z_in [some (.int x)] (by rfl) rfl rfl rfl ?_
  refine z_iload 1 rfl rfl rfl ?_
  refine z_push 4 (nI 55296) rfl rfl rfl ?_
  first | refine z_nlt 7 rfl rfl (by omega) (by omega) (fun hc4 => ?_) (fun hc4 => ?_) | refine z_klt 7 rfl rfl (by omega) (fun hc4 => ?_) (fun hc4 => ?_) | refine z_hlt 7 rfl rfl (by omega) (fun hc4 => ?_) (fun hc4 => ?_) | refine z_tlt 7 rfl rfl (fun hc4 => ?_) (fun hc4 => ?_)
  · refine z_push 19 (nI 0) rfl rfl rfl ?_
    refine z_iretb rfl (Nat.le_refl _) (Nat.le_refl _) (by first | decide | exact bI_01 _) ?_
    first | exact zq q (by rw [show jHigh x = true from decide_eq_true (by omega)]; rfl) | exact zq q (by rw [show jHigh x = false from decide_eq_false (by omega)]; rfl)
  · refine z_iload 8 rfl rfl rfl ?_
    refine z_push 11 (nI 56320) rfl rfl rfl ?_
    first | refine z_nge 14 rfl rfl (by omega) (by omega) (fun hc11 => ?_) (fun hc11 => ?_) | refine z_kge 14 rfl rfl (by omega) (fun hc11 => ?_) (fun hc11 => ?_) | refine z_hge 14 rfl rfl (by omega) (fun hc11 => ?_) (fun hc11 => ?_) | refine z_tge 14 rfl rfl (fun hc11 => ?_) (fun hc11 => ?_)
    · refine z_push 19 (nI 0) rfl rfl rfl ?_
      refine z_iretb rfl (Nat.le_refl _) (Nat.le_refl _) (by first | decide | exact bI_01 _) ?_
      first | exact zq q (by rw [show jHigh x = true from decide_eq_true (by omega)]; rfl) | exact zq q (by rw [show jHigh x = false from decide_eq_false (by omega)]; rfl)
    · refine z_push 15 (nI 1) rfl rfl rfl ?_
      refine z_goto rfl ?_
      refine z_iretb rfl (Nat.le_refl _) (Nat.le_refl _) (by first | decide | exact bI_01 _) ?_
      first | exact zq q (by rw [show jHigh x = true from decide_eq_true (by omega)]; rfl) | exact zq q (by rw [show jHigh x = false from decide_eq_false (by omega)]; rfl)
set_option maxRecDepth 10000 in
theorem c_isLowHalf {d : Nat} {h : mH} {x : Int32} {Q : mP} (q : Q (some (.int (bI (jLow x)))) h) : mWP (d + 1) 142 [.int x] h Q := by
  refine z_in [some (.int x)] (by rfl) rfl rfl rfl ?_
  refine z_iload 1 rfl rfl rfl ?_
  refine z_push 4 (nI 56320) rfl rfl rfl ?_
  first | refine z_nlt 7 rfl rfl (by omega) (by omega) (fun hc4 => ?_) (fun hc4 => ?_) | refine z_klt 7 rfl rfl (by omega) (fun hc4 => ?_) (fun hc4 => ?_) | refine z_hlt 7 rfl rfl (by omega) (fun hc4 => ?_) (fun hc4 => ?_) | refine z_tlt 7 rfl rfl (fun hc4 => ?_) (fun hc4 => ?_)
  · refine z_push 19 (nI 0) rfl rfl rfl ?_
    refine z_iretb rfl (Nat.le_refl _) (Nat.le_refl _) (by first | decide | exact bI_01 _) ?_
    first | exact zq q (by rw [show jLow x = true from decide_eq_true (by omega)]; rfl) | exact zq q (by rw [show jLow x = false from decide_eq_false (by omega)]; rfl)
  · refine z_iload 8 rfl rfl rfl ?_
    refine z_push 11 (nI 57343) rfl rfl rfl ?_
    first | refine z_ngt 14 rfl rfl (by omega) (by omega) (fun hc11 => ?_) (fun hc11 => ?_) | refine z_kgt 14 rfl rfl (by omega) (fun hc11 => ?_) (fun hc11 => ?_) | refine z_hgt 14 rfl rfl (by omega) (fun hc11 => ?_) (fun hc11 => ?_) | refine z_tgt 14 rfl rfl (fun hc11 => ?_) (fun hc11 => ?_)
    · refine z_push 19 (nI 0) rfl rfl rfl ?_
      refine z_iretb rfl (Nat.le_refl _) (Nat.le_refl _) (by first | decide | exact bI_01 _) ?_
      first | exact zq q (by rw [show jLow x = true from decide_eq_true (by omega)]; rfl) | exact zq q (by rw [show jLow x = false from decide_eq_false (by omega)]; rfl)
    · refine z_push 15 (nI 1) rfl rfl rfl ?_
      refine z_goto rfl ?_
      refine z_iretb rfl (Nat.le_refl _) (Nat.le_refl _) (by first | decide | exact bI_01 _) ?_
      first | exact zq q (by rw [show jLow x = true from decide_eq_true (by omega)]; rfl) | exact zq q (by rw [show jLow x = false from decide_eq_false (by omega)]; rfl)
set_option maxRecDepth 10000 in
theorem c_isByte {d : Nat} {h : mH} {x : Int32} {Q : mP} (q : Q (some (.int (bI (jByte x)))) h) : mWP (d + 1) 146 [.int x] h Q := by
  refine z_in [some (.int x)] (by rfl) rfl rfl rfl ?_
  refine z_iload 1 rfl rfl rfl ?_
  first | refine z_zlt 4 rfl rfl (by omega) (fun hc1 => ?_) (fun hc1 => ?_) | refine z_jlt 4 rfl rfl (fun hc1 => ?_) (fun hc1 => ?_)
  · refine z_push 16 (nI 0) rfl rfl rfl ?_
    refine z_iretb rfl (Nat.le_refl _) (Nat.le_refl _) (by first | decide | exact bI_01 _) ?_
    first | exact zq q (by rw [show jByte x = true from decide_eq_true (by omega)]; rfl) | exact zq q (by rw [show jByte x = false from decide_eq_false (by omega)]; rfl)
  · refine z_iload 5 rfl rfl rfl ?_
    refine z_push 8 (nI 255) rfl rfl rfl ?_
    first | refine z_ngt 11 rfl rfl (by omega) (by omega) (fun hc8 => ?_) (fun hc8 => ?_) | refine z_kgt 11 rfl rfl (by omega) (fun hc8 => ?_) (fun hc8 => ?_) | refine z_hgt 11 rfl rfl (by omega) (fun hc8 => ?_) (fun hc8 => ?_) | refine z_tgt 11 rfl rfl (fun hc8 => ?_) (fun hc8 => ?_)
    · refine z_push 16 (nI 0) rfl rfl rfl ?_
      refine z_iretb rfl (Nat.le_refl _) (Nat.le_refl _) (by first | decide | exact bI_01 _) ?_
      first | exact zq q (by rw [show jByte x = true from decide_eq_true (by omega)]; rfl) | exact zq q (by rw [show jByte x = false from decide_eq_false (by omega)]; rfl)
    · refine z_push 12 (nI 1) rfl rfl rfl ?_
      refine z_goto rfl ?_
      refine z_iretb rfl (Nat.le_refl _) (Nat.le_refl _) (by first | decide | exact bI_01 _) ?_
      first | exact zq q (by rw [show jByte x = true from decide_eq_true (by omega)]; rfl) | exact zq q (by rw [show jByte x = false from decide_eq_false (by omega)]; rfl)
set_option maxRecDepth 10000 in
theorem c_isState {d : Nat} {h : mH} {x : Int32} {Q : mP} (q : Q (some (.int (bI (jState x)))) h) : mWP (d + 1) 147 [.int x] h Q := by
  refine z_in [some (.int x)] (by rfl) rfl rfl rfl ?_
  refine z_iload 1 rfl rfl rfl ?_
  first | refine z_zlt 4 rfl rfl (by omega) (fun hc1 => ?_) (fun hc1 => ?_) | refine z_jlt 4 rfl rfl (fun hc1 => ?_) (fun hc1 => ?_)
  · refine z_push 14 (nI 0) rfl rfl rfl ?_
    refine z_iretb rfl (Nat.le_refl _) (Nat.le_refl _) (by first | decide | exact bI_01 _) ?_
    first | exact zq q (by rw [show jState x = true from decide_eq_true (by omega)]; rfl) | exact zq q (by rw [show jState x = false from decide_eq_false (by omega)]; rfl)
  · refine z_iload 5 rfl rfl rfl ?_
    refine z_push 6 (nI 4) rfl rfl rfl ?_
    first | refine z_nge 9 rfl rfl (by omega) (by omega) (fun hc6 => ?_) (fun hc6 => ?_) | refine z_kge 9 rfl rfl (by omega) (fun hc6 => ?_) (fun hc6 => ?_) | refine z_hge 9 rfl rfl (by omega) (fun hc6 => ?_) (fun hc6 => ?_) | refine z_tge 9 rfl rfl (fun hc6 => ?_) (fun hc6 => ?_)
    · refine z_push 14 (nI 0) rfl rfl rfl ?_
      refine z_iretb rfl (Nat.le_refl _) (Nat.le_refl _) (by first | decide | exact bI_01 _) ?_
      first | exact zq q (by rw [show jState x = true from decide_eq_true (by omega)]; rfl) | exact zq q (by rw [show jState x = false from decide_eq_false (by omega)]; rfl)
    · refine z_push 10 (nI 1) rfl rfl rfl ?_
      refine z_goto rfl ?_
      refine z_iretb rfl (Nat.le_refl _) (Nat.le_refl _) (by first | decide | exact bI_01 _) ?_
      first | exact zq q (by rw [show jState x = true from decide_eq_true (by omega)]; rfl) | exact zq q (by rw [show jState x = false from decide_eq_false (by omega)]; rfl)
set_option maxRecDepth 10000 in
theorem c_isReadRule {d : Nat} {h : mH} {x : Int32} {Q : mP} (q : Q (some (.int (bI (jRd x)))) h) : mWP (d + 1) 149 [.int x] h Q := by
  refine z_in [some (.int x)] (by rfl) rfl rfl rfl ?_
  refine z_iload 1 rfl rfl rfl ?_
  first | refine z_zlt 4 rfl rfl (by omega) (fun hc1 => ?_) (fun hc1 => ?_) | refine z_jlt 4 rfl rfl (fun hc1 => ?_) (fun hc1 => ?_)
  · refine z_push 14 (nI 0) rfl rfl rfl ?_
    refine z_iretb rfl (Nat.le_refl _) (Nat.le_refl _) (by first | decide | exact bI_01 _) ?_
    first | exact zq q (by rw [show jRd x = true from decide_eq_true (by omega)]; rfl) | exact zq q (by rw [show jRd x = false from decide_eq_false (by omega)]; rfl)
  · refine z_iload 5 rfl rfl rfl ?_
    refine z_push 6 (nI 3) rfl rfl rfl ?_
    first | refine z_ngt 9 rfl rfl (by omega) (by omega) (fun hc6 => ?_) (fun hc6 => ?_) | refine z_kgt 9 rfl rfl (by omega) (fun hc6 => ?_) (fun hc6 => ?_) | refine z_hgt 9 rfl rfl (by omega) (fun hc6 => ?_) (fun hc6 => ?_) | refine z_tgt 9 rfl rfl (fun hc6 => ?_) (fun hc6 => ?_)
    · refine z_push 14 (nI 0) rfl rfl rfl ?_
      refine z_iretb rfl (Nat.le_refl _) (Nat.le_refl _) (by first | decide | exact bI_01 _) ?_
      first | exact zq q (by rw [show jRd x = true from decide_eq_true (by omega)]; rfl) | exact zq q (by rw [show jRd x = false from decide_eq_false (by omega)]; rfl)
    · refine z_push 10 (nI 1) rfl rfl rfl ?_
      refine z_goto rfl ?_
      refine z_iretb rfl (Nat.le_refl _) (Nat.le_refl _) (by first | decide | exact bI_01 _) ?_
      first | exact zq q (by rw [show jRd x = true from decide_eq_true (by omega)]; rfl) | exact zq q (by rw [show jRd x = false from decide_eq_false (by omega)]; rfl)
set_option maxRecDepth 10000 in
theorem c_isWriteRule {d : Nat} {h : mH} {x : Int32} {Q : mP} (q : Q (some (.int (bI (jWr x)))) h) : mWP (d + 1) 150 [.int x] h Q := by
  refine z_in [some (.int x)] (by rfl) rfl rfl rfl ?_
  refine z_iload 1 rfl rfl rfl ?_
  first | refine z_zlt 4 rfl rfl (by omega) (fun hc1 => ?_) (fun hc1 => ?_) | refine z_jlt 4 rfl rfl (fun hc1 => ?_) (fun hc1 => ?_)
  · refine z_push 14 (nI 0) rfl rfl rfl ?_
    refine z_iretb rfl (Nat.le_refl _) (Nat.le_refl _) (by first | decide | exact bI_01 _) ?_
    first | exact zq q (by rw [show jWr x = true from decide_eq_true (by omega)]; rfl) | exact zq q (by rw [show jWr x = false from decide_eq_false (by omega)]; rfl)
  · refine z_iload 5 rfl rfl rfl ?_
    refine z_push 6 (nI 4) rfl rfl rfl ?_
    first | refine z_ngt 9 rfl rfl (by omega) (by omega) (fun hc6 => ?_) (fun hc6 => ?_) | refine z_kgt 9 rfl rfl (by omega) (fun hc6 => ?_) (fun hc6 => ?_) | refine z_hgt 9 rfl rfl (by omega) (fun hc6 => ?_) (fun hc6 => ?_) | refine z_tgt 9 rfl rfl (fun hc6 => ?_) (fun hc6 => ?_)
    · refine z_push 14 (nI 0) rfl rfl rfl ?_
      refine z_iretb rfl (Nat.le_refl _) (Nat.le_refl _) (by first | decide | exact bI_01 _) ?_
      first | exact zq q (by rw [show jWr x = true from decide_eq_true (by omega)]; rfl) | exact zq q (by rw [show jWr x = false from decide_eq_false (by omega)]; rfl)
    · refine z_push 10 (nI 1) rfl rfl rfl ?_
      refine z_goto rfl ?_
      refine z_iretb rfl (Nat.le_refl _) (Nat.le_refl _) (by first | decide | exact bI_01 _) ?_
      first | exact zq q (by rw [show jWr x = true from decide_eq_true (by omega)]; rfl) | exact zq q (by rw [show jWr x = false from decide_eq_false (by omega)]; rfl)
set_option maxRecDepth 10000 in
theorem c_isMachine {d : Nat} {h : mH} {x : Int32} {Q : mP} (q : Q (some (.int (bI (jState x)))) h) : mWP (d + 1) 151 [.int x] h Q := by
  refine z_in [some (.int x)] (by rfl) rfl rfl rfl ?_
  refine z_iload 1 rfl rfl rfl ?_
  first | refine z_zlt 4 rfl rfl (by omega) (fun hc1 => ?_) (fun hc1 => ?_) | refine z_jlt 4 rfl rfl (fun hc1 => ?_) (fun hc1 => ?_)
  · refine z_push 14 (nI 0) rfl rfl rfl ?_
    refine z_iretb rfl (Nat.le_refl _) (Nat.le_refl _) (by first | decide | exact bI_01 _) ?_
    first | exact zq q (by rw [show jState x = true from decide_eq_true (by omega)]; rfl) | exact zq q (by rw [show jState x = false from decide_eq_false (by omega)]; rfl)
  · refine z_iload 5 rfl rfl rfl ?_
    refine z_push 6 (nI 4) rfl rfl rfl ?_
    first | refine z_nge 9 rfl rfl (by omega) (by omega) (fun hc6 => ?_) (fun hc6 => ?_) | refine z_kge 9 rfl rfl (by omega) (fun hc6 => ?_) (fun hc6 => ?_) | refine z_hge 9 rfl rfl (by omega) (fun hc6 => ?_) (fun hc6 => ?_) | refine z_tge 9 rfl rfl (fun hc6 => ?_) (fun hc6 => ?_)
    · refine z_push 14 (nI 0) rfl rfl rfl ?_
      refine z_iretb rfl (Nat.le_refl _) (Nat.le_refl _) (by first | decide | exact bI_01 _) ?_
      first | exact zq q (by rw [show jState x = true from decide_eq_true (by omega)]; rfl) | exact zq q (by rw [show jState x = false from decide_eq_false (by omega)]; rfl)
    · refine z_push 10 (nI 1) rfl rfl rfl ?_
      refine z_goto rfl ?_
      refine z_iretb rfl (Nat.le_refl _) (Nat.le_refl _) (by first | decide | exact bI_01 _) ?_
      first | exact zq q (by rw [show jState x = true from decide_eq_true (by omega)]; rfl) | exact zq q (by rw [show jState x = false from decide_eq_false (by omega)]; rfl)
def jIn (x y z : Int32) : Bool := decide (y.toInt ≤ x.toInt ∧ x.toInt ≤ z.toInt)
set_option maxRecDepth 10000 in
theorem r_in {d : Nat} {h : mH} {x y z : Int32} {Q : mP} (q : Q (some (.int (bI (jIn x y z)))) h) : mWP (d + 1) 173 [.int x, .int y, .int z] h Q := by
  refine z_in [some (.int x), some (.int y), some (.int z)] (by rfl) rfl rfl rfl ?_
  refine z_iload 1 rfl rfl rfl ?_
  refine z_iload 2 rfl rfl rfl ?_
  first | refine z_nlt 5 rfl rfl (by omega) (by omega) (fun hc2 => ?_) (fun hc2 => ?_) | refine z_klt 5 rfl rfl (by omega) (fun hc2 => ?_) (fun hc2 => ?_) | refine z_hlt 5 rfl rfl (by omega) (fun hc2 => ?_) (fun hc2 => ?_) | refine z_tlt 5 rfl rfl (fun hc2 => ?_) (fun hc2 => ?_)
  · refine z_push 15 (nI 0) rfl rfl rfl ?_
    refine z_iretb rfl (Nat.le_refl _) (Nat.le_refl _) (by first | decide | exact bI_01 _) ?_
    first | exact zq q (by rw [show jIn x y z = true from decide_eq_true (by omega)]; rfl) | exact zq q (by rw [show jIn x y z = false from decide_eq_false (by omega)]; rfl)
  · refine z_iload 6 rfl rfl rfl ?_
    refine z_iload 7 rfl rfl rfl ?_
    first | refine z_ngt 10 rfl rfl (by omega) (by omega) (fun hc7 => ?_) (fun hc7 => ?_) | refine z_kgt 10 rfl rfl (by omega) (fun hc7 => ?_) (fun hc7 => ?_) | refine z_hgt 10 rfl rfl (by omega) (fun hc7 => ?_) (fun hc7 => ?_) | refine z_tgt 10 rfl rfl (fun hc7 => ?_) (fun hc7 => ?_)
    · refine z_push 15 (nI 0) rfl rfl rfl ?_
      refine z_iretb rfl (Nat.le_refl _) (Nat.le_refl _) (by first | decide | exact bI_01 _) ?_
      first | exact zq q (by rw [show jIn x y z = true from decide_eq_true (by omega)]; rfl) | exact zq q (by rw [show jIn x y z = false from decide_eq_false (by omega)]; rfl)
    · refine z_push 11 (nI 1) rfl rfl rfl ?_
      refine z_goto rfl ?_
      refine z_iretb rfl (Nat.le_refl _) (Nat.le_refl _) (by first | decide | exact bI_01 _) ?_
      first | exact zq q (by rw [show jIn x y z = true from decide_eq_true (by omega)]; rfl) | exact zq q (by rw [show jIn x y z = false from decide_eq_false (by omega)]; rfl)
