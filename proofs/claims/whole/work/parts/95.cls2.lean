/-! the class: texts of the built-in forms -/
theorem lori {a b : Nat} (k : Nat) (ha : a % 2 ^ k = 0) (hb : b < 2 ^ k) (hb2 : b < 2 ^ 31) : mLop 4 (lN a) (nI b).toInt64 = lN (a + b) := by
  rw [nI_l hb2]; exact lor_n ha hb
theorem lshi {a k : Nat} (hk : k < 64) (ha : a < 2 ^ 31) : mLsh 0 (nI a).toInt64 (nI k) = lN (a * 2 ^ k) := by
  rw [nI_l ha]; exact lsh_n hk
def LT (n v : Nat) : Int64 := lN (n * 2 ^ 32 + v)
set_option maxRecDepth 100000 in
theorem c_fewText {d : Nat} {h : mH} {pt : Nat} {Q : mP} (hp : pt < 1114112)  (q : Q (some (.long (LT (fwN pt) (fwV pt)))) h) : mWP (d + 1) 10 [.int (nI pt)] h Q := by
  refine z_in [some (.int (nI pt)), none, none, none, none, none] (by rfl) rfl rfl rfl ?_
  refine z_iload 1 rfl rfl rfl ?_
  refine z_push 4 (nI 128) rfl rfl rfl ?_
  refine z_nge 7 rfl rfl (by omega) (by omega) (fun hc4 => ?_) (fun hc4 => ?_)
  · refine z_push 17 (nI 128) rfl rfl rfl ?_
    refine z_iload 18 rfl rfl rfl ?_
    refine z_push 20 (nI 63) rfl rfl rfl ?_
    refine z_bop 21 _ rfl rfl (and_n (by omega) 6 (by decide)) ?_
    refine z_bop 22 _ rfl rfl (or_n (k := 6) (by omega) (by omega)) ?_
    refine z_istore 23 rfl rfl rfl rfl ?_
    refine z_push 26 (nI 128) rfl rfl rfl ?_
    refine z_iload 27 rfl rfl rfl ?_
    refine z_push 29 (nI 6) rfl rfl rfl ?_
    refine z_bop 30 _ rfl rfl (shr_n (by omega) 6 (by decide)) ?_
    refine z_push 32 (nI 63) rfl rfl rfl ?_
    refine z_bop 33 _ rfl rfl (and_n (by omega) 6 (by decide)) ?_
    refine z_bop 34 _ rfl rfl (or_n (k := 6) (by omega) (by omega)) ?_
    refine z_istore 35 rfl rfl rfl rfl ?_
    refine z_iload 36 rfl rfl rfl ?_
    refine z_push 39 (nI 2048) rfl rfl rfl ?_
    refine z_nge 42 rfl rfl (by omega) (by omega) (fun hc39 => ?_) (fun hc39 => ?_)
    · refine z_iload 63 rfl rfl rfl ?_
      refine z_push 65 (nI 65536) rfl rfl rfl ?_
      refine z_nge 68 rfl rfl (by omega) (by omega) (fun hc65 => ?_) (fun hc65 => ?_)
      · refine z_push 97 (nI 128) rfl rfl rfl ?_
        refine z_iload 98 rfl rfl rfl ?_
        refine z_push 100 (nI 12) rfl rfl rfl ?_
        refine z_bop 101 _ rfl rfl (shr_n (by omega) 12 (by decide)) ?_
        refine z_push 103 (nI 63) rfl rfl rfl ?_
        refine z_bop 104 _ rfl rfl (and_n (by omega) 6 (by decide)) ?_
        refine z_bop 105 _ rfl rfl (or_n (k := 6) (by omega) (by omega)) ?_
        refine z_istore 106 rfl rfl rfl rfl ?_
        refine z_push 109 (nI 240) rfl rfl rfl ?_
        refine z_iload 110 rfl rfl rfl ?_
        refine z_push 112 (nI 18) rfl rfl rfl ?_
        refine z_bop 113 _ rfl rfl (shr_n (by omega) 18 (by decide)) ?_
        refine z_bop 114 _ rfl rfl (or_n (k := 4) (by omega) (by omega)) ?_
        refine z_i2l 115 rfl rfl ?_
        refine z_lstore 117 rfl rfl rfl rfl ?_
        refine z_pushl 120 (lN 17179869184) rfl rfl rfl ?_
        refine z_lload 122 rfl rfl rfl ?_
        refine z_push 124 (nI 24) rfl rfl rfl ?_
        refine z_lsh 125 _ rfl rfl (lshi (by decide) (by omega)) ?_
        refine z_lop 126 _ rfl rfl (lor_n (k := 32) (by omega) (by omega)) ?_
        refine z_iload 127 rfl rfl rfl ?_
        refine z_push 129 (nI 16) rfl rfl rfl ?_
        refine z_bop 130 _ rfl rfl (shl_n 16 (by decide) (by omega)) ?_
        refine z_i2l 131 rfl rfl ?_
        refine z_lop 132 _ rfl rfl (lori 24 (by omega) (by omega) (by omega)) ?_
        refine z_iload 133 rfl rfl rfl ?_
        refine z_push 135 (nI 8) rfl rfl rfl ?_
        refine z_bop 136 _ rfl rfl (shl_n 8 (by decide) (by omega)) ?_
        refine z_i2l 137 rfl rfl ?_
        refine z_lop 138 _ rfl rfl (lori 16 (by omega) (by omega) (by omega)) ?_
        refine z_iload 139 rfl rfl rfl ?_
        refine z_i2l 140 rfl rfl ?_
        refine z_lop 141 _ rfl rfl (lori 8 (by omega) (by omega) (by omega)) ?_
        refine z_lret rfl (Nat.le_refl _) (Nat.le_refl _) ?_
        have e9 : LT (fwN pt) (fwV pt) = lN (17179869184 + (240 + pt / 2 ^ 18) * 2 ^ 24 + (128 + pt / 2 ^ 12 % 2 ^ 6) * 2 ^ 16 + (128 + pt / 2 ^ 6 % 2 ^ 6) * 2 ^ 8 + (128 + pt % 2 ^ 6)) := by
          unfold LT
          rw [show fwN pt * 2 ^ 32 + fwV pt = 17179869184 + (240 + pt / 2 ^ 18) * 2 ^ 24 + (128 + pt / 2 ^ 12 % 2 ^ 6) * 2 ^ 16 + (128 + pt / 2 ^ 6 % 2 ^ 6) * 2 ^ 8 + (128 + pt % 2 ^ 6) from by
            unfold fwN fwV
            rw [if_neg (by omega), if_neg (by omega), if_neg (by omega), if_neg (by omega), if_neg (by omega), if_neg (by omega)]
            omega]
        rw [e9] at q
        exact q
      · refine z_pushl 71 (lN 12884901888) rfl rfl rfl ?_
        refine z_push 74 (nI 224) rfl rfl rfl ?_
        refine z_iload 75 rfl rfl rfl ?_
        refine z_push 77 (nI 12) rfl rfl rfl ?_
        refine z_bop 78 _ rfl rfl (shr_n (by omega) 12 (by decide)) ?_
        refine z_bop 79 _ rfl rfl (or_n (k := 5) (by omega) (by omega)) ?_
        refine z_push 81 (nI 16) rfl rfl rfl ?_
        refine z_bop 82 _ rfl rfl (shl_n 16 (by decide) (by omega)) ?_
        refine z_i2l 83 rfl rfl ?_
        refine z_lop 84 _ rfl rfl (lori 32 (by omega) (by omega) (by omega)) ?_
        refine z_iload 85 rfl rfl rfl ?_
        refine z_push 87 (nI 8) rfl rfl rfl ?_
        refine z_bop 88 _ rfl rfl (shl_n 8 (by decide) (by omega)) ?_
        refine z_i2l 89 rfl rfl ?_
        refine z_lop 90 _ rfl rfl (lori 16 (by omega) (by omega) (by omega)) ?_
        refine z_iload 91 rfl rfl rfl ?_
        refine z_i2l 92 rfl rfl ?_
        refine z_lop 93 _ rfl rfl (lori 8 (by omega) (by omega) (by omega)) ?_
        refine z_lret rfl (Nat.le_refl _) (Nat.le_refl _) ?_
        have e9 : LT (fwN pt) (fwV pt) = lN (12884901888 + (224 + pt / 2 ^ 12) * 2 ^ 16 + (128 + pt / 2 ^ 6 % 2 ^ 6) * 2 ^ 8 + (128 + pt % 2 ^ 6)) := by
          unfold LT
          rw [show fwN pt * 2 ^ 32 + fwV pt = 12884901888 + (224 + pt / 2 ^ 12) * 2 ^ 16 + (128 + pt / 2 ^ 6 % 2 ^ 6) * 2 ^ 8 + (128 + pt % 2 ^ 6) from by
            unfold fwN fwV
            rw [if_neg (by omega), if_neg (by omega), if_pos (by omega), if_neg (by omega), if_neg (by omega), if_pos (by omega)]
            omega]
        rw [e9] at q
        exact q
    · refine z_pushl 45 (lN 8589934592) rfl rfl rfl ?_
      refine z_push 48 (nI 192) rfl rfl rfl ?_
      refine z_iload 49 rfl rfl rfl ?_
      refine z_push 51 (nI 6) rfl rfl rfl ?_
      refine z_bop 52 _ rfl rfl (shr_n (by omega) 6 (by decide)) ?_
      refine z_bop 53 _ rfl rfl (or_n (k := 6) (by omega) (by omega)) ?_
      refine z_push 55 (nI 8) rfl rfl rfl ?_
      refine z_bop 56 _ rfl rfl (shl_n 8 (by decide) (by omega)) ?_
      refine z_i2l 57 rfl rfl ?_
      refine z_lop 58 _ rfl rfl (lori 32 (by omega) (by omega) (by omega)) ?_
      refine z_iload 59 rfl rfl rfl ?_
      refine z_i2l 60 rfl rfl ?_
      refine z_lop 61 _ rfl rfl (lori 8 (by omega) (by omega) (by omega)) ?_
      refine z_lret rfl (Nat.le_refl _) (Nat.le_refl _) ?_
      have e9 : LT (fwN pt) (fwV pt) = lN (8589934592 + (192 + pt / 2 ^ 6) * 2 ^ 8 + (128 + pt % 2 ^ 6)) := by
        unfold LT
        rw [show fwN pt * 2 ^ 32 + fwV pt = 8589934592 + (192 + pt / 2 ^ 6) * 2 ^ 8 + (128 + pt % 2 ^ 6) from by
          unfold fwN fwV
          rw [if_neg (by omega), if_pos (by omega), if_neg (by omega), if_pos (by omega)]
          omega]
      rw [e9] at q
      exact q
  · refine z_pushl 10 (lN 4294967296) rfl rfl rfl ?_
    refine z_iload 11 rfl rfl rfl ?_
    refine z_i2l 12 rfl rfl ?_
    refine z_lop 13 _ rfl rfl (lori 32 (by omega) (by omega) (by omega)) ?_
    refine z_lret rfl (Nat.le_refl _) (Nat.le_refl _) ?_
    have e9 : LT (fwN pt) (fwV pt) = lN (4294967296 + pt) := by
      unfold LT
      rw [show fwN pt * 2 ^ 32 + fwV pt = 4294967296 + pt from by
        unfold fwN fwV
        rw [if_pos (by omega), if_pos (by omega)]]
    rw [e9] at q
    exact q
theorem uTx_b {k u : Nat} (h : u < 65536) : uTx k u < 65536 := by unfold uTx; split <;> omega
set_option maxRecDepth 100000 in
theorem c_textOf {d : Nat} {h : mH} {K pt : Nat} {Q : mP} (hK : 1 ≤ K) (hK3 : K ≤ 3) (hp : pt < 1114112)  (q : Q (some (.long (LT (fmT K pt).1 (fmT K pt).2))) h) : mWP (d + 2) 8 [.int (nI K), .int (nI pt)] h Q := by
  refine z_in [some (.int (nI K)), some (.int (nI pt)), none, none, none, none] (by rfl) rfl rfl rfl ?_
  refine z_iload 1 rfl rfl rfl ?_
  refine z_push 2 (nI 3) rfl rfl rfl ?_
  refine z_nne 5 rfl rfl (by omega) (by omega) (fun hc2 => ?_) (fun hc2 => ?_)
  · refine z_iload 11 rfl rfl rfl ?_
    refine z_push 13 (nI 65536) rfl rfl rfl ?_
    refine z_nge 16 rfl rfl (by omega) (by omega) (fun hc13 => ?_) (fun hc13 => ?_)
    · refine z_iload 28 rfl rfl rfl ?_
      refine z_push 30 (nI 55296) rfl rfl rfl ?_
      refine z_iload 31 rfl rfl rfl ?_
      refine z_push 33 (nI 65536) rfl rfl rfl ?_
      refine z_bop 34 _ rfl rfl (by first | with_reducible exact zb_1 (by omega) | exact zd_1 _ _) ?_
      refine z_push 37 (nI 1024) rfl rfl rfl ?_
      refine z_idiv 38 _ rfl rfl (by decide) (pk_div (by omega) (by omega) (by omega)) ?_
      refine z_bop 39 _ rfl rfl (by first | with_reducible exact zb_0 _ _ | exact zd_0 _ _) ?_
      refine z_cs2 42 rfl rfl rfl (Nat.le_refl _) (Nat.le_refl _) ?_
      refine c_unitText (by omega) (by omega) ?_
      have hu1 := uTx_b (k := K) (u := 55296 + (pt - 65536) / 1024) (by omega)
      refine z_i2l 43 rfl rfl ?_
      refine z_lstore 44 rfl rfl rfl rfl ?_
      refine z_iload 45 rfl rfl rfl ?_
      refine z_push 47 (nI 56320) rfl rfl rfl ?_
      refine z_iload 48 rfl rfl rfl ?_
      refine z_push 50 (nI 65536) rfl rfl rfl ?_
      refine z_bop 51 _ rfl rfl (by first | with_reducible exact zb_1 (by omega) | exact zd_1 _ _) ?_
      refine z_push 54 (nI 1024) rfl rfl rfl ?_
      refine z_irem 55 _ rfl rfl (by decide) (pk_rem (by omega) (by omega) (by omega)) ?_
      refine z_bop 56 _ rfl rfl (by first | with_reducible exact zb_0 _ _ | exact zd_0 _ _) ?_
      refine z_cs2 59 rfl rfl rfl (Nat.le_refl _) (Nat.le_refl _) ?_
      refine c_unitText (by omega) (by omega) ?_
      have hu2 := uTx_b (k := K) (u := 56320 + (pt - 65536) % 1024) (by omega)
      refine z_i2l 60 rfl rfl ?_
      refine z_lstore 62 rfl rfl rfl rfl ?_
      refine z_pushl 65 (lN 17179869184) rfl rfl rfl ?_
      refine z_lload 66 rfl rfl rfl ?_
      refine z_push 68 (nI 16) rfl rfl rfl ?_
      refine z_lsh 69 _ rfl rfl (lshi (by decide) (by omega)) ?_
      refine z_lop 70 _ rfl rfl (lor_n (k := 32) (by omega) (by omega)) ?_
      refine z_lload 72 rfl rfl rfl ?_
      refine z_lop 73 _ rfl rfl (lori 16 (by omega) (by omega) (by omega)) ?_
      refine z_lret rfl (Nat.le_refl _) (Nat.le_refl _) ?_
      have e9 : LT (fmT K pt).1 (fmT K pt).2 = lN (17179869184 + uTx K (55296 + (pt - 65536) / 1024) * 2 ^ 16 + uTx K (56320 + (pt - 65536) % 1024)) := by
        unfold LT fmT
        rw [if_neg (by omega), if_neg (by omega)]
        show lN (4 * 2 ^ 32 + (uTx K (55296 + (pt - 65536) / 1024) * 65536 + uTx K (56320 + (pt - 65536) % 1024))) = _
        rw [show 4 * 2 ^ 32 + (uTx K (55296 + (pt - 65536) / 1024) * 65536 + uTx K (56320 + (pt - 65536) % 1024)) = 17179869184 + uTx K (55296 + (pt - 65536) / 1024) * 2 ^ 16 + uTx K (56320 + (pt - 65536) % 1024) by omega]
      rw [e9] at q
      exact q
    · refine z_pushl 19 (lN 8589934592) rfl rfl rfl ?_
      refine z_iload 20 rfl rfl rfl ?_
      refine z_iload 21 rfl rfl rfl ?_
      refine z_cs2 24 rfl rfl rfl (Nat.le_refl _) (Nat.le_refl _) ?_
      refine c_unitText (by omega) (by omega) ?_
      have hu1 := uTx_b (k := K) (u := pt) (by omega)
      refine z_i2l 25 rfl rfl ?_
      refine z_lop 26 _ rfl rfl (lori 32 (by omega) (by omega) (by omega)) ?_
      refine z_lret rfl (Nat.le_refl _) (Nat.le_refl _) ?_
      have e9 : LT (fmT K pt).1 (fmT K pt).2 = lN (8589934592 + uTx K pt) := by
        unfold LT fmT
        rw [if_neg (by omega), if_pos (by omega)]
        show lN (2 * 2 ^ 32 + uTx K pt) = _
        rw [show 2 * 2 ^ 32 = 8589934592 by decide]
      rw [e9] at q
      exact q
  · refine z_iload 6 rfl rfl rfl ?_
    refine z_cs1 9 rfl rfl rfl (Nat.le_refl _) (Nat.le_refl _) ?_
    obtain rfl : K = 3 := by omega
    refine c_fewText hp ?_
    refine z_lret rfl (Nat.le_refl _) (Nat.le_refl _) ?_
    exact q
