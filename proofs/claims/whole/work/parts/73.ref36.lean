/-! the reference: sumOf -/
theorem lN_rem {a : Nat} (h : a < 2 ^ 31) : lN a - lN a / 65521 * 65521 = lN (a % 65521) := by
  have e : lN a / 65521 = lN (a / 65521) := by
    apply Int64.toInt_inj.mp
    rw [Int64.toInt_div, lN_toInt h, lN_toInt (by omega)]
    show (Int.tdiv (a : Int) 65521).bmod _ = _
    rw [show Int.tdiv (a : Int) 65521 = ((a / 65521 : Nat) : Int) from rfl]
    apply Int.bmod_eq_of_le <;> omega
  rw [e]
  show lN a - lN (a / 65521) * lN 65521 = _
  rw [lN_mul, lN_sub (by omega)]
  congr 1
  omega
/-- the sum over a row's first places -/
def smN (bs : List Nat) : Nat → Nat
  | 0 => 0
  | i + 1 => smN bs i + (i + 1) * bs.getD i 0
theorem smN_b {bs : List Nat} (hb : ∀ j, bs.getD j 0 < 256) : ∀ i, i ≤ 2000 → smN bs i ≤ i * 512000
  | 0, _ => Nat.le_refl _
  | i + 1, h => by
    have h1 := smN_b hb i (by omega)
    have h2 : (i + 1) * bs.getD i 0 ≤ 2000 * 256 := Nat.mul_le_mul h (Nat.le_of_lt (hb i))
    rw [smN]
    omega
set_option maxRecDepth 10000 in
theorem r_sumOf {d r : Nat} {h h0 : mH} {s : rS} {n f ok on : Nat} {bs : List Nat} {Q : mP} (hR : Rf r h0 s h) (hs : ∀ j, j < n → s.2.2 f j = bs.getD j 0) (ha : rArr f = some (ok, 0, on)) (hn : n ≤ on) (hn2 : n ≤ 2000) (hb : ∀ j, bs.getD j 0 < 256)  (q : Q (some (.int (nI (smN bs n % 65521)))) h) : mWP (d + 1) 253 [.ref r, .ref (r + ok), .int (nI n)] h Q := by
  have loop : ∀ m9 i, n < i + m9 → i ≤ n → mZ d tk_253 0 0 Q 5 [some (.ref r), some (.ref (r + ok)), some (.int (nI n)), some (.long (lN (smN bs i))), none, some (.int (nI i))] [] h 0 0 := by
    intro m9
    induction m9 with
    | zero => intro i h1 h2; omega
    | succ m9 ih =>
      intro i h1 h2
      have hb0 := hb i
      have hsi := smN_b hb i (by omega)
      refine z_iload 7 rfl rfl rfl ?_
      refine z_iload 8 rfl rfl rfl ?_
      refine z_nge 11 rfl rfl (by omega) (by omega) (fun hc8 => ?_) (fun hc8 => ?_)
      · refine z_lload 32 rfl rfl rfl ?_
        refine z_pushl 35 (65521) rfl rfl rfl ?_
        refine z_lrem 36 _ rfl rfl (by decide) (lN_rem (by omega)) ?_
        refine z_l2i 37 rfl rfl ?_
        refine z_ireti rfl (Nat.le_refl _) (Nat.le_refl _) ?_
        obtain rfl : i = n := by omega
        rw [lN_i]
        exact q
      · refine z_lload 12 rfl rfl rfl ?_
        refine z_iload 14 rfl rfl rfl ?_
        refine z_i2l 15 rfl rfl ?_
        refine z_pushl 16 (1) rfl rfl rfl ?_
        refine z_lop 17 _ rfl rfl (show (nI i).toInt64 + 1 = lN (i + 1) by rw [nI_l (by omega), lN_1]) ?_
        refine z_aload 18 rfl rfl rfl ?_
        refine z_iload 20 rfl rfl rfl ?_
        refine y_al (f := f) 21 _ hR rfl rfl ha rfl (by omega) (by repeat (first | with_reducible exact hs i (by omega) | with_reducible exact gA_eq _ _ _ _ | (with_reducible apply gA_ne; decide) | with_reducible apply gA_I | with_reducible apply gA_O | (with_reducible apply gA_nj; omega) | with_reducible rfl)) ?_
        refine z_i2l 22 rfl rfl ?_
        refine z_lop 23 _ rfl rfl (show lN (i + 1) * (nI (bs.getD i 0)).toInt64 = lN ((i + 1) * bs.getD i 0) by rw [nI_l (by omega), lN_mul]) ?_
        refine z_lop 24 _ rfl rfl (show lN (smN bs i) + lN ((i + 1) * bs.getD i 0) = lN (smN bs (i + 1)) from lN_add _ _) ?_
        refine z_lstore 25 rfl rfl rfl rfl ?_
        refine z_iinc 28 _ rfl rfl rfl rfl (by first | with_reducible exact zi_1 _ | rfl) ?_
        refine z_goto rfl ?_
        exact ih (i + 1) (by omega) (by omega)
  refine z_in [some (.ref r), some (.ref (r + ok)), some (.int (nI n)), none, none, none] (by rfl) rfl rfl rfl ?_
  refine z_pushl 1 (0) rfl rfl rfl ?_
  refine z_lstore 2 rfl rfl rfl rfl ?_
  refine z_push 3 (nI 0) rfl rfl rfl ?_
  refine z_istore 5 rfl rfl rfl rfl ?_
  exact loop (n + 1) 0 (by omega) (by omega)
