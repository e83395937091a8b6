/-! Forms: small ones; isText -/
theorem nI_or (a b : Nat) : nI a ||| nI b = nI (a ||| b) := by
  apply Int32.toBitVec_inj.mp
  show BitVec.ofNat 32 a ||| BitVec.ofNat 32 b = BitVec.ofNat 32 (a ||| b)
  rw [BitVec.ofNat_or]
theorem zo_8 {a b : Nat} (hb : b < 256) (ha : a < 65536) : mBop 4 (nI a <<< (nI 8 &&& 31)) (nI b) = nI (a * 256 + b) := by
  show (nI a <<< (nI 8 &&& 31)) ||| nI b = _
  rw [pk_shlN (nI 8 &&& 31) 8 (by decide) (by omega), nI_or]
  congr 1
  have := Nat.two_pow_add_eq_or_of_lt (i := 8) hb a
  rw [show a * 2 ^ 8 = 2 ^ 8 * a by omega, ← this]
  try omega
theorem jText_f1 {x y z : Int32} (h : jState x = false) : jText x y z = false := by simp [jText, h]
theorem jText_f2 {x y z : Int32} (h : ¬ (1 ≤ z.toInt ∧ z.toInt ≤ 3)) : jText x y z = false := by rw [jText, decide_eq_false h]; simp
theorem jText_f3 {x y z : Int32} (h : ¬ (0 ≤ y.toInt ∧ y.toInt < (nI 1 <<< ((nI 8 * z) &&& 31)).toInt)) : jText x y z = false := by rw [jText, decide_eq_false h]; simp
theorem jText_t {x y z : Int32} (h1 : jState x = true) (h2 : 1 ≤ z.toInt ∧ z.toInt ≤ 3) (h3 : 0 ≤ y.toInt ∧ y.toInt < (nI 1 <<< ((nI 8 * z) &&& 31)).toInt) : jText x y z = true := by rw [jText, h1, decide_eq_true h2, decide_eq_true h3]; rfl
def fwL (l : Nat) : Nat := if l < 128 then 1 else if l < 192 ∨ 248 ≤ l then 0 else if l < 224 then 2 else if l < 240 then 3 else 4
set_option maxRecDepth 10000 in
theorem c_fewLength {d : Nat} {h : mH} {l : Nat} {Q : mP} (hl : l < 256) (q : Q (some (.int (nI (fwL l)))) h) : mWP (d + 1) 15 [.int (nI l)] h Q := by
  refine z_in [some (.int (nI l))] (by rfl) rfl rfl rfl ?_
  refine z_iload 1 rfl rfl rfl ?_
  refine z_push 4 (nI 128) rfl rfl rfl ?_
  first | refine z_nge 7 rfl rfl (by omega) (by omega) (fun hc4 => ?_) (fun hc4 => ?_) | refine z_kge 7 rfl rfl (by omega) (fun hc4 => ?_) (fun hc4 => ?_) | refine z_hge 7 rfl rfl (by omega) (fun hc4 => ?_) (fun hc4 => ?_) | refine z_tge 7 rfl rfl (fun hc4 => ?_) (fun hc4 => ?_)
  · refine z_iload 10 rfl rfl rfl ?_
    refine z_push 13 (nI 192) rfl rfl rfl ?_
    first | refine z_nlt 16 rfl rfl (by omega) (by omega) (fun hc13 => ?_) (fun hc13 => ?_) | refine z_klt 16 rfl rfl (by omega) (fun hc13 => ?_) (fun hc13 => ?_) | refine z_hlt 16 rfl rfl (by omega) (fun hc13 => ?_) (fun hc13 => ?_) | refine z_tlt 16 rfl rfl (fun hc13 => ?_) (fun hc13 => ?_)
    · refine z_push 24 (nI 0) rfl rfl rfl ?_
      refine z_ireti rfl (Nat.le_refl _) (Nat.le_refl _) ?_
      refine zqo ?_ q
      unfold fwL
      congr 1
      (split <;> try split) <;> (try split) <;> (try split) <;> (try split) <;> omega
    · refine z_iload 17 rfl rfl rfl ?_
      refine z_push 20 (nI 248) rfl rfl rfl ?_
      first | refine z_nlt 23 rfl rfl (by omega) (by omega) (fun hc20 => ?_) (fun hc20 => ?_) | refine z_klt 23 rfl rfl (by omega) (fun hc20 => ?_) (fun hc20 => ?_) | refine z_hlt 23 rfl rfl (by omega) (fun hc20 => ?_) (fun hc20 => ?_) | refine z_tlt 23 rfl rfl (fun hc20 => ?_) (fun hc20 => ?_)
      · refine z_iload 26 rfl rfl rfl ?_
        refine z_push 29 (nI 224) rfl rfl rfl ?_
        first | refine z_nge 32 rfl rfl (by omega) (by omega) (fun hc29 => ?_) (fun hc29 => ?_) | refine z_kge 32 rfl rfl (by omega) (fun hc29 => ?_) (fun hc29 => ?_) | refine z_hge 32 rfl rfl (by omega) (fun hc29 => ?_) (fun hc29 => ?_) | refine z_tge 32 rfl rfl (fun hc29 => ?_) (fun hc29 => ?_)
        · refine z_iload 35 rfl rfl rfl ?_
          refine z_push 38 (nI 240) rfl rfl rfl ?_
          first | refine z_nge 41 rfl rfl (by omega) (by omega) (fun hc38 => ?_) (fun hc38 => ?_) | refine z_kge 41 rfl rfl (by omega) (fun hc38 => ?_) (fun hc38 => ?_) | refine z_hge 41 rfl rfl (by omega) (fun hc38 => ?_) (fun hc38 => ?_) | refine z_tge 41 rfl rfl (fun hc38 => ?_) (fun hc38 => ?_)
          · refine z_push 46 (nI 4) rfl rfl rfl ?_
            refine z_ireti rfl (Nat.le_refl _) (Nat.le_refl _) ?_
            refine zqo ?_ q
            unfold fwL
            congr 1
            (split <;> try split) <;> (try split) <;> (try split) <;> (try split) <;> omega
          · refine z_push 42 (nI 3) rfl rfl rfl ?_
            refine z_goto rfl ?_
            refine z_ireti rfl (Nat.le_refl _) (Nat.le_refl _) ?_
            refine zqo ?_ q
            unfold fwL
            congr 1
            (split <;> try split) <;> (try split) <;> (try split) <;> (try split) <;> omega
        · refine z_push 33 (nI 2) rfl rfl rfl ?_
          refine z_ireti rfl (Nat.le_refl _) (Nat.le_refl _) ?_
          refine zqo ?_ q
          unfold fwL
          congr 1
          (split <;> try split) <;> (try split) <;> (try split) <;> (try split) <;> omega
      · refine z_push 24 (nI 0) rfl rfl rfl ?_
        refine z_ireti rfl (Nat.le_refl _) (Nat.le_refl _) ?_
        refine zqo ?_ q
        unfold fwL
        congr 1
        (split <;> try split) <;> (try split) <;> (try split) <;> (try split) <;> omega
  · refine z_push 8 (nI 1) rfl rfl rfl ?_
    refine z_ireti rfl (Nat.le_refl _) (Nat.le_refl _) ?_
    refine zqo ?_ q
    unfold fwL
    congr 1
    (split <;> try split) <;> (try split) <;> (try split) <;> (try split) <;> omega
def uAt (hi : Bool) (f : Nat → Nat) (a : Nat) : Nat := if hi = true then f a * 256 + f (a + 1) else f (a + 1) * 256 + f a
set_option maxRecDepth 10000 in
theorem c_unitAt {d : Nat} {h : mH} {v n a : Nat} {hi : Bool} {f : Nat → Nat} {Q : mP} (h2 : h.2 v = aI n (fun j => nI (f j))) (hn : n < 2 ^ 31) (ha : a + 1 < n) (hf : ∀ j, j < n → f j < 256) (q : Q (some (.int (nI (uAt hi f a)))) h) : mWP (d + 1) 13 [.int (bI hi), .ref v, .int (nI a)] h Q := by
  refine z_in [some (.int (bI hi)), some (.ref v), some (.int (nI a))] (by rfl) rfl rfl rfl ?_
  refine z_iload 1 rfl rfl rfl ?_
  first | refine z_beq 4 rfl rfl (fun hc1 => ?_) (fun hc1 => ?_)
  · refine z_aload 20 rfl rfl rfl ?_
    refine z_iload 21 rfl rfl rfl ?_
    refine z_push 22 (nI 1) rfl rfl rfl ?_
    refine z_bop 23 _ rfl rfl (by first | with_reducible exact zb_0 _ _ | exact zd_0 _ _) ?_
    refine z_ald 24 rfl rfl h2 rfl (by omega) (by omega) ?_
    refine z_push 26 (nI 8) rfl rfl rfl ?_
    refine z_bop 27 _ rfl rfl (zd_6 _ _) ?_
    refine z_aload 28 rfl rfl rfl ?_
    refine z_iload 29 rfl rfl rfl ?_
    refine z_ald 30 rfl rfl h2 rfl (by omega) (by omega) ?_
    refine z_bop 31 _ rfl rfl (zo_8 (hf _ (by omega)) (by have := hf (a + 1) (by omega); omega)) ?_
    refine z_ireti rfl (Nat.le_refl _) (Nat.le_refl _) ?_
    first | (refine zqo ?_ q; rw [hc1]; rfl) | (refine zqo ?_ q; rw [hc1]; rfl)
  · refine z_aload 5 rfl rfl rfl ?_
    refine z_iload 6 rfl rfl rfl ?_
    refine z_ald 7 rfl rfl h2 rfl (by omega) (by omega) ?_
    refine z_push 9 (nI 8) rfl rfl rfl ?_
    refine z_bop 10 _ rfl rfl (zd_6 _ _) ?_
    refine z_aload 11 rfl rfl rfl ?_
    refine z_iload 12 rfl rfl rfl ?_
    refine z_push 13 (nI 1) rfl rfl rfl ?_
    refine z_bop 14 _ rfl rfl (by first | with_reducible exact zb_0 _ _ | exact zd_0 _ _) ?_
    refine z_ald 15 rfl rfl h2 rfl (by omega) (by omega) ?_
    refine z_bop 16 _ rfl rfl (zo_8 (hf _ (by omega)) (by have := hf a (by omega); omega)) ?_
    refine z_goto rfl ?_
    refine z_ireti rfl (Nat.le_refl _) (Nat.le_refl _) ?_
    first | (refine zqo ?_ q; rw [hc1]; rfl) | (refine zqo ?_ q; rw [hc1]; rfl)
set_option maxRecDepth 10000 in
theorem c_isText {d : Nat} {h : mH} {x y z : Int32} {Q : mP} (q : Q (some (.int (bI (jText x y z)))) h) : mWP (d + 2) 148 [.int x, .int y, .int z] h Q := by
  refine z_in [some (.int x), some (.int y), some (.int z)] (by rfl) rfl rfl rfl ?_
  refine z_iload 1 rfl rfl rfl ?_
  refine z_cs 4 _ rfl rfl rfl rfl rfl rfl (Nat.le_refl _) (Nat.le_refl _) ?_
  refine c_isState ?_
  first | refine z_beq 7 rfl rfl (fun hc4 => ?_) (fun hc4 => ?_) | refine z_zeq 7 rfl rfl (by omega) (fun hc4 => ?_) (fun hc4 => ?_) | refine z_jeq 7 rfl rfl (fun hc4 => ?_) (fun hc4 => ?_)
  · refine z_push 36 (nI 0) rfl rfl rfl ?_
    refine z_iretb rfl (Nat.le_refl _) (Nat.le_refl _) (by first | decide | exact bI_01 _) ?_
    first
    | (refine zqo ?_ q; rw [jText_f2 (by omega)]; rfl)
    | (refine zqo ?_ q; rw [jText_f3 (by omega)]; rfl)
    | (refine zqo ?_ q; rw [jText_t hc4 (by omega) (by omega)]; rfl)
    | (refine zqo ?_ q; rw [jText_f1 hc4]; rfl)
  · refine z_iload 8 rfl rfl rfl ?_
    refine z_push 9 (nI 1) rfl rfl rfl ?_
    first | refine z_nlt 12 rfl rfl (by omega) (by omega) (fun hc9 => ?_) (fun hc9 => ?_) | refine z_klt 12 rfl rfl (by omega) (fun hc9 => ?_) (fun hc9 => ?_) | refine z_hlt 12 rfl rfl (by omega) (fun hc9 => ?_) (fun hc9 => ?_) | refine z_tlt 12 rfl rfl (fun hc9 => ?_) (fun hc9 => ?_)
    · refine z_push 36 (nI 0) rfl rfl rfl ?_
      refine z_iretb rfl (Nat.le_refl _) (Nat.le_refl _) (by first | decide | exact bI_01 _) ?_
      first
      | (refine zqo ?_ q; rw [jText_f2 (by omega)]; rfl)
      | (refine zqo ?_ q; rw [jText_f3 (by omega)]; rfl)
      | (refine zqo ?_ q; rw [jText_t hc4 (by omega) (by omega)]; rfl)
      | (refine zqo ?_ q; rw [jText_f1 hc4]; rfl)
    · refine z_iload 13 rfl rfl rfl ?_
      refine z_push 14 (nI 3) rfl rfl rfl ?_
      first | refine z_ngt 17 rfl rfl (by omega) (by omega) (fun hc14 => ?_) (fun hc14 => ?_) | refine z_kgt 17 rfl rfl (by omega) (fun hc14 => ?_) (fun hc14 => ?_) | refine z_hgt 17 rfl rfl (by omega) (fun hc14 => ?_) (fun hc14 => ?_) | refine z_tgt 17 rfl rfl (fun hc14 => ?_) (fun hc14 => ?_)
      · refine z_push 36 (nI 0) rfl rfl rfl ?_
        refine z_iretb rfl (Nat.le_refl _) (Nat.le_refl _) (by first | decide | exact bI_01 _) ?_
        first
        | (refine zqo ?_ q; rw [jText_f2 (by omega)]; rfl)
        | (refine zqo ?_ q; rw [jText_f3 (by omega)]; rfl)
        | (refine zqo ?_ q; rw [jText_t hc4 (by omega) (by omega)]; rfl)
        | (refine zqo ?_ q; rw [jText_f1 hc4]; rfl)
      · refine z_iload 18 rfl rfl rfl ?_
        first | refine z_zlt 21 rfl rfl (by omega) (fun hc18 => ?_) (fun hc18 => ?_) | refine z_jlt 21 rfl rfl (fun hc18 => ?_) (fun hc18 => ?_)
        · refine z_push 36 (nI 0) rfl rfl rfl ?_
          refine z_iretb rfl (Nat.le_refl _) (Nat.le_refl _) (by first | decide | exact bI_01 _) ?_
          first
          | (refine zqo ?_ q; rw [jText_f2 (by omega)]; rfl)
          | (refine zqo ?_ q; rw [jText_f3 (by omega)]; rfl)
          | (refine zqo ?_ q; rw [jText_t hc4 (by omega) (by omega)]; rfl)
          | (refine zqo ?_ q; rw [jText_f1 hc4]; rfl)
        · refine z_iload 22 rfl rfl rfl ?_
          refine z_push 23 (nI 1) rfl rfl rfl ?_
          refine z_push 25 (nI 8) rfl rfl rfl ?_
          refine z_iload 26 rfl rfl rfl ?_
          refine z_bop 27 _ rfl rfl (by first | with_reducible exact zb_2 _ _ | exact zd_2 _ _) ?_
          refine z_bop 28 _ rfl rfl (zd_6 _ _) ?_
          refine z_tge 31 rfl rfl (fun hc28 => ?_) (fun hc28 => ?_)
          · refine z_push 36 (nI 0) rfl rfl rfl ?_
            refine z_iretb rfl (Nat.le_refl _) (Nat.le_refl _) (by first | decide | exact bI_01 _) ?_
            first
            | (refine zqo ?_ q; rw [jText_f2 (by omega)]; rfl)
            | (refine zqo ?_ q; rw [jText_f3 (by omega)]; rfl)
            | (refine zqo ?_ q; rw [jText_t hc4 (by omega) (by omega)]; rfl)
            | (refine zqo ?_ q; rw [jText_f1 hc4]; rfl)
          · refine z_push 32 (nI 1) rfl rfl rfl ?_
            refine z_goto rfl ?_
            refine z_iretb rfl (Nat.le_refl _) (Nat.le_refl _) (by first | decide | exact bI_01 _) ?_
            first
            | (refine zqo ?_ q; rw [jText_f2 (by omega)]; rfl)
            | (refine zqo ?_ q; rw [jText_f3 (by omega)]; rfl)
            | (refine zqo ?_ q; rw [jText_t hc4 (by omega) (by omega)]; rfl)
            | (refine zqo ?_ q; rw [jText_f1 hc4]; rfl)
