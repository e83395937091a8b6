/-! Row: numberAt, pointAt, isSame; isText; Found -/
theorem zqo {Q : mP} {h : mH} {x y : Int32} (e : x = y) (q : Q (some (.int x)) h) : Q (some (.int y)) h := by rw [← e]; exact q
set_option maxRecDepth 10000 in
theorem c_Row_numberAt {d : Nat} {h : mH} {r v n c a k : Nat} {f : Nat → Int32} {Q : mP} (h1 : h.2 r = oRow v (nI c)) (h2 : h.2 v = aI n f) (hn : n < 2 ^ 31) (hc : c ≤ n) (ha : a ≤ c) (hk : k < 2 ^ 31) (q : a + k ≤ c → Q (some (.int (packN f a k))) h) (q0 : c < a + k → Q (some (.int (-1))) h) : mWP (d + 2) 76 [.ref r, .int (nI a), .int (nI k)] h Q := by
  refine z_in [some (.ref r), some (.int (nI a)), some (.int (nI k))] (by rfl) rfl rfl rfl ?_
  refine z_iload 1 rfl rfl rfl ?_
  first | refine z_zlt 4 rfl rfl (by omega) (fun hc1 => ?_) (fun hc1 => ?_) | refine z_jlt 4 rfl rfl (fun hc1 => ?_) (fun hc1 => ?_)
  · first | skip | exact absurd hc1 (by omega)
    refine z_push 27 (-1) rfl rfl rfl ?_
    refine z_ireti rfl (Nat.le_refl _) (Nat.le_refl _) ?_
    first | exact q (by omega) | exact q0 (by omega) | exact absurd hc1 (by omega)
  · refine z_iload 5 rfl rfl rfl ?_
    refine z_aload 6 rfl rfl rfl ?_
    refine z_get 9 rfl rfl h1 rfl ?_
    refine z_iload 10 rfl rfl rfl ?_
    refine z_bop 11 _ rfl rfl (by first | with_reducible exact zb_1 (by omega) | exact zd_1 _ _) ?_
    first | refine z_ngt 14 rfl rfl (by omega) (by omega) (fun hc11 => ?_) (fun hc11 => ?_) | refine z_kgt 14 rfl rfl (by omega) (fun hc11 => ?_) (fun hc11 => ?_) | refine z_hgt 14 rfl rfl (by omega) (fun hc11 => ?_) (fun hc11 => ?_) | refine z_tgt 14 rfl rfl (fun hc11 => ?_) (fun hc11 => ?_)
    · first | skip | exact absurd hc1 (by omega)
      refine z_push 27 (-1) rfl rfl rfl ?_
      refine z_ireti rfl (Nat.le_refl _) (Nat.le_refl _) ?_
      first | exact q (by omega) | exact q0 (by omega) | exact absurd hc1 (by omega)
    · refine z_aload 15 rfl rfl rfl ?_
      refine z_get 18 rfl rfl h1 rfl ?_
      refine z_iload 19 rfl rfl rfl ?_
      refine z_iload 20 rfl rfl rfl ?_
      refine z_cs 23 _ rfl rfl rfl rfl rfl rfl (Nat.le_refl _) (Nat.le_refl _) ?_
      refine c_packed h2 hn (by omega) ?_
      refine z_goto rfl ?_
      refine z_ireti rfl (Nat.le_refl _) (Nat.le_refl _) ?_
      first | exact q (by omega) | exact q0 (by omega) | exact absurd hc1 (by omega)
set_option maxRecDepth 10000 in
theorem c_Row_pointAt {d : Nat} {h : mH} {r v n c a : Nat} {f : Nat → Int32} {Q : mP} (h1 : h.2 r = oRow v (nI c)) (h2 : h.2 v = aI n f) (hn : n < 2 ^ 31) (hc : c ≤ n) (ha : a < c) (q : Q (some (.int (ptAt f c a))) h) : mWP (d + 2) 78 [.ref r, .int (nI a)] h Q := by
  refine z_in [some (.ref r), some (.int (nI a)), none, none] (by rfl) rfl rfl rfl ?_
  refine z_iload 1 rfl rfl rfl ?_
  first | refine z_zlt 4 rfl rfl (by omega) (fun hc1 => ?_) (fun hc1 => ?_) | refine z_jlt 4 rfl rfl (fun hc1 => ?_) (fun hc1 => ?_)
  · refine z_push 13 (-1) rfl rfl rfl ?_
    refine z_ireti rfl (Nat.le_refl _) (Nat.le_refl _) ?_
    first
    | exact absurd hc1 (by omega)
    | exact absurd hc9 (by omega)
    | (refine zqo ?_ q; simp [ptAt, hc25]; done)
    | (refine zqo ?_ q; simp [ptAt, hc25, hc34]; done)
    | (refine zqo ?_ q; simp [ptAt, hc25, hc34, show ¬ a + 1 < c by omega]; done)
    | (refine zqo ?_ q; simp [ptAt, hc25, hc34, hc58]; done)
    | (refine zqo ?_ q; simp [ptAt, hc25, hc34, hc58, hc44]; done)
  · refine z_iload 5 rfl rfl rfl ?_
    refine z_aload 6 rfl rfl rfl ?_
    refine z_get 9 rfl rfl (by first | exact h1 | exact h2) rfl ?_
    first | refine z_nlt 12 rfl rfl (by omega) (by omega) (fun hc9 => ?_) (fun hc9 => ?_) | refine z_klt 12 rfl rfl (by omega) (fun hc9 => ?_) (fun hc9 => ?_) | refine z_hlt 12 rfl rfl (by omega) (fun hc9 => ?_) (fun hc9 => ?_) | refine z_tlt 12 rfl rfl (fun hc9 => ?_) (fun hc9 => ?_)
    · refine z_aload 15 rfl rfl rfl ?_
      refine z_get 18 rfl rfl (by first | exact h1 | exact h2) rfl ?_
      refine z_iload 19 rfl rfl rfl ?_
      refine z_ald 20 rfl rfl (by first | exact h1 | exact h2) rfl (by omega) (by omega) ?_
      refine z_istore 21 rfl rfl rfl rfl ?_
      refine z_iload 22 rfl rfl rfl ?_
      refine z_cs 25 _ rfl rfl rfl rfl rfl rfl (Nat.le_refl _) (Nat.le_refl _) ?_
      refine c_isHalf ?_
      first | refine z_bne 28 rfl rfl (fun hc25 => ?_) (fun hc25 => ?_) | refine z_zne 28 rfl rfl (by omega) (fun hc25 => ?_) (fun hc25 => ?_) | refine z_jne 28 rfl rfl (fun hc25 => ?_) (fun hc25 => ?_)
      · refine z_iload 31 rfl rfl rfl ?_
        refine z_cs 34 _ rfl rfl rfl rfl rfl rfl (Nat.le_refl _) (Nat.le_refl _) ?_
        refine c_isHighHalf ?_
        first | refine z_beq 37 rfl rfl (fun hc34 => ?_) (fun hc34 => ?_) | refine z_zeq 37 rfl rfl (by omega) (fun hc34 => ?_) (fun hc34 => ?_) | refine z_jeq 37 rfl rfl (fun hc34 => ?_) (fun hc34 => ?_)
        · refine z_push 66 (nI 0) rfl rfl rfl ?_
          refine z_istore 67 rfl rfl rfl rfl ?_
          refine z_iload 68 rfl rfl rfl ?_
          refine z_zeq 71 rfl rfl (by omega) (fun _ => ?_) (fun h9 => absurd h9 (by omega))
          refine z_push 87 (-1) rfl rfl rfl ?_
          refine z_ireti rfl (Nat.le_refl _) (Nat.le_refl _) ?_
          first
          | exact absurd hc1 (by omega)
          | exact absurd hc9 (by omega)
          | (refine zqo ?_ q; simp [ptAt, hc25]; done)
          | (refine zqo ?_ q; simp [ptAt, hc25, hc34]; done)
          | (refine zqo ?_ q; simp [ptAt, hc25, hc34, show ¬ a + 1 < c by omega]; done)
          | (refine zqo ?_ q; simp [ptAt, hc25, hc34, hc58]; done)
          | (refine zqo ?_ q; simp [ptAt, hc25, hc34, hc58, hc44]; done)
        · refine z_iload 38 rfl rfl rfl ?_
          refine z_push 39 (nI 1) rfl rfl rfl ?_
          refine z_bop 40 _ rfl rfl (by first | with_reducible exact zb_0 _ _ | exact zd_0 _ _) ?_
          refine z_aload 41 rfl rfl rfl ?_
          refine z_get 44 rfl rfl (by first | exact h1 | exact h2) rfl ?_
          first | refine z_nge 47 rfl rfl (by omega) (by omega) (fun hc44 => ?_) (fun hc44 => ?_) | refine z_kge 47 rfl rfl (by omega) (fun hc44 => ?_) (fun hc44 => ?_) | refine z_hge 47 rfl rfl (by omega) (fun hc44 => ?_) (fun hc44 => ?_) | refine z_tge 47 rfl rfl (fun hc44 => ?_) (fun hc44 => ?_)
          · refine z_push 66 (nI 0) rfl rfl rfl ?_
            refine z_istore 67 rfl rfl rfl rfl ?_
            refine z_iload 68 rfl rfl rfl ?_
            refine z_zeq 71 rfl rfl (by omega) (fun _ => ?_) (fun h9 => absurd h9 (by omega))
            refine z_push 87 (-1) rfl rfl rfl ?_
            refine z_ireti rfl (Nat.le_refl _) (Nat.le_refl _) ?_
            first
            | exact absurd hc1 (by omega)
            | exact absurd hc9 (by omega)
            | (refine zqo ?_ q; simp [ptAt, hc25]; done)
            | (refine zqo ?_ q; simp [ptAt, hc25, hc34]; done)
            | (refine zqo ?_ q; simp [ptAt, hc25, hc34, show ¬ a + 1 < c by omega]; done)
            | (refine zqo ?_ q; simp [ptAt, hc25, hc34, hc58]; done)
            | (refine zqo ?_ q; simp [ptAt, hc25, hc34, hc58, hc44]; done)
          · refine z_aload 48 rfl rfl rfl ?_
            refine z_get 51 rfl rfl (by first | exact h1 | exact h2) rfl ?_
            refine z_iload 52 rfl rfl rfl ?_
            refine z_push 53 (nI 1) rfl rfl rfl ?_
            refine z_bop 54 _ rfl rfl (by first | with_reducible exact zb_0 _ _ | exact zd_0 _ _) ?_
            refine z_ald 55 rfl rfl (by first | exact h1 | exact h2) rfl (by omega) (by omega) ?_
            refine z_cs 58 _ rfl rfl rfl rfl rfl rfl (Nat.le_refl _) (Nat.le_refl _) ?_
            refine c_isLowHalf ?_
            first | refine z_beq 61 rfl rfl (fun hc58 => ?_) (fun hc58 => ?_) | refine z_zeq 61 rfl rfl (by omega) (fun hc58 => ?_) (fun hc58 => ?_) | refine z_jeq 61 rfl rfl (fun hc58 => ?_) (fun hc58 => ?_)
            · refine z_push 66 (nI 0) rfl rfl rfl ?_
              refine z_istore 67 rfl rfl rfl rfl ?_
              refine z_iload 68 rfl rfl rfl ?_
              refine z_zeq 71 rfl rfl (by omega) (fun _ => ?_) (fun h9 => absurd h9 (by omega))
              refine z_push 87 (-1) rfl rfl rfl ?_
              refine z_ireti rfl (Nat.le_refl _) (Nat.le_refl _) ?_
              first
              | exact absurd hc1 (by omega)
              | exact absurd hc9 (by omega)
              | (refine zqo ?_ q; simp [ptAt, hc25]; done)
              | (refine zqo ?_ q; simp [ptAt, hc25, hc34]; done)
              | (refine zqo ?_ q; simp [ptAt, hc25, hc34, show ¬ a + 1 < c by omega]; done)
              | (refine zqo ?_ q; simp [ptAt, hc25, hc34, hc58]; done)
              | (refine zqo ?_ q; simp [ptAt, hc25, hc34, hc58, hc44]; done)
            · refine z_push 62 (nI 1) rfl rfl rfl ?_
              refine z_goto rfl ?_
              refine z_istore 67 rfl rfl rfl rfl ?_
              refine z_iload 68 rfl rfl rfl ?_
              refine z_zeq 71 rfl rfl (by omega) (fun h9 => absurd h9 (by omega)) (fun _ => ?_)
              refine z_iload 72 rfl rfl rfl ?_
              refine z_aload 73 rfl rfl rfl ?_
              refine z_get 76 rfl rfl (by first | exact h1 | exact h2) rfl ?_
              refine z_iload 77 rfl rfl rfl ?_
              refine z_push 78 (nI 1) rfl rfl rfl ?_
              refine z_bop 79 _ rfl rfl (by first | with_reducible exact zb_0 _ _ | exact zd_0 _ _) ?_
              refine z_ald 80 rfl rfl (by first | exact h1 | exact h2) rfl (by omega) (by omega) ?_
              refine z_cs 83 _ rfl rfl rfl rfl rfl rfl (Nat.le_refl _) (Nat.le_refl _) ?_
              refine c_joined ?_
              refine z_goto rfl ?_
              refine z_ireti rfl (Nat.le_refl _) (Nat.le_refl _) ?_
              first
              | exact absurd hc1 (by omega)
              | exact absurd hc9 (by omega)
              | (refine zqo ?_ q; simp [ptAt, hc25]; done)
              | (refine zqo ?_ q; simp [ptAt, hc25, hc34]; done)
              | (refine zqo ?_ q; simp [ptAt, hc25, hc34, show ¬ a + 1 < c by omega]; done)
              | (refine zqo ?_ q; simp [ptAt, hc25, hc34, hc58]; done)
              | (refine zqo ?_ q; simp [ptAt, hc25, hc34, hc58, hc44]; done)
      · refine z_iload 29 rfl rfl rfl ?_
        refine z_ireti rfl (Nat.le_refl _) (Nat.le_refl _) ?_
        first
        | exact absurd hc1 (by omega)
        | exact absurd hc9 (by omega)
        | (refine zqo ?_ q; simp [ptAt, hc25]; done)
        | (refine zqo ?_ q; simp [ptAt, hc25, hc34]; done)
        | (refine zqo ?_ q; simp [ptAt, hc25, hc34, show ¬ a + 1 < c by omega]; done)
        | (refine zqo ?_ q; simp [ptAt, hc25, hc34, hc58]; done)
        | (refine zqo ?_ q; simp [ptAt, hc25, hc34, hc58, hc44]; done)
    · refine z_push 13 (-1) rfl rfl rfl ?_
      refine z_ireti rfl (Nat.le_refl _) (Nat.le_refl _) ?_
      first
      | exact absurd hc1 (by omega)
      | exact absurd hc9 (by omega)
      | (refine zqo ?_ q; simp [ptAt, hc25]; done)
      | (refine zqo ?_ q; simp [ptAt, hc25, hc34]; done)
      | (refine zqo ?_ q; simp [ptAt, hc25, hc34, show ¬ a + 1 < c by omega]; done)
      | (refine zqo ?_ q; simp [ptAt, hc25, hc34, hc58]; done)
      | (refine zqo ?_ q; simp [ptAt, hc25, hc34, hc58, hc44]; done)
abbrev oFound (w l p g : Int32) (s : Int32) : mC := .inr (.inr (2, [.int w, .int l, .int p, .int g, .int s]))
set_option maxRecDepth 10000 in
theorem c_Found_setNone {d : Nat} {h : mH} {r : Nat} {w l p g s  : Int32} {Q : mP} (h1 : h.2 r = oFound w l p g s) (q : Q none (mSet h r (oFound 0 l p g s))) : mWP (d + 1) 18 [.ref r] h Q := by
  refine z_in [some (.ref r)] (by rfl) rfl rfl rfl ?_
  refine z_aload 1 rfl rfl rfl ?_
  refine z_push 2 (nI 0) rfl rfl rfl ?_
  refine z_put 5 rfl rfl (by first | exact h1 | exact mg_eq _ _ _) rfl (mFi rfl) ?_
  refine z_vret rfl (Nat.le_refl _) (Nat.le_refl _) ?_
  (repeat rw [mSet_ss]); exact q
set_option maxRecDepth 10000 in
theorem c_Found_setPart {d : Nat} {h : mH} {r : Nat} {w l p g s  : Int32} {Q : mP} (h1 : h.2 r = oFound w l p g s) (q : Q none (mSet h r (oFound 1 l p g s))) : mWP (d + 1) 19 [.ref r] h Q := by
  refine z_in [some (.ref r)] (by rfl) rfl rfl rfl ?_
  refine z_aload 1 rfl rfl rfl ?_
  refine z_push 2 (nI 1) rfl rfl rfl ?_
  refine z_put 5 rfl rfl (by first | exact h1 | exact mg_eq _ _ _) rfl (mFi rfl) ?_
  refine z_vret rfl (Nat.le_refl _) (Nat.le_refl _) ?_
  (repeat rw [mSet_ss]); exact q
set_option maxRecDepth 10000 in
theorem c_Found_setWhole {d : Nat} {h : mH} {r : Nat} {w l p g s x y : Int32} {Q : mP} (h1 : h.2 r = oFound w l p g s) (q : Q none (mSet h r (oFound 2 y x g s))) : mWP (d + 1) 20 [.ref r, .int x, .int y] h Q := by
  refine z_in [some (.ref r), some (.int x), some (.int y)] (by rfl) rfl rfl rfl ?_
  refine z_aload 1 rfl rfl rfl ?_
  refine z_push 2 (nI 2) rfl rfl rfl ?_
  refine z_put 5 rfl rfl (by first | exact h1 | exact mg_eq _ _ _) rfl (mFi rfl) ?_
  refine z_aload 6 rfl rfl rfl ?_
  refine z_iload 7 rfl rfl rfl ?_
  refine z_put 10 rfl rfl (by first | exact h1 | exact mg_eq _ _ _) rfl (mFi rfl) ?_
  refine z_aload 11 rfl rfl rfl ?_
  refine z_iload 12 rfl rfl rfl ?_
  refine z_put 15 rfl rfl (by first | exact h1 | exact mg_eq _ _ _) rfl (mFi rfl) ?_
  refine z_vret rfl (Nat.le_refl _) (Nat.le_refl _) ?_
  (repeat rw [mSet_ss]); exact q
set_option maxRecDepth 10000 in
theorem c_Found_setShift {d : Nat} {h : mH} {r : Nat} {w l p g s x y : Int32} {Q : mP} (h1 : h.2 r = oFound w l p g s) (hy : y = 0 ∨ y = 1) (q : Q none (mSet h r (oFound 3 1 p x y))) : mWP (d + 1) 21 [.ref r, .int x, .int y] h Q := by
  refine z_in [some (.ref r), some (.int x), some (.int y)] (by rfl) rfl rfl rfl ?_
  refine z_aload 1 rfl rfl rfl ?_
  refine z_push 2 (nI 3) rfl rfl rfl ?_
  refine z_put 5 rfl rfl (by first | exact h1 | exact mg_eq _ _ _) rfl (mFi rfl) ?_
  refine z_aload 6 rfl rfl rfl ?_
  refine z_iload 7 rfl rfl rfl ?_
  refine z_put 10 rfl rfl (by first | exact h1 | exact mg_eq _ _ _) rfl (mFi rfl) ?_
  refine z_aload 11 rfl rfl rfl ?_
  refine z_iload 12 rfl rfl rfl ?_
  refine z_put 15 rfl rfl (by first | exact h1 | exact mg_eq _ _ _) rfl (mFb rfl hy) ?_
  refine z_aload 16 rfl rfl rfl ?_
  refine z_push 17 (nI 1) rfl rfl rfl ?_
  refine z_put 20 rfl rfl (by first | exact h1 | exact mg_eq _ _ _) rfl (mFi rfl) ?_
  refine z_vret rfl (Nat.le_refl _) (Nat.le_refl _) ?_
  (repeat rw [mSet_ss]); exact q
