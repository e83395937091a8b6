/-! the class: units of the built-in forms found -/
/-- what was found -/
def Fd9 (h : mH) (a : Nat) (x : Nat × Nat × Nat) (H : List Sh) : Prop := ∃ l p g s : Int32, h.2 a = oFound (nI x.1) l p g s ∧ (s = 0 ∨ s = 1) ∧ (x.1 = 2 → l = nI x.2.1 ∧ p = nI x.2.2) ∧ (x.1 = 3 → l = nI 1 ∧ g = nI (shG H x.2.1) ∧ s = bI (shK H x.2.1))
theorem Fd9.e {h h' : mH} {a : Nat} {x : Nat × Nat × Nat} {H : List Sh} (d : Fd9 h a x H) (f : Eqv a (a + 1) h h') : Fd9 h' a x H := by
  obtain ⟨l, p, g, s, h1, h2⟩ := d
  exact ⟨l, p, g, s, (f a (by omega) (by omega)).trans h1, h2⟩
theorem Fd9.n {h : mH} {a : Nat} {l p g s : Int32} {H : List Sh} (hs : s = 0 ∨ s = 1) : Fd9 (mSet h a (oFound 0 l p g s)) a (0, 0, 0) H := ⟨l, p, g, s, mg_eq _ _ _, hs, fun h9 => absurd (show (0 : Nat) = 2 from h9) (by decide), fun h9 => absurd (show (0 : Nat) = 3 from h9) (by decide)⟩
theorem Fd9.p {h : mH} {a : Nat} {l p g s : Int32} {H : List Sh} (hs : s = 0 ∨ s = 1) : Fd9 (mSet h a (oFound 1 l p g s)) a (1, 0, 0) H := ⟨l, p, g, s, mg_eq _ _ _, hs, fun h9 => absurd (show (1 : Nat) = 2 from h9) (by decide), fun h9 => absurd (show (1 : Nat) = 3 from h9) (by decide)⟩
theorem Fd9.w {h : mH} {a m v : Nat} {g s : Int32} {H : List Sh} (hs : s = 0 ∨ s = 1) : Fd9 (mSet h a (oFound 2 (nI m) (nI v) g s)) a (2, m, v) H := ⟨nI m, nI v, g, s, mg_eq _ _ _, hs, fun _ => ⟨rfl, rfl⟩, fun h9 => absurd (show (2 : Nat) = 3 from h9) (by decide)⟩
theorem Fd9.s {h : mH} {a k : Nat} {p : Int32} {H : List Sh} : Fd9 (mSet h a (oFound 3 1 p (nI (shG H k)) (bI (shK H k)))) a (3, k, 0) H := ⟨1, p, _, _, mg_eq _ _ _, by cases shK H k <;> simp [bI], fun h9 => absurd (show (3 : Nat) = 2 from h9) (by decide), fun _ => ⟨rfl, rfl, rfl⟩⟩
def uA2 (hi : Bool) (x y : Nat) : Nat := if hi = true then x * 2 ^ 8 + y else y * 2 ^ 8 + x
set_option maxRecDepth 10000 in
theorem c_unitAt2 {d : Nat} {h : mH} {v n a x y : Nat} {hi : Bool} {f : Nat → Int32} {Q : mP} (h2 : h.2 v = aI n f) (hn : n < 2 ^ 31) (ha : a + 1 < n) (hx : f a = nI x) (hy : f (a + 1) = nI y) (hx2 : x < 256) (hy2 : y < 256)  (q : Q (some (.int (nI (uA2 hi x y)))) h) : mWP (d + 1) 13 [.int (bI hi), .ref v, .int (nI a)] h Q := by
  refine z_in [some (.int (bI hi)), some (.ref v), some (.int (nI a))] (by rfl) rfl rfl rfl ?_
  refine z_iload 1 rfl rfl rfl ?_
  first | refine z_beq 4 rfl rfl (fun hc1 => ?_) (fun hc1 => ?_)
  · refine z_aload 20 rfl rfl rfl ?_
    refine z_iload 21 rfl rfl rfl ?_
    refine z_push 22 (nI 1) rfl rfl rfl ?_
    refine z_bop 23 _ rfl rfl (by first | with_reducible exact zb_0 _ _ | exact zd_0 _ _) ?_
    refine z_ald 24 rfl rfl h2 rfl (by omega) (by omega) ?_
    rw [hy]
    refine z_push 26 (nI 8) rfl rfl rfl ?_
    refine z_bop 27 _ rfl rfl (shl_n 8 (by decide) (by omega)) ?_
    refine z_aload 28 rfl rfl rfl ?_
    refine z_iload 29 rfl rfl rfl ?_
    refine z_ald 30 rfl rfl h2 rfl (by omega) (by omega) ?_
    rw [hx]
    refine z_bop 31 _ rfl rfl (or_n (k := 8) (by omega) (by omega)) ?_
    refine z_ireti rfl (Nat.le_refl _) (Nat.le_refl _) ?_
    rw [uA2, if_neg (by rw [hc1]; decide)] at q
    exact q
  · refine z_aload 5 rfl rfl rfl ?_
    refine z_iload 6 rfl rfl rfl ?_
    refine z_ald 7 rfl rfl h2 rfl (by omega) (by omega) ?_
    rw [hx]
    refine z_push 9 (nI 8) rfl rfl rfl ?_
    refine z_bop 10 _ rfl rfl (shl_n 8 (by decide) (by omega)) ?_
    refine z_aload 11 rfl rfl rfl ?_
    refine z_iload 12 rfl rfl rfl ?_
    refine z_push 13 (nI 1) rfl rfl rfl ?_
    refine z_bop 14 _ rfl rfl (by first | with_reducible exact zb_0 _ _ | exact zd_0 _ _) ?_
    refine z_ald 15 rfl rfl h2 rfl (by omega) (by omega) ?_
    rw [hy]
    refine z_bop 16 _ rfl rfl (or_n (k := 8) (by omega) (by omega)) ?_
    refine z_goto rfl ?_
    refine z_ireti rfl (Nat.le_refl _) (Nat.le_refl _) ?_
    rw [uA2, if_pos hc1] at q
    exact q
set_option maxRecDepth 100000 in
theorem c_findLowHalfT {d : Nat} {h : mH} {v n a fo : Nat} {w l p g s : Int32} {bs : List Nat} {f : Nat → Int32} {H : List Sh} {Q : mP} (h2 : h.2 v = aI n f) (hn : n < 2 ^ 31) (hst : a + bs.length ≤ n) (hf : ∀ j, j < bs.length → f (a + j) = nI (bs.getD j 0)) (hb : ∀ j, bs.getD j 0 < 256) (h3 : h.2 fo = oFound w l p g s) (hs : s = 0 ∨ s = 1) (hl2 : 2 ≤ bs.length) (hh : 55296 ≤ (bs.getD 0 0 * 2 ^ 8 + bs.getD 1 0) ∧ (bs.getD 0 0 * 2 ^ 8 + bs.getD 1 0) ≤ 56319)  (q : ∀ h', Fd9 h' fo (lkU true bs) H → Fr fo (fo + 1) h h' → Q none h') : mWP (d + 2) 12 [.int (bI true), .ref v, .int (nI a), .int (nI (a + bs.length)), .ref fo] h Q := by
  have b0 := hb 0
  have b1 := hb 1
  have b2' := hb 2
  have b3 := hb 3
  refine z_in [some (.int (bI true)), some (.ref v), some (.int (nI a)), some (.int (nI (a + bs.length))), some (.ref fo), none, none, none, none] (by rfl) rfl rfl rfl ?_
  refine z_iload 1 rfl rfl rfl ?_
  refine z_iload 2 rfl rfl rfl ?_
  refine z_bop 3 _ rfl rfl (show mBop 1 (nI (a + bs.length)) (nI a) = nI bs.length from by rw [zb_1 (by omega), Nat.add_sub_cancel_left]) ?_
  refine z_push 4 (nI 2) rfl rfl rfl ?_
  refine z_bop 5 _ rfl rfl (by first | with_reducible exact zb_1 (by omega) | exact zd_1 _ _) ?_
  refine z_istore 7 rfl rfl rfl rfl ?_
  refine z_iload 9 rfl rfl rfl ?_
  refine z_push 10 (nI 2) rfl rfl rfl ?_
  refine z_nlt 13 rfl rfl (by omega) (by omega) (fun hc10 => ?_) (fun hc10 => ?_)
  · refine z_push 18 (nI 0) rfl rfl rfl ?_
    refine z_istore 20 rfl rfl rfl rfl ?_
    refine z_iload 22 rfl rfl rfl ?_
    refine z_push 23 (nI 1) rfl rfl rfl ?_
    refine z_nlt 26 rfl rfl (by omega) (by omega) (fun hc23 => ?_) (fun hc23 => ?_)
    · refine z_push 45 (nI 1) rfl rfl rfl ?_
      refine z_goto rfl ?_
      refine z_istore 51 rfl rfl rfl rfl ?_
      refine z_iload 53 rfl rfl rfl ?_
      refine z_zeq 56 rfl rfl (by omega) (fun _ => ?_) (fun h9 => absurd h9 (by omega))
      refine z_iload 71 rfl rfl rfl ?_
      refine z_zne 74 rfl rfl (by omega) (fun _ => ?_) (fun h9 => absurd h9 (by omega))
      refine z_iload 84 rfl rfl rfl ?_
      refine z_zeq 87 rfl rfl (by omega) (fun _ => ?_) (fun h9 => absurd h9 (by omega))
      refine z_aload 119 rfl rfl rfl ?_
      refine z_cv0 122 rfl rfl (by first | exact h2 | exact h3) rfl (Nat.le_refl _) (Nat.le_refl _) ?_
      refine c_Found_setPart h3 ?_
      · 
        refine z_vret rfl (Nat.le_refl _) (Nat.le_refl _) ?_
        have e9 : lkU true bs = (1, 0, 0) := by rw [lkU, if_pos rfl]; (repeat' split) <;> first | rfl | (exfalso; omega)
        rw [e9] at q
        exact q _ (Fd9.p hs) (Fr.of_set1 (by omega))
    · refine z_iload 27 rfl rfl rfl ?_
      refine z_beq 30 rfl rfl (fun h9 => absurd h9 (by decide)) (fun _ => ?_)
      refine z_aload 31 rfl rfl rfl ?_
      refine z_iload 32 rfl rfl rfl ?_
      refine z_push 33 (nI 2) rfl rfl rfl ?_
      refine z_bop 34 _ rfl rfl (by first | with_reducible exact zb_0 _ _ | exact zd_0 _ _) ?_
      refine z_ald 35 rfl rfl (by first | exact h2 | exact h3) rfl (by omega) (by omega) ?_
      rw [hf 2 (by omega)]
      refine z_push 37 (nI 8) rfl rfl rfl ?_
      refine z_bop 38 _ rfl rfl (shl_n 8 (by decide) (by omega)) ?_
      refine z_cs1 41 rfl rfl rfl (Nat.le_refl _) (Nat.le_refl _) ?_
      refine c_isLowHalf ?_
      rw [jLow_n (by omega)]
      first | refine z_deq 44 rfl rfl (fun hc41 => ?_) (fun hc41 => ?_)
      · refine z_push 49 (nI 0) rfl rfl rfl ?_
        refine z_istore 51 rfl rfl rfl rfl ?_
        refine z_iload 53 rfl rfl rfl ?_
        refine z_zeq 56 rfl rfl (by omega) (fun _ => ?_) (fun h9 => absurd h9 (by omega))
        refine z_iload 71 rfl rfl rfl ?_
        refine z_zne 74 rfl rfl (by omega) (fun h9 => absurd h9 (by omega)) (fun _ => ?_)
        refine z_aload 76 rfl rfl rfl ?_
        refine z_cv0 79 rfl rfl (by first | exact h2 | exact h3) rfl (Nat.le_refl _) (Nat.le_refl _) ?_
        refine c_Found_setNone h3 ?_
        · 
          refine z_goto rfl ?_
          refine z_vret rfl (Nat.le_refl _) (Nat.le_refl _) ?_
          have e9 : lkU true bs = (0, 0, 0) := by rw [lkU, if_pos rfl]; (repeat' split) <;> first | rfl | (exfalso; omega)
          rw [e9] at q
          exact q _ (Fd9.n hs) (Fr.of_set1 (by omega))
      · refine z_push 45 (nI 1) rfl rfl rfl ?_
        refine z_goto rfl ?_
        refine z_istore 51 rfl rfl rfl rfl ?_
        refine z_iload 53 rfl rfl rfl ?_
        refine z_zeq 56 rfl rfl (by omega) (fun _ => ?_) (fun h9 => absurd h9 (by omega))
        refine z_iload 71 rfl rfl rfl ?_
        refine z_zne 74 rfl rfl (by omega) (fun _ => ?_) (fun h9 => absurd h9 (by omega))
        refine z_iload 84 rfl rfl rfl ?_
        refine z_zeq 87 rfl rfl (by omega) (fun _ => ?_) (fun h9 => absurd h9 (by omega))
        refine z_aload 119 rfl rfl rfl ?_
        refine z_cv0 122 rfl rfl (by first | exact h2 | exact h3) rfl (Nat.le_refl _) (Nat.le_refl _) ?_
        refine c_Found_setPart h3 ?_
        · 
          refine z_vret rfl (Nat.le_refl _) (Nat.le_refl _) ?_
          have e9 : lkU true bs = (1, 0, 0) := by rw [lkU, if_pos rfl]; (repeat' split) <;> first | rfl | (exfalso; omega)
          rw [e9] at q
          exact q _ (Fd9.p hs) (Fr.of_set1 (by omega))
  · refine z_push 14 (nI 1) rfl rfl rfl ?_
    refine z_goto rfl ?_
    refine z_istore 20 rfl rfl rfl rfl ?_
    refine z_iload 22 rfl rfl rfl ?_
    refine z_push 23 (nI 1) rfl rfl rfl ?_
    refine z_nlt 26 rfl rfl (by omega) (by omega) (fun hc23 => ?_) (fun hc23 => ?_)
    · refine z_push 45 (nI 1) rfl rfl rfl ?_
      refine z_goto rfl ?_
      refine z_istore 51 rfl rfl rfl rfl ?_
      refine z_iload 53 rfl rfl rfl ?_
      refine z_zeq 56 rfl rfl (by omega) (fun h9 => absurd h9 (by omega)) (fun _ => ?_)
      refine z_iload 57 rfl rfl rfl ?_
      refine z_aload 58 rfl rfl rfl ?_
      refine z_iload 59 rfl rfl rfl ?_
      refine z_push 60 (nI 2) rfl rfl rfl ?_
      refine z_bop 61 _ rfl rfl (by first | with_reducible exact zb_0 _ _ | exact zd_0 _ _) ?_
      refine z_cs3 64 rfl rfl rfl (Nat.le_refl _) (Nat.le_refl _) ?_
      refine c_unitAt2 h2 hn (by omega) (hf 2 (by omega)) (hf 3 (by omega)) b2' b3 ?_
      rw [show uA2 true (bs.getD 2 0) (bs.getD 3 0) = (bs.getD 2 0 * 2 ^ 8 + bs.getD 3 0) from if_pos rfl]
      refine z_cs1 67 rfl rfl rfl (Nat.le_refl _) (Nat.le_refl _) ?_
      refine c_isLowHalf ?_
      rw [jLow_n (by omega)]
      refine z_istore 69 rfl rfl rfl rfl ?_
      refine z_iload 71 rfl rfl rfl ?_
      first | refine z_dne 74 rfl rfl (fun hc71 => ?_) (fun hc71 => ?_)
      · refine z_iload 84 rfl rfl rfl ?_
        refine z_zeq 87 rfl rfl (by omega) (fun h9 => absurd h9 (by omega)) (fun _ => ?_)
        refine z_iload 88 rfl rfl rfl ?_
        refine z_aload 89 rfl rfl rfl ?_
        refine z_iload 90 rfl rfl rfl ?_
        refine z_cs3 93 rfl rfl rfl (Nat.le_refl _) (Nat.le_refl _) ?_
        refine c_unitAt2 h2 hn (by omega) (hf 0 (by omega)) (hf 1 (by omega)) b0 b1 ?_
        rw [show uA2 true (bs.getD 0 0) (bs.getD 1 0) = (bs.getD 0 0 * 2 ^ 8 + bs.getD 1 0) from if_pos rfl]
        refine z_istore 95 rfl rfl rfl rfl ?_
        refine z_aload 97 rfl rfl rfl ?_
        refine z_iload 99 rfl rfl rfl ?_
        refine z_iload 100 rfl rfl rfl ?_
        refine z_aload 101 rfl rfl rfl ?_
        refine z_iload 102 rfl rfl rfl ?_
        refine z_push 103 (nI 2) rfl rfl rfl ?_
        refine z_bop 104 _ rfl rfl (by first | with_reducible exact zb_0 _ _ | exact zd_0 _ _) ?_
        refine z_cs3 107 rfl rfl rfl (Nat.le_refl _) (Nat.le_refl _) ?_
        refine c_unitAt2 h2 hn (by omega) (hf 2 (by omega)) (hf 3 (by omega)) b2' b3 ?_
        rw [show uA2 true (bs.getD 2 0) (bs.getD 3 0) = (bs.getD 2 0 * 2 ^ 8 + bs.getD 3 0) from if_pos rfl]
        refine z_cs2 110 rfl rfl rfl (Nat.le_refl _) (Nat.le_refl _) ?_
        refine c_joined ?_
        rw [joinI_n (by omega) (by omega)]
        refine z_push 111 (nI 4) rfl rfl rfl ?_
        refine z_cv2 114 rfl rfl (by first | exact h2 | exact h3) rfl (Nat.le_refl _) (Nat.le_refl _) ?_
        refine c_Found_setWhole h3 ?_
        · 
          refine z_goto rfl ?_
          refine z_vret rfl (Nat.le_refl _) (Nat.le_refl _) ?_
          have e9 : lkU true bs = (2, 4, 65536 + (bs.getD 0 0 * 2 ^ 8 + bs.getD 1 0 - 55296) * 2 ^ 10 + (bs.getD 2 0 * 2 ^ 8 + bs.getD 3 0) - 56320) := by rw [lkU, if_pos rfl]; (repeat' split) <;> first | rfl | (exfalso; omega)
          rw [e9] at q
          exact q _ (Fd9.w hs) (Fr.of_set1 (by omega))
      · refine z_aload 76 rfl rfl rfl ?_
        refine z_cv0 79 rfl rfl (by first | exact h2 | exact h3) rfl (Nat.le_refl _) (Nat.le_refl _) ?_
        refine c_Found_setNone h3 ?_
        · 
          refine z_goto rfl ?_
          refine z_vret rfl (Nat.le_refl _) (Nat.le_refl _) ?_
          have e9 : lkU true bs = (0, 0, 0) := by rw [lkU, if_pos rfl]; (repeat' split) <;> first | rfl | (exfalso; omega)
          rw [e9] at q
          exact q _ (Fd9.n hs) (Fr.of_set1 (by omega))
    · refine z_iload 27 rfl rfl rfl ?_
      refine z_beq 30 rfl rfl (fun h9 => absurd h9 (by decide)) (fun _ => ?_)
      refine z_aload 31 rfl rfl rfl ?_
      refine z_iload 32 rfl rfl rfl ?_
      refine z_push 33 (nI 2) rfl rfl rfl ?_
      refine z_bop 34 _ rfl rfl (by first | with_reducible exact zb_0 _ _ | exact zd_0 _ _) ?_
      refine z_ald 35 rfl rfl (by first | exact h2 | exact h3) rfl (by omega) (by omega) ?_
      rw [hf 2 (by omega)]
      refine z_push 37 (nI 8) rfl rfl rfl ?_
      refine z_bop 38 _ rfl rfl (shl_n 8 (by decide) (by omega)) ?_
      refine z_cs1 41 rfl rfl rfl (Nat.le_refl _) (Nat.le_refl _) ?_
      refine c_isLowHalf ?_
      rw [jLow_n (by omega)]
      first | refine z_deq 44 rfl rfl (fun hc41 => ?_) (fun hc41 => ?_)
      · refine z_push 49 (nI 0) rfl rfl rfl ?_
        refine z_istore 51 rfl rfl rfl rfl ?_
        refine z_iload 53 rfl rfl rfl ?_
        refine z_zeq 56 rfl rfl (by omega) (fun h9 => absurd h9 (by omega)) (fun _ => ?_)
        refine z_iload 57 rfl rfl rfl ?_
        refine z_aload 58 rfl rfl rfl ?_
        refine z_iload 59 rfl rfl rfl ?_
        refine z_push 60 (nI 2) rfl rfl rfl ?_
        refine z_bop 61 _ rfl rfl (by first | with_reducible exact zb_0 _ _ | exact zd_0 _ _) ?_
        refine z_cs3 64 rfl rfl rfl (Nat.le_refl _) (Nat.le_refl _) ?_
        refine c_unitAt2 h2 hn (by omega) (hf 2 (by omega)) (hf 3 (by omega)) b2' b3 ?_
        rw [show uA2 true (bs.getD 2 0) (bs.getD 3 0) = (bs.getD 2 0 * 2 ^ 8 + bs.getD 3 0) from if_pos rfl]
        refine z_cs1 67 rfl rfl rfl (Nat.le_refl _) (Nat.le_refl _) ?_
        refine c_isLowHalf ?_
        rw [jLow_n (by omega)]
        refine z_istore 69 rfl rfl rfl rfl ?_
        refine z_iload 71 rfl rfl rfl ?_
        first | refine z_dne 74 rfl rfl (fun hc71 => ?_) (fun hc71 => ?_)
        · refine z_iload 84 rfl rfl rfl ?_
          refine z_zeq 87 rfl rfl (by omega) (fun h9 => absurd h9 (by omega)) (fun _ => ?_)
          refine z_iload 88 rfl rfl rfl ?_
          refine z_aload 89 rfl rfl rfl ?_
          refine z_iload 90 rfl rfl rfl ?_
          refine z_cs3 93 rfl rfl rfl (Nat.le_refl _) (Nat.le_refl _) ?_
          refine c_unitAt2 h2 hn (by omega) (hf 0 (by omega)) (hf 1 (by omega)) b0 b1 ?_
          rw [show uA2 true (bs.getD 0 0) (bs.getD 1 0) = (bs.getD 0 0 * 2 ^ 8 + bs.getD 1 0) from if_pos rfl]
          refine z_istore 95 rfl rfl rfl rfl ?_
          refine z_aload 97 rfl rfl rfl ?_
          refine z_iload 99 rfl rfl rfl ?_
          refine z_iload 100 rfl rfl rfl ?_
          refine z_aload 101 rfl rfl rfl ?_
          refine z_iload 102 rfl rfl rfl ?_
          refine z_push 103 (nI 2) rfl rfl rfl ?_
          refine z_bop 104 _ rfl rfl (by first | with_reducible exact zb_0 _ _ | exact zd_0 _ _) ?_
          refine z_cs3 107 rfl rfl rfl (Nat.le_refl _) (Nat.le_refl _) ?_
          refine c_unitAt2 h2 hn (by omega) (hf 2 (by omega)) (hf 3 (by omega)) b2' b3 ?_
          rw [show uA2 true (bs.getD 2 0) (bs.getD 3 0) = (bs.getD 2 0 * 2 ^ 8 + bs.getD 3 0) from if_pos rfl]
          refine z_cs2 110 rfl rfl rfl (Nat.le_refl _) (Nat.le_refl _) ?_
          refine c_joined ?_
          rw [joinI_n (by omega) (by omega)]
          refine z_push 111 (nI 4) rfl rfl rfl ?_
          refine z_cv2 114 rfl rfl (by first | exact h2 | exact h3) rfl (Nat.le_refl _) (Nat.le_refl _) ?_
          refine c_Found_setWhole h3 ?_
          · 
            refine z_goto rfl ?_
            refine z_vret rfl (Nat.le_refl _) (Nat.le_refl _) ?_
            have e9 : lkU true bs = (2, 4, 65536 + (bs.getD 0 0 * 2 ^ 8 + bs.getD 1 0 - 55296) * 2 ^ 10 + (bs.getD 2 0 * 2 ^ 8 + bs.getD 3 0) - 56320) := by rw [lkU, if_pos rfl]; (repeat' split) <;> first | rfl | (exfalso; omega)
            rw [e9] at q
            exact q _ (Fd9.w hs) (Fr.of_set1 (by omega))
        · refine z_aload 76 rfl rfl rfl ?_
          refine z_cv0 79 rfl rfl (by first | exact h2 | exact h3) rfl (Nat.le_refl _) (Nat.le_refl _) ?_
          refine c_Found_setNone h3 ?_
          · 
            refine z_goto rfl ?_
            refine z_vret rfl (Nat.le_refl _) (Nat.le_refl _) ?_
            have e9 : lkU true bs = (0, 0, 0) := by rw [lkU, if_pos rfl]; (repeat' split) <;> first | rfl | (exfalso; omega)
            rw [e9] at q
            exact q _ (Fd9.n hs) (Fr.of_set1 (by omega))
      · refine z_push 45 (nI 1) rfl rfl rfl ?_
        refine z_goto rfl ?_
        refine z_istore 51 rfl rfl rfl rfl ?_
        refine z_iload 53 rfl rfl rfl ?_
        refine z_zeq 56 rfl rfl (by omega) (fun h9 => absurd h9 (by omega)) (fun _ => ?_)
        refine z_iload 57 rfl rfl rfl ?_
        refine z_aload 58 rfl rfl rfl ?_
        refine z_iload 59 rfl rfl rfl ?_
        refine z_push 60 (nI 2) rfl rfl rfl ?_
        refine z_bop 61 _ rfl rfl (by first | with_reducible exact zb_0 _ _ | exact zd_0 _ _) ?_
        refine z_cs3 64 rfl rfl rfl (Nat.le_refl _) (Nat.le_refl _) ?_
        refine c_unitAt2 h2 hn (by omega) (hf 2 (by omega)) (hf 3 (by omega)) b2' b3 ?_
        rw [show uA2 true (bs.getD 2 0) (bs.getD 3 0) = (bs.getD 2 0 * 2 ^ 8 + bs.getD 3 0) from if_pos rfl]
        refine z_cs1 67 rfl rfl rfl (Nat.le_refl _) (Nat.le_refl _) ?_
        refine c_isLowHalf ?_
        rw [jLow_n (by omega)]
        refine z_istore 69 rfl rfl rfl rfl ?_
        refine z_iload 71 rfl rfl rfl ?_
        first | refine z_dne 74 rfl rfl (fun hc71 => ?_) (fun hc71 => ?_)
        · refine z_iload 84 rfl rfl rfl ?_
          refine z_zeq 87 rfl rfl (by omega) (fun h9 => absurd h9 (by omega)) (fun _ => ?_)
          refine z_iload 88 rfl rfl rfl ?_
          refine z_aload 89 rfl rfl rfl ?_
          refine z_iload 90 rfl rfl rfl ?_
          refine z_cs3 93 rfl rfl rfl (Nat.le_refl _) (Nat.le_refl _) ?_
          refine c_unitAt2 h2 hn (by omega) (hf 0 (by omega)) (hf 1 (by omega)) b0 b1 ?_
          rw [show uA2 true (bs.getD 0 0) (bs.getD 1 0) = (bs.getD 0 0 * 2 ^ 8 + bs.getD 1 0) from if_pos rfl]
          refine z_istore 95 rfl rfl rfl rfl ?_
          refine z_aload 97 rfl rfl rfl ?_
          refine z_iload 99 rfl rfl rfl ?_
          refine z_iload 100 rfl rfl rfl ?_
          refine z_aload 101 rfl rfl rfl ?_
          refine z_iload 102 rfl rfl rfl ?_
          refine z_push 103 (nI 2) rfl rfl rfl ?_
          refine z_bop 104 _ rfl rfl (by first | with_reducible exact zb_0 _ _ | exact zd_0 _ _) ?_
          refine z_cs3 107 rfl rfl rfl (Nat.le_refl _) (Nat.le_refl _) ?_
          refine c_unitAt2 h2 hn (by omega) (hf 2 (by omega)) (hf 3 (by omega)) b2' b3 ?_
          rw [show uA2 true (bs.getD 2 0) (bs.getD 3 0) = (bs.getD 2 0 * 2 ^ 8 + bs.getD 3 0) from if_pos rfl]
          refine z_cs2 110 rfl rfl rfl (Nat.le_refl _) (Nat.le_refl _) ?_
          refine c_joined ?_
          rw [joinI_n (by omega) (by omega)]
          refine z_push 111 (nI 4) rfl rfl rfl ?_
          refine z_cv2 114 rfl rfl (by first | exact h2 | exact h3) rfl (Nat.le_refl _) (Nat.le_refl _) ?_
          refine c_Found_setWhole h3 ?_
          · 
            refine z_goto rfl ?_
            refine z_vret rfl (Nat.le_refl _) (Nat.le_refl _) ?_
            have e9 : lkU true bs = (2, 4, 65536 + (bs.getD 0 0 * 2 ^ 8 + bs.getD 1 0 - 55296) * 2 ^ 10 + (bs.getD 2 0 * 2 ^ 8 + bs.getD 3 0) - 56320) := by rw [lkU, if_pos rfl]; (repeat' split) <;> first | rfl | (exfalso; omega)
            rw [e9] at q
            exact q _ (Fd9.w hs) (Fr.of_set1 (by omega))
        · refine z_aload 76 rfl rfl rfl ?_
          refine z_cv0 79 rfl rfl (by first | exact h2 | exact h3) rfl (Nat.le_refl _) (Nat.le_refl _) ?_
          refine c_Found_setNone h3 ?_
          · 
            refine z_goto rfl ?_
            refine z_vret rfl (Nat.le_refl _) (Nat.le_refl _) ?_
            have e9 : lkU true bs = (0, 0, 0) := by rw [lkU, if_pos rfl]; (repeat' split) <;> first | rfl | (exfalso; omega)
            rw [e9] at q
            exact q _ (Fd9.n hs) (Fr.of_set1 (by omega))
set_option maxRecDepth 100000 in
theorem c_findUnitsT {d : Nat} {h : mH} {v n a fo : Nat} {w l p g s : Int32} {bs : List Nat} {f : Nat → Int32} {H : List Sh} {Q : mP} (h2 : h.2 v = aI n f) (hn : n < 2 ^ 31) (hst : a + bs.length ≤ n) (hf : ∀ j, j < bs.length → f (a + j) = nI (bs.getD j 0)) (hb : ∀ j, bs.getD j 0 < 256) (h3 : h.2 fo = oFound w l p g s) (hs : s = 0 ∨ s = 1) (hl1 : 1 ≤ bs.length)  (q : ∀ h', Fd9 h' fo (lkU true bs) H → Fr fo (fo + 1) h h' → Q none h') : mWP (d + 3) 11 [.int (bI true), .ref v, .int (nI a), .int (nI (a + bs.length)), .ref fo] h Q := by
  have b0 := hb 0
  have b1 := hb 1
  have b2' := hb 2
  have b3 := hb 3
  refine z_in [some (.int (bI true)), some (.ref v), some (.int (nI a)), some (.int (nI (a + bs.length))), some (.ref fo), none] (by rfl) rfl rfl rfl ?_
  refine z_iload 1 rfl rfl rfl ?_
  refine z_push 2 (nI 1) rfl rfl rfl ?_
  refine z_bop 3 _ rfl rfl (by first | with_reducible exact zb_0 _ _ | exact zd_0 _ _) ?_
  refine z_iload 4 rfl rfl rfl ?_
  refine z_nlt 7 rfl rfl (by omega) (by omega) (fun hc4 => ?_) (fun hc4 => ?_)
  · refine z_iload 38 rfl rfl rfl ?_
    refine z_aload 39 rfl rfl rfl ?_
    refine z_iload 40 rfl rfl rfl ?_
    refine z_cs3 43 rfl rfl rfl (Nat.le_refl _) (Nat.le_refl _) ?_
    refine c_unitAt2 h2 hn (by omega) (hf 0 (by omega)) (hf 1 (by omega)) b0 b1 ?_
    rw [show uA2 true (bs.getD 0 0) (bs.getD 1 0) = (bs.getD 0 0 * 2 ^ 8 + bs.getD 1 0) from if_pos rfl]
    refine z_istore 45 rfl rfl rfl rfl ?_
    refine z_iload 47 rfl rfl rfl ?_
    refine z_cs1 50 rfl rfl rfl (Nat.le_refl _) (Nat.le_refl _) ?_
    refine c_isHighHalf ?_
    rw [jHigh_n (by omega)]
    first | refine z_deq 53 rfl rfl (fun hc50 => ?_) (fun hc50 => ?_)
    · refine z_iload 67 rfl rfl rfl ?_
      refine z_cs1 70 rfl rfl rfl (Nat.le_refl _) (Nat.le_refl _) ?_
      refine c_isHalf ?_
      rw [jHalf_n (by omega)]
      first | refine z_deq 73 rfl rfl (fun hc70 => ?_) (fun hc70 => ?_)
      · refine z_aload 83 rfl rfl rfl ?_
        refine z_iload 85 rfl rfl rfl ?_
        refine z_push 86 (nI 2) rfl rfl rfl ?_
        refine z_cv2 89 rfl rfl (by first | exact h2 | exact h3) rfl (Nat.le_refl _) (Nat.le_refl _) ?_
        refine c_Found_setWhole h3 ?_
        · 
          refine z_vret rfl (Nat.le_refl _) (Nat.le_refl _) ?_
          have e9 : lkU true bs = (2, 2, (bs.getD 0 0 * 2 ^ 8 + bs.getD 1 0)) := by rw [lkU, if_pos rfl]; (repeat' split) <;> first | rfl | (exfalso; omega)
          rw [e9] at q
          exact q _ (Fd9.w hs) (Fr.of_set1 (by omega))
      · refine z_aload 75 rfl rfl rfl ?_
        refine z_cv0 78 rfl rfl (by first | exact h2 | exact h3) rfl (Nat.le_refl _) (Nat.le_refl _) ?_
        refine c_Found_setNone h3 ?_
        · 
          refine z_goto rfl ?_
          refine z_vret rfl (Nat.le_refl _) (Nat.le_refl _) ?_
          have e9 : lkU true bs = (0, 0, 0) := by rw [lkU, if_pos rfl]; (repeat' split) <;> first | rfl | (exfalso; omega)
          rw [e9] at q
          exact q _ (Fd9.n hs) (Fr.of_set1 (by omega))
    · refine z_iload 54 rfl rfl rfl ?_
      refine z_aload 55 rfl rfl rfl ?_
      refine z_iload 56 rfl rfl rfl ?_
      refine z_iload 57 rfl rfl rfl ?_
      refine z_aload 59 rfl rfl rfl ?_
      refine z_cs5 62 rfl rfl rfl (Nat.le_refl _) (Nat.le_refl _) ?_
      refine c_findLowHalfT (H := H) h2 hn hst hf hb h3 hs (by omega) hc50 (fun h' hd hF => ?_)
      · 
        refine z_goto rfl ?_
        refine z_vret rfl (Nat.le_refl _) (Nat.le_refl _) ?_
        exact q h' hd hF
  · refine z_iload 8 rfl rfl rfl ?_
    refine z_beq 11 rfl rfl (fun h9 => absurd h9 (by decide)) (fun _ => ?_)
    refine z_aload 12 rfl rfl rfl ?_
    refine z_iload 13 rfl rfl rfl ?_
    refine z_ald 14 rfl rfl (by first | exact h2 | exact h3) rfl (by omega) (by omega) ?_
    rw [show f a = nI (bs.getD 0 0) from hf 0 (by omega)]
    refine z_push 16 (nI 8) rfl rfl rfl ?_
    refine z_bop 17 _ rfl rfl (shl_n 8 (by decide) (by omega)) ?_
    refine z_cs1 20 rfl rfl rfl (Nat.le_refl _) (Nat.le_refl _) ?_
    refine c_isLowHalf ?_
    rw [jLow_n (by omega)]
    first | refine z_deq 23 rfl rfl (fun hc20 => ?_) (fun hc20 => ?_)
    · refine z_aload 33 rfl rfl rfl ?_
      refine z_cv0 36 rfl rfl (by first | exact h2 | exact h3) rfl (Nat.le_refl _) (Nat.le_refl _) ?_
      refine c_Found_setPart h3 ?_
      · 
        refine z_vret rfl (Nat.le_refl _) (Nat.le_refl _) ?_
        have e9 : lkU true bs = (1, 0, 0) := by rw [lkU, if_pos rfl]; (repeat' split) <;> first | rfl | (exfalso; omega)
        rw [e9] at q
        exact q _ (Fd9.p hs) (Fr.of_set1 (by omega))
    · refine z_aload 25 rfl rfl rfl ?_
      refine z_cv0 28 rfl rfl (by first | exact h2 | exact h3) rfl (Nat.le_refl _) (Nat.le_refl _) ?_
      refine c_Found_setNone h3 ?_
      · 
        refine z_goto rfl ?_
        refine z_vret rfl (Nat.le_refl _) (Nat.le_refl _) ?_
        have e9 : lkU true bs = (0, 0, 0) := by rw [lkU, if_pos rfl]; (repeat' split) <;> first | rfl | (exfalso; omega)
        rw [e9] at q
        exact q _ (Fd9.n hs) (Fr.of_set1 (by omega))
set_option maxRecDepth 100000 in
theorem c_findLowHalfF {d : Nat} {h : mH} {v n a fo : Nat} {w l p g s : Int32} {bs : List Nat} {f : Nat → Int32} {H : List Sh} {Q : mP} (h2 : h.2 v = aI n f) (hn : n < 2 ^ 31) (hst : a + bs.length ≤ n) (hf : ∀ j, j < bs.length → f (a + j) = nI (bs.getD j 0)) (hb : ∀ j, bs.getD j 0 < 256) (h3 : h.2 fo = oFound w l p g s) (hs : s = 0 ∨ s = 1) (hl2 : 2 ≤ bs.length) (hh : 55296 ≤ (bs.getD 1 0 * 2 ^ 8 + bs.getD 0 0) ∧ (bs.getD 1 0 * 2 ^ 8 + bs.getD 0 0) ≤ 56319)  (q : ∀ h', Fd9 h' fo (lkU false bs) H → Fr fo (fo + 1) h h' → Q none h') : mWP (d + 2) 12 [.int (bI false), .ref v, .int (nI a), .int (nI (a + bs.length)), .ref fo] h Q := by
  have b0 := hb 0
  have b1 := hb 1
  have b2' := hb 2
  have b3 := hb 3
  refine z_in [some (.int (bI false)), some (.ref v), some (.int (nI a)), some (.int (nI (a + bs.length))), some (.ref fo), none, none, none, none] (by rfl) rfl rfl rfl ?_
  refine z_iload 1 rfl rfl rfl ?_
  refine z_iload 2 rfl rfl rfl ?_
  refine z_bop 3 _ rfl rfl (show mBop 1 (nI (a + bs.length)) (nI a) = nI bs.length from by rw [zb_1 (by omega), Nat.add_sub_cancel_left]) ?_
  refine z_push 4 (nI 2) rfl rfl rfl ?_
  refine z_bop 5 _ rfl rfl (by first | with_reducible exact zb_1 (by omega) | exact zd_1 _ _) ?_
  refine z_istore 7 rfl rfl rfl rfl ?_
  refine z_iload 9 rfl rfl rfl ?_
  refine z_push 10 (nI 2) rfl rfl rfl ?_
  refine z_nlt 13 rfl rfl (by omega) (by omega) (fun hc10 => ?_) (fun hc10 => ?_)
  · refine z_push 18 (nI 0) rfl rfl rfl ?_
    refine z_istore 20 rfl rfl rfl rfl ?_
    refine z_iload 22 rfl rfl rfl ?_
    refine z_push 23 (nI 1) rfl rfl rfl ?_
    refine z_nlt 26 rfl rfl (by omega) (by omega) (fun hc23 => ?_) (fun hc23 => ?_)
    · refine z_push 45 (nI 1) rfl rfl rfl ?_
      refine z_goto rfl ?_
      refine z_istore 51 rfl rfl rfl rfl ?_
      refine z_iload 53 rfl rfl rfl ?_
      refine z_zeq 56 rfl rfl (by omega) (fun _ => ?_) (fun h9 => absurd h9 (by omega))
      refine z_iload 71 rfl rfl rfl ?_
      refine z_zne 74 rfl rfl (by omega) (fun _ => ?_) (fun h9 => absurd h9 (by omega))
      refine z_iload 84 rfl rfl rfl ?_
      refine z_zeq 87 rfl rfl (by omega) (fun _ => ?_) (fun h9 => absurd h9 (by omega))
      refine z_aload 119 rfl rfl rfl ?_
      refine z_cv0 122 rfl rfl (by first | exact h2 | exact h3) rfl (Nat.le_refl _) (Nat.le_refl _) ?_
      refine c_Found_setPart h3 ?_
      · 
        refine z_vret rfl (Nat.le_refl _) (Nat.le_refl _) ?_
        have e9 : lkU false bs = (1, 0, 0) := by rw [lkU, if_neg (by decide)]; (repeat' split) <;> first | rfl | (exfalso; omega)
        rw [e9] at q
        exact q _ (Fd9.p hs) (Fr.of_set1 (by omega))
    · refine z_iload 27 rfl rfl rfl ?_
      refine z_beq 30 rfl rfl (fun _ => ?_) (fun h9 => absurd h9 (by decide))
      refine z_push 45 (nI 1) rfl rfl rfl ?_
      refine z_goto rfl ?_
      refine z_istore 51 rfl rfl rfl rfl ?_
      refine z_iload 53 rfl rfl rfl ?_
      refine z_zeq 56 rfl rfl (by omega) (fun _ => ?_) (fun h9 => absurd h9 (by omega))
      refine z_iload 71 rfl rfl rfl ?_
      refine z_zne 74 rfl rfl (by omega) (fun _ => ?_) (fun h9 => absurd h9 (by omega))
      refine z_iload 84 rfl rfl rfl ?_
      refine z_zeq 87 rfl rfl (by omega) (fun _ => ?_) (fun h9 => absurd h9 (by omega))
      refine z_aload 119 rfl rfl rfl ?_
      refine z_cv0 122 rfl rfl (by first | exact h2 | exact h3) rfl (Nat.le_refl _) (Nat.le_refl _) ?_
      refine c_Found_setPart h3 ?_
      · 
        refine z_vret rfl (Nat.le_refl _) (Nat.le_refl _) ?_
        have e9 : lkU false bs = (1, 0, 0) := by rw [lkU, if_neg (by decide)]; (repeat' split) <;> first | rfl | (exfalso; omega)
        rw [e9] at q
        exact q _ (Fd9.p hs) (Fr.of_set1 (by omega))
  · refine z_push 14 (nI 1) rfl rfl rfl ?_
    refine z_goto rfl ?_
    refine z_istore 20 rfl rfl rfl rfl ?_
    refine z_iload 22 rfl rfl rfl ?_
    refine z_push 23 (nI 1) rfl rfl rfl ?_
    refine z_nlt 26 rfl rfl (by omega) (by omega) (fun hc23 => ?_) (fun hc23 => ?_)
    · refine z_push 45 (nI 1) rfl rfl rfl ?_
      refine z_goto rfl ?_
      refine z_istore 51 rfl rfl rfl rfl ?_
      refine z_iload 53 rfl rfl rfl ?_
      refine z_zeq 56 rfl rfl (by omega) (fun h9 => absurd h9 (by omega)) (fun _ => ?_)
      refine z_iload 57 rfl rfl rfl ?_
      refine z_aload 58 rfl rfl rfl ?_
      refine z_iload 59 rfl rfl rfl ?_
      refine z_push 60 (nI 2) rfl rfl rfl ?_
      refine z_bop 61 _ rfl rfl (by first | with_reducible exact zb_0 _ _ | exact zd_0 _ _) ?_
      refine z_cs3 64 rfl rfl rfl (Nat.le_refl _) (Nat.le_refl _) ?_
      refine c_unitAt2 h2 hn (by omega) (hf 2 (by omega)) (hf 3 (by omega)) b2' b3 ?_
      rw [show uA2 false (bs.getD 2 0) (bs.getD 3 0) = (bs.getD 3 0 * 2 ^ 8 + bs.getD 2 0) from if_neg (by decide)]
      refine z_cs1 67 rfl rfl rfl (Nat.le_refl _) (Nat.le_refl _) ?_
      refine c_isLowHalf ?_
      rw [jLow_n (by omega)]
      refine z_istore 69 rfl rfl rfl rfl ?_
      refine z_iload 71 rfl rfl rfl ?_
      first | refine z_dne 74 rfl rfl (fun hc71 => ?_) (fun hc71 => ?_)
      · refine z_iload 84 rfl rfl rfl ?_
        refine z_zeq 87 rfl rfl (by omega) (fun h9 => absurd h9 (by omega)) (fun _ => ?_)
        refine z_iload 88 rfl rfl rfl ?_
        refine z_aload 89 rfl rfl rfl ?_
        refine z_iload 90 rfl rfl rfl ?_
        refine z_cs3 93 rfl rfl rfl (Nat.le_refl _) (Nat.le_refl _) ?_
        refine c_unitAt2 h2 hn (by omega) (hf 0 (by omega)) (hf 1 (by omega)) b0 b1 ?_
        rw [show uA2 false (bs.getD 0 0) (bs.getD 1 0) = (bs.getD 1 0 * 2 ^ 8 + bs.getD 0 0) from if_neg (by decide)]
        refine z_istore 95 rfl rfl rfl rfl ?_
        refine z_aload 97 rfl rfl rfl ?_
        refine z_iload 99 rfl rfl rfl ?_
        refine z_iload 100 rfl rfl rfl ?_
        refine z_aload 101 rfl rfl rfl ?_
        refine z_iload 102 rfl rfl rfl ?_
        refine z_push 103 (nI 2) rfl rfl rfl ?_
        refine z_bop 104 _ rfl rfl (by first | with_reducible exact zb_0 _ _ | exact zd_0 _ _) ?_
        refine z_cs3 107 rfl rfl rfl (Nat.le_refl _) (Nat.le_refl _) ?_
        refine c_unitAt2 h2 hn (by omega) (hf 2 (by omega)) (hf 3 (by omega)) b2' b3 ?_
        rw [show uA2 false (bs.getD 2 0) (bs.getD 3 0) = (bs.getD 3 0 * 2 ^ 8 + bs.getD 2 0) from if_neg (by decide)]
        refine z_cs2 110 rfl rfl rfl (Nat.le_refl _) (Nat.le_refl _) ?_
        refine c_joined ?_
        rw [joinI_n (by omega) (by omega)]
        refine z_push 111 (nI 4) rfl rfl rfl ?_
        refine z_cv2 114 rfl rfl (by first | exact h2 | exact h3) rfl (Nat.le_refl _) (Nat.le_refl _) ?_
        refine c_Found_setWhole h3 ?_
        · 
          refine z_goto rfl ?_
          refine z_vret rfl (Nat.le_refl _) (Nat.le_refl _) ?_
          have e9 : lkU false bs = (2, 4, 65536 + (bs.getD 1 0 * 2 ^ 8 + bs.getD 0 0 - 55296) * 2 ^ 10 + (bs.getD 3 0 * 2 ^ 8 + bs.getD 2 0) - 56320) := by rw [lkU, if_neg (by decide)]; (repeat' split) <;> first | rfl | (exfalso; omega)
          rw [e9] at q
          exact q _ (Fd9.w hs) (Fr.of_set1 (by omega))
      · refine z_aload 76 rfl rfl rfl ?_
        refine z_cv0 79 rfl rfl (by first | exact h2 | exact h3) rfl (Nat.le_refl _) (Nat.le_refl _) ?_
        refine c_Found_setNone h3 ?_
        · 
          refine z_goto rfl ?_
          refine z_vret rfl (Nat.le_refl _) (Nat.le_refl _) ?_
          have e9 : lkU false bs = (0, 0, 0) := by rw [lkU, if_neg (by decide)]; (repeat' split) <;> first | rfl | (exfalso; omega)
          rw [e9] at q
          exact q _ (Fd9.n hs) (Fr.of_set1 (by omega))
    · refine z_iload 27 rfl rfl rfl ?_
      refine z_beq 30 rfl rfl (fun _ => ?_) (fun h9 => absurd h9 (by decide))
      refine z_push 45 (nI 1) rfl rfl rfl ?_
      refine z_goto rfl ?_
      refine z_istore 51 rfl rfl rfl rfl ?_
      refine z_iload 53 rfl rfl rfl ?_
      refine z_zeq 56 rfl rfl (by omega) (fun h9 => absurd h9 (by omega)) (fun _ => ?_)
      refine z_iload 57 rfl rfl rfl ?_
      refine z_aload 58 rfl rfl rfl ?_
      refine z_iload 59 rfl rfl rfl ?_
      refine z_push 60 (nI 2) rfl rfl rfl ?_
      refine z_bop 61 _ rfl rfl (by first | with_reducible exact zb_0 _ _ | exact zd_0 _ _) ?_
      refine z_cs3 64 rfl rfl rfl (Nat.le_refl _) (Nat.le_refl _) ?_
      refine c_unitAt2 h2 hn (by omega) (hf 2 (by omega)) (hf 3 (by omega)) b2' b3 ?_
      rw [show uA2 false (bs.getD 2 0) (bs.getD 3 0) = (bs.getD 3 0 * 2 ^ 8 + bs.getD 2 0) from if_neg (by decide)]
      refine z_cs1 67 rfl rfl rfl (Nat.le_refl _) (Nat.le_refl _) ?_
      refine c_isLowHalf ?_
      rw [jLow_n (by omega)]
      refine z_istore 69 rfl rfl rfl rfl ?_
      refine z_iload 71 rfl rfl rfl ?_
      first | refine z_dne 74 rfl rfl (fun hc71 => ?_) (fun hc71 => ?_)
      · refine z_iload 84 rfl rfl rfl ?_
        refine z_zeq 87 rfl rfl (by omega) (fun h9 => absurd h9 (by omega)) (fun _ => ?_)
        refine z_iload 88 rfl rfl rfl ?_
        refine z_aload 89 rfl rfl rfl ?_
        refine z_iload 90 rfl rfl rfl ?_
        refine z_cs3 93 rfl rfl rfl (Nat.le_refl _) (Nat.le_refl _) ?_
        refine c_unitAt2 h2 hn (by omega) (hf 0 (by omega)) (hf 1 (by omega)) b0 b1 ?_
        rw [show uA2 false (bs.getD 0 0) (bs.getD 1 0) = (bs.getD 1 0 * 2 ^ 8 + bs.getD 0 0) from if_neg (by decide)]
        refine z_istore 95 rfl rfl rfl rfl ?_
        refine z_aload 97 rfl rfl rfl ?_
        refine z_iload 99 rfl rfl rfl ?_
        refine z_iload 100 rfl rfl rfl ?_
        refine z_aload 101 rfl rfl rfl ?_
        refine z_iload 102 rfl rfl rfl ?_
        refine z_push 103 (nI 2) rfl rfl rfl ?_
        refine z_bop 104 _ rfl rfl (by first | with_reducible exact zb_0 _ _ | exact zd_0 _ _) ?_
        refine z_cs3 107 rfl rfl rfl (Nat.le_refl _) (Nat.le_refl _) ?_
        refine c_unitAt2 h2 hn (by omega) (hf 2 (by omega)) (hf 3 (by omega)) b2' b3 ?_
        rw [show uA2 false (bs.getD 2 0) (bs.getD 3 0) = (bs.getD 3 0 * 2 ^ 8 + bs.getD 2 0) from if_neg (by decide)]
        refine z_cs2 110 rfl rfl rfl (Nat.le_refl _) (Nat.le_refl _) ?_
        refine c_joined ?_
        rw [joinI_n (by omega) (by omega)]
        refine z_push 111 (nI 4) rfl rfl rfl ?_
        refine z_cv2 114 rfl rfl (by first | exact h2 | exact h3) rfl (Nat.le_refl _) (Nat.le_refl _) ?_
        refine c_Found_setWhole h3 ?_
        · 
          refine z_goto rfl ?_
          refine z_vret rfl (Nat.le_refl _) (Nat.le_refl _) ?_
          have e9 : lkU false bs = (2, 4, 65536 + (bs.getD 1 0 * 2 ^ 8 + bs.getD 0 0 - 55296) * 2 ^ 10 + (bs.getD 3 0 * 2 ^ 8 + bs.getD 2 0) - 56320) := by rw [lkU, if_neg (by decide)]; (repeat' split) <;> first | rfl | (exfalso; omega)
          rw [e9] at q
          exact q _ (Fd9.w hs) (Fr.of_set1 (by omega))
      · refine z_aload 76 rfl rfl rfl ?_
        refine z_cv0 79 rfl rfl (by first | exact h2 | exact h3) rfl (Nat.le_refl _) (Nat.le_refl _) ?_
        refine c_Found_setNone h3 ?_
        · 
          refine z_goto rfl ?_
          refine z_vret rfl (Nat.le_refl _) (Nat.le_refl _) ?_
          have e9 : lkU false bs = (0, 0, 0) := by rw [lkU, if_neg (by decide)]; (repeat' split) <;> first | rfl | (exfalso; omega)
          rw [e9] at q
          exact q _ (Fd9.n hs) (Fr.of_set1 (by omega))
set_option maxRecDepth 100000 in
theorem c_findUnitsF {d : Nat} {h : mH} {v n a fo : Nat} {w l p g s : Int32} {bs : List Nat} {f : Nat → Int32} {H : List Sh} {Q : mP} (h2 : h.2 v = aI n f) (hn : n < 2 ^ 31) (hst : a + bs.length ≤ n) (hf : ∀ j, j < bs.length → f (a + j) = nI (bs.getD j 0)) (hb : ∀ j, bs.getD j 0 < 256) (h3 : h.2 fo = oFound w l p g s) (hs : s = 0 ∨ s = 1) (hl1 : 1 ≤ bs.length)  (q : ∀ h', Fd9 h' fo (lkU false bs) H → Fr fo (fo + 1) h h' → Q none h') : mWP (d + 3) 11 [.int (bI false), .ref v, .int (nI a), .int (nI (a + bs.length)), .ref fo] h Q := by
  have b0 := hb 0
  have b1 := hb 1
  have b2' := hb 2
  have b3 := hb 3
  refine z_in [some (.int (bI false)), some (.ref v), some (.int (nI a)), some (.int (nI (a + bs.length))), some (.ref fo), none] (by rfl) rfl rfl rfl ?_
  refine z_iload 1 rfl rfl rfl ?_
  refine z_push 2 (nI 1) rfl rfl rfl ?_
  refine z_bop 3 _ rfl rfl (by first | with_reducible exact zb_0 _ _ | exact zd_0 _ _) ?_
  refine z_iload 4 rfl rfl rfl ?_
  refine z_nlt 7 rfl rfl (by omega) (by omega) (fun hc4 => ?_) (fun hc4 => ?_)
  · refine z_iload 38 rfl rfl rfl ?_
    refine z_aload 39 rfl rfl rfl ?_
    refine z_iload 40 rfl rfl rfl ?_
    refine z_cs3 43 rfl rfl rfl (Nat.le_refl _) (Nat.le_refl _) ?_
    refine c_unitAt2 h2 hn (by omega) (hf 0 (by omega)) (hf 1 (by omega)) b0 b1 ?_
    rw [show uA2 false (bs.getD 0 0) (bs.getD 1 0) = (bs.getD 1 0 * 2 ^ 8 + bs.getD 0 0) from if_neg (by decide)]
    refine z_istore 45 rfl rfl rfl rfl ?_
    refine z_iload 47 rfl rfl rfl ?_
    refine z_cs1 50 rfl rfl rfl (Nat.le_refl _) (Nat.le_refl _) ?_
    refine c_isHighHalf ?_
    rw [jHigh_n (by omega)]
    first | refine z_deq 53 rfl rfl (fun hc50 => ?_) (fun hc50 => ?_)
    · refine z_iload 67 rfl rfl rfl ?_
      refine z_cs1 70 rfl rfl rfl (Nat.le_refl _) (Nat.le_refl _) ?_
      refine c_isHalf ?_
      rw [jHalf_n (by omega)]
      first | refine z_deq 73 rfl rfl (fun hc70 => ?_) (fun hc70 => ?_)
      · refine z_aload 83 rfl rfl rfl ?_
        refine z_iload 85 rfl rfl rfl ?_
        refine z_push 86 (nI 2) rfl rfl rfl ?_
        refine z_cv2 89 rfl rfl (by first | exact h2 | exact h3) rfl (Nat.le_refl _) (Nat.le_refl _) ?_
        refine c_Found_setWhole h3 ?_
        · 
          refine z_vret rfl (Nat.le_refl _) (Nat.le_refl _) ?_
          have e9 : lkU false bs = (2, 2, (bs.getD 1 0 * 2 ^ 8 + bs.getD 0 0)) := by rw [lkU, if_neg (by decide)]; (repeat' split) <;> first | rfl | (exfalso; omega)
          rw [e9] at q
          exact q _ (Fd9.w hs) (Fr.of_set1 (by omega))
      · refine z_aload 75 rfl rfl rfl ?_
        refine z_cv0 78 rfl rfl (by first | exact h2 | exact h3) rfl (Nat.le_refl _) (Nat.le_refl _) ?_
        refine c_Found_setNone h3 ?_
        · 
          refine z_goto rfl ?_
          refine z_vret rfl (Nat.le_refl _) (Nat.le_refl _) ?_
          have e9 : lkU false bs = (0, 0, 0) := by rw [lkU, if_neg (by decide)]; (repeat' split) <;> first | rfl | (exfalso; omega)
          rw [e9] at q
          exact q _ (Fd9.n hs) (Fr.of_set1 (by omega))
    · refine z_iload 54 rfl rfl rfl ?_
      refine z_aload 55 rfl rfl rfl ?_
      refine z_iload 56 rfl rfl rfl ?_
      refine z_iload 57 rfl rfl rfl ?_
      refine z_aload 59 rfl rfl rfl ?_
      refine z_cs5 62 rfl rfl rfl (Nat.le_refl _) (Nat.le_refl _) ?_
      refine c_findLowHalfF (H := H) h2 hn hst hf hb h3 hs (by omega) hc50 (fun h' hd hF => ?_)
      · 
        refine z_goto rfl ?_
        refine z_vret rfl (Nat.le_refl _) (Nat.le_refl _) ?_
        exact q h' hd hF
  · refine z_iload 8 rfl rfl rfl ?_
    refine z_beq 11 rfl rfl (fun _ => ?_) (fun h9 => absurd h9 (by decide))
    refine z_aload 33 rfl rfl rfl ?_
    refine z_cv0 36 rfl rfl (by first | exact h2 | exact h3) rfl (Nat.le_refl _) (Nat.le_refl _) ?_
    refine c_Found_setPart h3 ?_
    · 
      refine z_vret rfl (Nat.le_refl _) (Nat.le_refl _) ?_
      have e9 : lkU false bs = (1, 0, 0) := by rw [lkU, if_neg (by decide)]; (repeat' split) <;> first | rfl | (exfalso; omega)
      rw [e9] at q
      exact q _ (Fd9.p hs) (Fr.of_set1 (by omega))
