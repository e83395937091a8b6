set_option maxRecDepth 100000 in
theorem c_findFew {d : Nat} {h : mH} {v n9 a fo : Nat} {w l p g s : Int32} {bs : List Nat} {f : Nat → Int32} {H : List Sh} {Q : mP} (h2 : h.2 v = aI n9 f) (hn : n9 < 2 ^ 31) (hst : a + bs.length ≤ n9) (hf : ∀ j, j < bs.length → f (a + j) = nI (bs.getD j 0)) (hb : ∀ j, bs.getD j 0 < 256) (h3 : h.2 fo = oFound w l p g s) (hs : s = 0 ∨ s = 1) (hl1 : 1 ≤ bs.length)  (q : ∀ h', Fd9 h' fo (lkF bs) H → Fr fo (fo + 1) h h' → Q none h') : mWP (d + 3) 14 [.ref v, .int (nI a), .int (nI (a + bs.length)), .ref fo] h Q := by
  have b0 := hb 0
  obtain ⟨n, hL⟩ : ∃ n, fwL (bs.getD 0 0) = n := ⟨_, rfl⟩
  have hn4 : n ≤ 4 ∧ (n = 1 → bs.getD 0 0 < 128) := by
    rw [← hL, fwL]
    (repeat' split) <;> omega
  obtain ⟨hn4, hn1⟩ := hn4
  obtain ⟨t, ht0, ht1, ht2, ht3⟩ := minN n bs.length
  have htn : t ≤ n := ht1
  have hcf : cfT bs n t = lkF bs := by
    rw [← hL]
    exact cfT_ok b0 hl1 (by rw [hL]; omega)
  have hbC := bwC (t := t) (bs := bs) b0 hn4 hn1 (by omega)
  have hbe : 0 < 2 ^ (6 * (n - t)) := Nat.two_pow_pos _
  have hbm : (bwF (v0F n (bs.getD 0 0)) bs (t - 1) + 1) * 2 ^ (6 * (n - t)) = bwF (v0F n (bs.getD 0 0)) bs (t - 1) * 2 ^ (6 * (n - t)) + 2 ^ (6 * (n - t)) := by rw [Nat.add_mul, Nat.one_mul]
  have loop : ∀ m9 i m, t + 1 < i + m9 → 1 ≤ i → (i ≤ t ∨ (t = 0 ∧ i = 1)) → m = (decide (n ≠ 0) && mvF bs (i - 1)) → mZ (d + 2) tk_14 0 0 Q 56 [some (.ref v), some (.int (nI a)), some (.int (nI (a + bs.length))), some (.ref fo), some (.int (nI n)), some (.int (nI t)), some (.int (nI (bwF (v0F n (bs.getD 0 0)) bs (i - 1)))), some (.int (bI m)), some (.int (nI i))] [] h 0 0 := by
    intro m9
    induction m9 with
    | zero => intro i m h1 h2; omega
    | succ m9 ih =>
      intro i m h1 h1b h2b hm
      have hbw := bwB (t := t) (bs := bs) b0 hn4 hn1 htn (i - 1) (by omega)
      have hbi := hb i
      refine z_iload 58 rfl rfl rfl ?_
      refine z_iload 60 rfl rfl rfl ?_
      refine z_nge 63 rfl rfl (by omega) (by omega) (fun hc60 => ?_) (fun hc60 => ?_)
      · have hit : i - 1 = t - 1 := by omega
        rw [hit] at hm ⊢
        refine z_push 116 (nI 6) rfl rfl rfl ?_
        refine z_iload 118 rfl rfl rfl ?_
        refine z_iload 120 rfl rfl rfl ?_
        refine z_bop 121 _ rfl rfl (zb_1 (by omega)) ?_
        refine z_bop 122 _ rfl rfl (zb_2 _ _) ?_
        refine z_istore 124 rfl rfl rfl rfl ?_
        refine z_iload 126 rfl rfl rfl ?_
        first | refine z_beq 129 rfl rfl (fun hc126 => ?_) (fun hc126 => ?_)
        · refine z_aload 152 rfl rfl rfl ?_
          refine z_cv0 155 rfl rfl (by first | exact h2 | exact h3) rfl (Nat.le_refl _) (Nat.le_refl _) ?_
          refine c_Found_setNone h3 ?_
          · refine z_goto rfl ?_
            refine z_vret rfl (Nat.le_refl _) (Nat.le_refl _) ?_
            have e9 : cfT bs n t = (0, 0, 0) := by rw [cfT, if_neg (fun h9 => by rw [hm, h9.2.1, decide_eq_true h9.1] at hc126; cases hc126)]
            rw [← hcf, e9] at q
            exact q _ (Fd9.n hs) (Fr.of_set1 (by omega))
        · have hm1 : n ≠ 0 ∧ mvF bs (t - 1) = true := by
            rw [hm, Bool.and_eq_true] at hc126
            exact ⟨of_decide_eq_true hc126.1, hc126.2⟩
          refine z_iload 131 rfl rfl rfl ?_
          refine z_iload 133 rfl rfl rfl ?_
          refine z_bop 134 _ rfl rfl (shl_n _ (by omega) (by omega)) ?_
          refine z_iload 136 rfl rfl rfl ?_
          refine z_push 137 (nI 1) rfl rfl rfl ?_
          refine z_bop 138 _ rfl rfl (zb_0 _ _) ?_
          refine z_iload 140 rfl rfl rfl ?_
          refine z_bop 141 _ rfl rfl (shl_n _ (by omega) (by omega)) ?_
          refine z_push 142 (nI 1) rfl rfl rfl ?_
          refine z_bop 143 _ rfl rfl (by first | with_reducible exact zb_1 (by omega) | exact zd_1 _ _) ?_
          refine z_iload 145 rfl rfl rfl ?_
          refine z_cs3 148 rfl rfl rfl (Nat.le_refl _) (Nat.le_refl _) ?_
          refine c_holdsPoint (by omega) ?_
          rw [hldP_n (by omega) (by omega)]
          first | refine z_bne 151 rfl rfl (fun hc148 => ?_) (fun hc148 => ?_)
          · refine z_iload 160 rfl rfl rfl ?_
            refine z_iload 162 rfl rfl rfl ?_
            refine z_nne 165 rfl rfl (by omega) (by omega) (fun hc162 => ?_) (fun hc162 => ?_)
            · refine z_aload 177 rfl rfl rfl ?_
              refine z_cv0 180 rfl rfl (by first | exact h2 | exact h3) rfl (Nat.le_refl _) (Nat.le_refl _) ?_
              refine c_Found_setPart h3 ?_
              · refine z_vret rfl (Nat.le_refl _) (Nat.le_refl _) ?_
                have e9 : cfT bs n t = (1, 0, 0) := by rw [cfT, if_pos ⟨hm1.1, hm1.2, (by unfold fzE; exact hc148)⟩, if_neg (by omega)]
                rw [← hcf, e9] at q
                exact q _ (Fd9.p hs) (Fr.of_set1 (by omega))
            · refine z_aload 166 rfl rfl rfl ?_
              refine z_iload 168 rfl rfl rfl ?_
              refine z_iload 170 rfl rfl rfl ?_
              refine z_cv2 173 rfl rfl (by first | exact h2 | exact h3) rfl (Nat.le_refl _) (Nat.le_refl _) ?_
              refine c_Found_setWhole h3 ?_
              · refine z_goto rfl ?_
                refine z_vret rfl (Nat.le_refl _) (Nat.le_refl _) ?_
                have e9 : cfT bs n t = (2, n, (bwF (v0F n (bs.getD 0 0)) bs (t - 1))) := by rw [cfT, if_pos ⟨hm1.1, hm1.2, (by unfold fzE; exact hc148)⟩, if_pos (by omega)]
                rw [← hcf, e9] at q
                exact q _ (Fd9.w hs) (Fr.of_set1 (by omega))
          · refine z_aload 152 rfl rfl rfl ?_
            refine z_cv0 155 rfl rfl (by first | exact h2 | exact h3) rfl (Nat.le_refl _) (Nat.le_refl _) ?_
            refine c_Found_setNone h3 ?_
            · refine z_goto rfl ?_
              refine z_vret rfl (Nat.le_refl _) (Nat.le_refl _) ?_
              have e9 : cfT bs n t = (0, 0, 0) := by rw [cfT, if_neg (fun h9 => by have h8 := h9.2.2; unfold fzE at h8; rw [hc148] at h8; cases h8)]
              rw [← hcf, e9] at q
              exact q _ (Fd9.n hs) (Fr.of_set1 (by omega))
      · refine z_iload 65 rfl rfl rfl ?_
        first | refine z_beq 68 rfl rfl (fun hc65 => ?_) (fun hc65 => ?_)
        · refine z_push 89 (nI 0) rfl rfl rfl ?_
          refine z_istore 91 rfl rfl rfl rfl ?_
          refine z_iload 93 rfl rfl rfl ?_
          refine z_push 95 (nI 6) rfl rfl rfl ?_
          refine z_bop 96 _ rfl rfl (shl_n 6 (by decide) (by omega)) ?_
          refine z_aload 97 rfl rfl rfl ?_
          refine z_iload 98 rfl rfl rfl ?_
          refine z_iload 100 rfl rfl rfl ?_
          refine z_bop 101 _ rfl rfl (by first | with_reducible exact zb_0 _ _ | exact zd_0 _ _) ?_
          refine z_ald 102 rfl rfl (by first | exact h2 | exact h3) rfl (by omega) (by omega) ?_
          rw [hf i (by omega)]
          refine z_push 104 (nI 63) rfl rfl rfl ?_
          refine z_bop 105 _ rfl rfl (and_n (by omega) 6 (by decide)) ?_
          refine z_bop 106 _ rfl rfl (or_n (k := 6) (by omega) (by omega)) ?_
          refine z_istore 108 rfl rfl rfl rfl ?_
          refine z_iinc 111 _ rfl rfl rfl rfl (by first | with_reducible exact zi_1 _ | rfl) ?_
          refine z_goto rfl ?_
          have eb : bwF (v0F n (bs.getD 0 0)) bs i = bwF (v0F n (bs.getD 0 0)) bs (i - 1) * 2 ^ 6 + bs.getD i 0 % 2 ^ 6 := by
            obtain ⟨j, rfl⟩ : ∃ j, i = j + 1 := ⟨i - 1, by omega⟩
            rfl
          have em : mvF bs i = (mvF bs (i - 1) && decide (128 ≤ bs.getD i 0 ∧ bs.getD i 0 ≤ 191)) := by
            obtain ⟨j, rfl⟩ : ∃ j, i = j + 1 := ⟨i - 1, by omega⟩
            rfl
          rw [← eb]
          exact ih (i + 1) false (by omega) (by omega) (by omega) (by rw [Nat.add_sub_cancel, em, ← Bool.and_assoc, ← hm, hc65]; rfl)
        · refine z_aload 69 rfl rfl rfl ?_
          refine z_iload 70 rfl rfl rfl ?_
          refine z_iload 72 rfl rfl rfl ?_
          refine z_bop 73 _ rfl rfl (by first | with_reducible exact zb_0 _ _ | exact zd_0 _ _) ?_
          refine z_ald 74 rfl rfl (by first | exact h2 | exact h3) rfl (by omega) (by omega) ?_
          rw [hf i (by omega)]
          refine z_push 77 (nI 192) rfl rfl rfl ?_
          refine z_bop 78 _ rfl rfl (and192 _ (by omega)) ?_
          refine z_push 81 (nI 128) rfl rfl rfl ?_
          refine z_nne 84 rfl rfl (by omega) (by omega) (fun hc81 => ?_) (fun hc81 => ?_)
          · refine z_push 89 (nI 0) rfl rfl rfl ?_
            refine z_istore 91 rfl rfl rfl rfl ?_
            refine z_iload 93 rfl rfl rfl ?_
            refine z_push 95 (nI 6) rfl rfl rfl ?_
            refine z_bop 96 _ rfl rfl (shl_n 6 (by decide) (by omega)) ?_
            refine z_aload 97 rfl rfl rfl ?_
            refine z_iload 98 rfl rfl rfl ?_
            refine z_iload 100 rfl rfl rfl ?_
            refine z_bop 101 _ rfl rfl (by first | with_reducible exact zb_0 _ _ | exact zd_0 _ _) ?_
            refine z_ald 102 rfl rfl (by first | exact h2 | exact h3) rfl (by omega) (by omega) ?_
            rw [hf i (by omega)]
            refine z_push 104 (nI 63) rfl rfl rfl ?_
            refine z_bop 105 _ rfl rfl (and_n (by omega) 6 (by decide)) ?_
            refine z_bop 106 _ rfl rfl (or_n (k := 6) (by omega) (by omega)) ?_
            refine z_istore 108 rfl rfl rfl rfl ?_
            refine z_iinc 111 _ rfl rfl rfl rfl (by first | with_reducible exact zi_1 _ | rfl) ?_
            refine z_goto rfl ?_
            have eb : bwF (v0F n (bs.getD 0 0)) bs i = bwF (v0F n (bs.getD 0 0)) bs (i - 1) * 2 ^ 6 + bs.getD i 0 % 2 ^ 6 := by
              obtain ⟨j, rfl⟩ : ∃ j, i = j + 1 := ⟨i - 1, by omega⟩
              rfl
            have em : mvF bs i = (mvF bs (i - 1) && decide (128 ≤ bs.getD i 0 ∧ bs.getD i 0 ≤ 191)) := by
              obtain ⟨j, rfl⟩ : ∃ j, i = j + 1 := ⟨i - 1, by omega⟩
              rfl
            rw [← eb]
            exact ih (i + 1) false (by omega) (by omega) (by omega) (by rw [Nat.add_sub_cancel, em, ← Bool.and_assoc, ← hm, hc65, decide_eq_false (by omega)]; rfl)
          · refine z_push 85 (nI 1) rfl rfl rfl ?_
            refine z_goto rfl ?_
            refine z_istore 91 rfl rfl rfl rfl ?_
            refine z_iload 93 rfl rfl rfl ?_
            refine z_push 95 (nI 6) rfl rfl rfl ?_
            refine z_bop 96 _ rfl rfl (shl_n 6 (by decide) (by omega)) ?_
            refine z_aload 97 rfl rfl rfl ?_
            refine z_iload 98 rfl rfl rfl ?_
            refine z_iload 100 rfl rfl rfl ?_
            refine z_bop 101 _ rfl rfl (by first | with_reducible exact zb_0 _ _ | exact zd_0 _ _) ?_
            refine z_ald 102 rfl rfl (by first | exact h2 | exact h3) rfl (by omega) (by omega) ?_
            rw [hf i (by omega)]
            refine z_push 104 (nI 63) rfl rfl rfl ?_
            refine z_bop 105 _ rfl rfl (and_n (by omega) 6 (by decide)) ?_
            refine z_bop 106 _ rfl rfl (or_n (k := 6) (by omega) (by omega)) ?_
            refine z_istore 108 rfl rfl rfl rfl ?_
            refine z_iinc 111 _ rfl rfl rfl rfl (by first | with_reducible exact zi_1 _ | rfl) ?_
            refine z_goto rfl ?_
            have eb : bwF (v0F n (bs.getD 0 0)) bs i = bwF (v0F n (bs.getD 0 0)) bs (i - 1) * 2 ^ 6 + bs.getD i 0 % 2 ^ 6 := by
              obtain ⟨j, rfl⟩ : ∃ j, i = j + 1 := ⟨i - 1, by omega⟩
              rfl
            have em : mvF bs i = (mvF bs (i - 1) && decide (128 ≤ bs.getD i 0 ∧ bs.getD i 0 ≤ 191)) := by
              obtain ⟨j, rfl⟩ : ∃ j, i = j + 1 := ⟨i - 1, by omega⟩
              rfl
            rw [← eb]
            exact ih (i + 1) true (by omega) (by omega) (by omega) (by rw [Nat.add_sub_cancel, em, ← Bool.and_assoc, ← hm, hc65, decide_eq_true (by omega)]; rfl)
  refine z_in [some (.ref v), some (.int (nI a)), some (.int (nI (a + bs.length))), some (.ref fo), none, none, none, none, none] (by rfl) rfl rfl rfl ?_
  refine z_aload 1 rfl rfl rfl ?_
  refine z_iload 2 rfl rfl rfl ?_
  refine z_ald 3 rfl rfl (by first | exact h2 | exact h3) rfl (by omega) (by omega) ?_
  refine z_cs1 6 rfl rfl rfl (Nat.le_refl _) (Nat.le_refl _) ?_
  rw [show f a = nI (bs.getD 0 0) from hf 0 (by omega)]
  refine c_fewLength b0 ?_
  rw [hL]
  refine z_istore 8 rfl rfl rfl rfl ?_
  refine z_iload 10 rfl rfl rfl ?_
  refine z_iload 11 rfl rfl rfl ?_
  refine z_iload 12 rfl rfl rfl ?_
  refine z_bop 13 _ rfl rfl (show mBop 1 (nI (a + bs.length)) (nI a) = nI bs.length from by rw [zb_1 (by omega), Nat.add_sub_cancel_left]) ?_
  refine z_min 16 _ rfl rfl rfl (Nat.le_refl _) (Nat.le_refl _) (show _ = nI t from (zminN (by omega) (by omega)).trans (by rw [ht0])) ?_
  refine z_istore 18 rfl rfl rfl rfl ?_
  refine z_iload 20 rfl rfl rfl ?_
  refine z_push 21 (nI 1) rfl rfl rfl ?_
  refine z_nne 24 rfl rfl (by omega) (by omega) (fun hc21 => ?_) (fun hc21 => ?_)
  · refine z_aload 31 rfl rfl rfl ?_
    refine z_iload 32 rfl rfl rfl ?_
    refine z_ald 33 rfl rfl (by first | exact h2 | exact h3) rfl (by omega) (by omega) ?_
    rw [show f a = nI (bs.getD 0 0) from hf 0 (by omega)]
    refine z_push 35 (nI 127) rfl rfl rfl ?_
    refine z_iload 37 rfl rfl rfl ?_
    refine z_bop 38 _ rfl rfl rfl ?_
    refine z_bop 39 _ rfl rfl (andL _ (by omega) _ (by omega)) ?_
    refine z_istore 41 rfl rfl rfl rfl ?_
    refine z_iload 43 rfl rfl rfl ?_
    first | refine z_zle 46 rfl rfl (by omega) (fun hc43 => ?_) (fun hc43 => ?_)
    · refine z_push 51 (nI 0) rfl rfl rfl ?_
      refine z_istore 53 rfl rfl rfl rfl ?_
      refine z_push 54 (nI 1) rfl rfl rfl ?_
      refine z_istore 56 rfl rfl rfl rfl ?_
      have ev : (v0F n (bs.getD 0 0)) = bs.getD 0 0 % 2 ^ (7 - n) := by unfold v0F; rw [if_neg hc21]
      rw [← ev]
      exact loop (t + 1) 1 false (by omega) (by omega) (by omega) (by rw [decide_eq_false (by omega)]; rfl)
    · refine z_push 47 (nI 1) rfl rfl rfl ?_
      refine z_goto rfl ?_
      refine z_istore 53 rfl rfl rfl rfl ?_
      refine z_push 54 (nI 1) rfl rfl rfl ?_
      refine z_istore 56 rfl rfl rfl rfl ?_
      have ev : (v0F n (bs.getD 0 0)) = bs.getD 0 0 % 2 ^ (7 - n) := by unfold v0F; rw [if_neg hc21]
      rw [← ev]
      exact loop (t + 1) 1 true (by omega) (by omega) (by omega) (by rw [decide_eq_true (by omega)]; rfl)
  · refine z_aload 25 rfl rfl rfl ?_
    refine z_iload 26 rfl rfl rfl ?_
    refine z_ald 27 rfl rfl (by first | exact h2 | exact h3) rfl (by omega) (by omega) ?_
    rw [show f a = nI (bs.getD 0 0) from hf 0 (by omega)]
    refine z_goto rfl ?_
    refine z_istore 41 rfl rfl rfl rfl ?_
    refine z_iload 43 rfl rfl rfl ?_
    first | refine z_zle 46 rfl rfl (by omega) (fun hc43 => ?_) (fun hc43 => ?_)
    · refine z_push 51 (nI 0) rfl rfl rfl ?_
      refine z_istore 53 rfl rfl rfl rfl ?_
      refine z_push 54 (nI 1) rfl rfl rfl ?_
      refine z_istore 56 rfl rfl rfl rfl ?_
      have ev : (v0F n (bs.getD 0 0)) = bs.getD 0 0 := by unfold v0F; rw [if_pos hc21]
      rw [← ev]
      exact loop (t + 1) 1 false (by omega) (by omega) (by omega) (by rw [decide_eq_false (by omega)]; rfl)
    · refine z_push 47 (nI 1) rfl rfl rfl ?_
      refine z_goto rfl ?_
      refine z_istore 53 rfl rfl rfl rfl ?_
      refine z_push 54 (nI 1) rfl rfl rfl ?_
      refine z_istore 56 rfl rfl rfl rfl ?_
      have ev : (v0F n (bs.getD 0 0)) = bs.getD 0 0 := by unfold v0F; rw [if_pos hc21]
      rw [← ev]
      exact loop (t + 1) 1 true (by omega) (by omega) (by omega) (by rw [decide_eq_true (by omega)]; rfl)
