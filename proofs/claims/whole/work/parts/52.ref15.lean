/-! the reference: look -/
theorem lkFl_3 {n : Nat} {bs : List Nat} : ∀ (m k v : Nat), (lkFl n bs m k v).1 < 3
  | 0, _, _ => (by decide : (2 : Nat) < 3)
  | m + 1, k, v => by
    unfold lkFl
    split
    · decide
    · split
      · split
        · decide
        · exact lkFl_3 m (k + 1) _
      · decide
theorem lkF_3 (bs : List Nat) : (lkF bs).1 < 3 := by
  unfold lkF
  split
  · decide
  · exact lkFl_3 _ _ _
theorem lkU_3 (hi : Bool) (bs : List Nat) : (lkU hi bs).1 < 3 := by
  unfold lkU
  repeat' split
  all_goals first | decide | exact (by decide : (2 : Nat) < 3)
set_option maxRecDepth 10000 in
theorem r_look {d r : Nat} {h h0 : mH} {s : rS} {p K st pn : Nat} {E : List En} {H : List Sh} {f kk nn a : Nat} {bs : List Nat} {Q : mP} (hR : Rf r h0 s h) (hp11 : p < 11) (hk : s.2.2 1 p = K) (hK : K < 4) (hT : TbR s p E H) (hW : TbW E H) (h34 : s.1 34 = st) (h35 : s.1 35 = pn) (hst : st < 4) (hpn : pn ≤ 4) (ha : rArr f = some (kk, 0, nn)) (hb : ByAt s f a bs) (hn1 : 1 ≤ bs.length) (hnn : a + bs.length ≤ nn) (hnb : nn < 2 ^ 30)  (q : ∀ h' s', Rf r h0 s' h' → On [40, 41, 42] s s' → ((lk K E H st pn bs).1 = 2 → s'.1 40 = (lk K E H st pn bs).2.1 ∧ s'.1 41 = (lk K E H st pn bs).2.2) → ((lk K E H st pn bs).1 = 3 → s'.1 42 = 10 * p + (lk K E H st pn bs).2.1) → Q (some (.int (nI (lk K E H st pn bs).1))) h') : mWP (d + 4) 212 [.ref r, .int (nI p), .ref (r + kk), .int (nI a), .int (nI (a + bs.length))] h Q := by
  obtain ⟨hs, hb8⟩ := id hb
  have hs0 : s.2.2 f a = bs.getD 0 0 := hs 0 (by omega)
  have hs1 : 1 < bs.length → s.2.2 f (a + 1) = bs.getD 1 0 := fun h9 => hs 1 h9
  have hs2 : 2 < bs.length → s.2.2 f (a + 2) = bs.getD 2 0 := fun h9 => hs 2 h9
  have hs3 : 3 < bs.length → s.2.2 f (a + 3) = bs.getD 3 0 := fun h9 => hs 3 h9
  have hv0 := hb8 0
  have hv1 := hb8 1
  have hv2 := hb8 2
  have hv3 := hb8 3
  have hn31 := (rArr_ok ha).2.2.2.1
  have hs : ∀ j, j < bs.length → s.2.2 f (a + j) = bs.getD j 0 := hs
  obtain ⟨hp, hT3, hT4, hTe, hTs⟩ := id hT
  have hl := hW.1
  have hl2 := hW.2.1
  have main : K = 0 → ∀ due, due = (if pn = 4 then st else pn) → ∀ m i o8 o9, E.length < i + m → i ≤ E.length → ffd (mtW E due bs) E.length 0 = ffd (mtW E due bs) (E.length - i) i → mZ (d + 3) tk_212 0 0 Q 82 [some (.ref r), some (.int (nI p)), some (.ref (r + kk)), some (.int (nI a)), some (.int (nI (a + bs.length))), some (.int (nI due)), some (.int (bI (anyB (mtP E due bs) i))), some (.int (nI (100 * p + i))), o8, o9] [] h 0 0 := by
    intro hK0 due hdue m
    have hlk : lk K E H st pn bs = lkT E H due (decide (pn = 4)) bs := by rw [lk, if_neg (by omega), if_pos hK0, hdue]
    have hd4 : due < 5 := by rw [hdue]; split <;> omega
    induction m with
    | zero => intro i o8 o9 h1 h2; omega
    | succ m ih =>
      intro i o8 o9 h1 h2 hI
      have hWi := hW.2.2.1 i
      have hcl : cmS E bs i ≤ 0 + enN E i := cmn_le _ _
      have inner : ∀ m j, enN E i < j + m → j ≤ enN E i → i < E.length → cmS E bs i = cmn (enN E i) (enT E i) bs (enN E i - j) j → mZ (d + 3) tk_212 0 0 Q 178 [some (.ref r), some (.int (nI p)), some (.ref (r + kk)), some (.int (nI a)), some (.int (nI (a + bs.length))), some (.int (nI due)), some (.int (bI (anyB (mtP E due bs) i))), some (.int (nI (100 * p + i))), some (.int (nI (enN E i))), some (.int (nI (cmS E bs i)))] [] h 0 0 → mZ (d + 3) tk_212 0 0 Q 125 [some (.ref r), some (.int (nI p)), some (.ref (r + kk)), some (.int (nI a)), some (.int (nI (a + bs.length))), some (.int (nI due)), some (.int (bI (anyB (mtP E due bs) i))), some (.int (nI (100 * p + i))), some (.int (nI (enN E i))), some (.int (nI j))] [] h 0 0 := by
        intro m
        induction m with
        | zero => intro j h1 h2; omega
        | succ m ih =>
          intro j h1 h2 hi hC K
          have hWi := hW.2.2.1 i hi
          have hWt := hW.tx hi
          have hbj := hb8 j
          refine z_iload 127 rfl rfl rfl ?_
          refine z_iload 129 rfl rfl rfl ?_
          refine z_nge 132 rfl rfl (by omega) (by omega) (fun hc129 => ?_) (fun hc129 => ?_)
          · rw [show cmS E bs i = j from by rw [hC]; exact cmn_no (by omega)] at K
            exact K
          · refine z_iload 133 rfl rfl rfl ?_
            refine z_iload 135 rfl rfl rfl ?_
            refine z_bop 136 _ rfl rfl (by first | with_reducible exact zb_0 _ _ | exact zd_0 _ _) ?_
            refine z_iload 138 rfl rfl rfl ?_
            refine z_nge 141 rfl rfl (by omega) (by omega) (fun hc138 => ?_) (fun hc138 => ?_)
            · rw [show cmS E bs i = j from by rw [hC]; exact cmn_no (by omega)] at K
              exact K
            · refine z_aload 142 rfl rfl rfl ?_
              refine z_iload 143 rfl rfl rfl ?_
              refine z_iload 145 rfl rfl rfl ?_
              refine z_bop 146 _ rfl rfl (by first | with_reducible exact zb_0 _ _ | exact zd_0 _ _) ?_
              refine y_al (f := f) 147 _ hR rfl rfl ha rfl (by omega) (by repeat (first | with_reducible exact (hTe i (by omega)).2.2.1 | with_reducible exact hs j (by omega) | with_reducible exact gA_eq _ _ _ _ | (with_reducible apply gA_ne; decide) | with_reducible apply gA_I | with_reducible apply gA_O | (with_reducible apply gA_nj; omega) | with_reducible rfl)) ?_
              refine z_aload 148 rfl rfl rfl ?_
              refine y_ga 151 hR rfl rfl rfl ?_
              refine z_iload 153 rfl rfl rfl ?_
              refine y_al (f := 7) 154 _ hR rfl rfl rfl rfl (by omega) (by repeat (first | with_reducible exact (hTe i (by omega)).2.2.1 | with_reducible exact hs j (by omega) | with_reducible exact gA_eq _ _ _ _ | (with_reducible apply gA_ne; decide) | with_reducible apply gA_I | with_reducible apply gA_O | (with_reducible apply gA_nj; omega) | with_reducible rfl)) ?_
              refine z_push 156 (nI 8) rfl rfl rfl ?_
              refine z_iload 158 rfl rfl rfl ?_
              refine z_push 159 (nI 1) rfl rfl rfl ?_
              refine z_bop 160 _ rfl rfl (by first | with_reducible exact zb_1 (by omega) | exact zd_1 _ _) ?_
              refine z_iload 162 rfl rfl rfl ?_
              refine z_bop 163 _ rfl rfl (by first | with_reducible exact zb_1 (by omega) | exact zd_1 _ _) ?_
              refine z_bop 164 _ rfl rfl (by first | with_reducible exact zb_2 _ _ | exact zd_2 _ _) ?_
              refine z_bop 165 _ rfl rfl (shr_n (by omega) _ (by omega)) ?_
              refine z_push 168 (nI 255) rfl rfl rfl ?_
              refine z_bop 169 _ rfl rfl (and_n (Nat.le_trans (Nat.succ_le_succ (Nat.div_le_self _ _)) (by omega)) 8 rfl) ?_
              have hbt : enT E i / 2 ^ (8 * (enN E i - 1 - j)) % 2 ^ 8 = bt (enN E i) (enT E i) j := rfl
              have hbl := bt_lt (enN E i) (enT E i) j
              rw [hbt]
              refine z_nne 172 rfl rfl (by omega) (by omega) (fun hc169 => ?_) (fun hc169 => ?_)
              · rw [show cmS E bs i = j from by rw [hC]; exact cmn_no (by omega)] at K
                exact K
              · refine z_iinc 175 _ rfl rfl rfl rfl (by first | with_reducible exact zi_1 _ | rfl) ?_
                refine z_goto rfl ?_
                exact ih (j + 1) (by omega) (by omega) hi (by rw [hC]; exact cmn_s ⟨by omega, by omega, hc169⟩) K
      refine z_iload 84 rfl rfl rfl ?_
      refine z_push 86 (nI 100) rfl rfl rfl ?_
      refine z_iload 87 rfl rfl rfl ?_
      refine z_bop 88 _ rfl rfl (by first | with_reducible exact zb_2 _ _ | exact zd_2 _ _) ?_
      refine z_aload 89 rfl rfl rfl ?_
      refine y_ga 92 hR rfl rfl rfl ?_
      refine z_iload 93 rfl rfl rfl ?_
      refine y_al (f := 3) 94 _ hR rfl rfl rfl rfl (by omega) (by repeat (first | with_reducible exact hT3 | with_reducible exact (hTe i (by omega)).1 | with_reducible exact (hTe i (by omega)).2.1 | with_reducible exact gA_eq _ _ _ _ | (with_reducible apply gA_ne; decide) | with_reducible apply gA_I | with_reducible apply gA_O | (with_reducible apply gA_nj; omega) | with_reducible rfl)) ?_
      refine z_bop 95 _ rfl rfl (by first | with_reducible exact zb_0 _ _ | exact zd_0 _ _) ?_
      refine z_nge 98 rfl rfl (by omega) (by omega) (fun hc95 => ?_) (fun hc95 => ?_)
      · have en : ffd (mtW E due bs) E.length 0 = none := by rw [hI, show E.length - i = 0 by omega]; rfl
        obtain rfl : i = E.length := by omega
        refine z_aload 232 rfl rfl rfl ?_
        refine z_aload 233 rfl rfl rfl ?_
        refine y_gi 236 _ hR rfl rfl rfl rfl rfl (by repeat (first | with_reducible exact gI_eq _ _ _ | (with_reducible apply gI_ne; decide) | with_reducible apply gI_A | with_reducible apply gI_O | with_reducible exact h35 | with_reducible exact hs0 | with_reducible rfl)) ?_
        refine z_push 237 (nI 4) rfl rfl rfl ?_
        refine z_nne 240 rfl rfl (by omega) (by omega) (fun hc237 => ?_) (fun hc237 => ?_)
        · refine z_push 260 (-1) rfl rfl rfl ?_
          rw [show (-1 : Int32) = nI 4294967295 from by decide]
          refine y_pi 263 hR rfl rfl rfl rfl rfl (mFi rfl) ?_
          intro h hR
          refine z_aload 264 rfl rfl rfl ?_
          refine y_gi 267 _ hR rfl rfl rfl rfl rfl (by repeat (first | with_reducible exact gI_eq _ _ _ | (with_reducible apply gI_ne; decide) | with_reducible apply gI_A | with_reducible apply gI_O | with_reducible exact h35 | with_reducible exact hs0 | with_reducible rfl)) ?_
          have hm1 : (nI 4294967295).toInt = -1 := by decide
          refine z_jlt 270 rfl rfl (fun _ => ?_) (fun h9 => absurd h9 (by omega))
          refine z_iload 276 rfl rfl rfl ?_
          first | refine z_beq 279 rfl rfl (fun hc276 => ?_) (fun hc276 => ?_)
          · refine z_push 284 (nI 0) rfl rfl rfl ?_
            refine z_ireti rfl (Nat.le_refl _) (Nat.le_refl _) ?_
            have e9 : lkT E H due (decide (pn = 4)) bs = (0, 0, 0) := by
              rw [lkT, en, if_neg (by rw [decide_eq_true_eq]; exact hc237)]
              exact if_neg (by rw [hc276]; decide)
            rw [hlk, e9] at q
            exact q h _ hR (On.rfl.I (by decide)) (fun h9 => absurd h9 (by decide)) (fun h9 => absurd h9 (by decide))
          · refine z_push 280 (nI 1) rfl rfl rfl ?_
            refine z_goto rfl ?_
            refine z_ireti rfl (Nat.le_refl _) (Nat.le_refl _) ?_
            have e9 : lkT E H due (decide (pn = 4)) bs = (1, 0, 0) := by
              rw [lkT, en, if_neg (by rw [decide_eq_true_eq]; exact hc237)]
              exact if_pos hc276
            rw [hlk, e9] at q
            exact q h _ hR (On.rfl.I (by decide)) (fun h9 => absurd h9 (by decide)) (fun h9 => absurd h9 (by decide))
        · refine z_iload 241 rfl rfl rfl ?_
          refine z_iload 243 rfl rfl rfl ?_
          refine z_nge 246 rfl rfl (by omega) (by omega) (fun h9 => absurd h9 (by omega)) (fun _ => ?_)
          refine z_aload 247 rfl rfl rfl ?_
          refine z_iload 248 rfl rfl rfl ?_
          refine z_iload 250 rfl rfl rfl ?_
          refine z_aload 251 rfl rfl rfl ?_
          refine z_iload 252 rfl rfl rfl ?_
          refine y_al (f := f) 253 _ hR rfl rfl ha rfl (by omega) (by repeat (first | with_reducible exact h35 | with_reducible exact hs0 | with_reducible exact gA_eq _ _ _ _ | (with_reducible apply gA_ne; decide) | with_reducible apply gA_I | with_reducible apply gA_O | (with_reducible apply gA_nj; omega) | with_reducible rfl)) ?_
          refine z_cv3 256 rfl rfl hR.1 rfl (Nat.le_refl _) (Nat.le_refl _) ?_
          refine r_shiftOf hR hT hW (by omega) (by omega) ?_
          rcases hfs : ffd (sQ H due (bs.getD 0 0)) H.length 0 with _ | k
          · simp only [oIb]
            refine z_goto rfl ?_
            rw [show (-1 : Int32) = nI 4294967295 from by decide]
            refine y_pi 263 hR rfl rfl rfl rfl rfl (mFi rfl) ?_
            intro h hR
            refine z_aload 264 rfl rfl rfl ?_
            refine y_gi 267 _ hR rfl rfl rfl rfl rfl (by repeat (first | with_reducible exact gI_eq _ _ _ | (with_reducible apply gI_ne; decide) | with_reducible apply gI_A | with_reducible apply gI_O | with_reducible exact h35 | with_reducible exact hs0 | with_reducible rfl)) ?_
            have hm1 : (nI 4294967295).toInt = -1 := by decide
            refine z_jlt 270 rfl rfl (fun _ => ?_) (fun h9 => absurd h9 (by omega))
            refine z_iload 276 rfl rfl rfl ?_
            first | refine z_beq 279 rfl rfl (fun hc276 => ?_) (fun hc276 => ?_)
            · refine z_push 284 (nI 0) rfl rfl rfl ?_
              refine z_ireti rfl (Nat.le_refl _) (Nat.le_refl _) ?_
              have e9 : lkT E H due (decide (pn = 4)) bs = (0, 0, 0) := by
                rw [lkT, en, if_pos (decide_eq_true hc237), hfs]
                exact if_neg (by rw [hc276]; decide)
              rw [hlk, e9] at q
              exact q h _ hR (On.rfl.I (by decide)) (fun h9 => absurd h9 (by decide)) (fun h9 => absurd h9 (by decide))
            · refine z_push 280 (nI 1) rfl rfl rfl ?_
              refine z_goto rfl ?_
              refine z_ireti rfl (Nat.le_refl _) (Nat.le_refl _) ?_
              have e9 : lkT E H due (decide (pn = 4)) bs = (1, 0, 0) := by
                rw [lkT, en, if_pos (decide_eq_true hc237), hfs]
                exact if_pos hc276
              rw [hlk, e9] at q
              exact q h _ hR (On.rfl.I (by decide)) (fun h9 => absurd h9 (by decide)) (fun h9 => absurd h9 (by decide))
          · simp only [oIb]
            have hk9 := ffd_lt hfs
            refine z_goto rfl ?_
            skip
            refine y_pi 263 hR rfl rfl rfl rfl rfl (mFi rfl) ?_
            intro h hR
            refine z_aload 264 rfl rfl rfl ?_
            refine y_gi 267 _ hR rfl rfl rfl rfl rfl (by repeat (first | with_reducible exact gI_eq _ _ _ | (with_reducible apply gI_ne; decide) | with_reducible apply gI_A | with_reducible apply gI_O | with_reducible exact h35 | with_reducible exact hs0 | with_reducible rfl)) ?_
            have hm2 : (nI (10 * p + k)).toInt = ((10 * p + k : Nat) : Int) := nI_toInt (by omega)
            refine z_jlt 270 rfl rfl (fun h9 => absurd h9 (by omega)) (fun _ => ?_)
            refine z_push 271 (nI 3) rfl rfl rfl ?_
            refine z_goto rfl ?_
            refine z_ireti rfl (Nat.le_refl _) (Nat.le_refl _) ?_
            have e9 : lkT E H due (decide (pn = 4)) bs = (3, k, 0) := by
              rw [lkT, en, if_pos (decide_eq_true hc237), hfs]
            rw [hlk, e9] at q
            exact q h _ hR (On.rfl.I (by decide)) (fun h9 => absurd (show (3 : Nat) = 2 from h9) (by decide)) (fun _ => gI_eq _ _ _)
      · have hWj := hWi (by omega)
        refine z_aload 99 rfl rfl rfl ?_
        refine y_ga 102 hR rfl rfl rfl ?_
        refine z_iload 104 rfl rfl rfl ?_
        refine y_al (f := 5) 105 _ hR rfl rfl rfl rfl (by omega) (by repeat (first | with_reducible exact hT3 | with_reducible exact (hTe i (by omega)).1 | with_reducible exact (hTe i (by omega)).2.1 | with_reducible exact gA_eq _ _ _ _ | (with_reducible apply gA_ne; decide) | with_reducible apply gA_I | with_reducible apply gA_O | (with_reducible apply gA_nj; omega) | with_reducible rfl)) ?_
        refine z_iload 107 rfl rfl rfl ?_
        refine z_neq 110 rfl rfl (by omega) (by omega) (fun hc107 => ?_) (fun hc107 => ?_)
        · refine z_aload 114 rfl rfl rfl ?_
          refine y_ga 117 hR rfl rfl rfl ?_
          refine z_iload 119 rfl rfl rfl ?_
          refine y_al (f := 6) 120 _ hR rfl rfl rfl rfl (by omega) (by repeat (first | with_reducible exact hT3 | with_reducible exact (hTe i (by omega)).1 | with_reducible exact (hTe i (by omega)).2.1 | with_reducible exact gA_eq _ _ _ _ | (with_reducible apply gA_ne; decide) | with_reducible apply gA_I | with_reducible apply gA_O | (with_reducible apply gA_nj; omega) | with_reducible rfl)) ?_
          refine z_istore 122 rfl rfl rfl rfl ?_
          refine z_push 123 (nI 0) rfl rfl rfl ?_
          refine z_istore 125 rfl rfl rfl rfl ?_
          refine inner (enN E i + 1) 0 (by omega) (by omega) (by omega) rfl ?_
          refine z_iload 180 rfl rfl rfl ?_
          refine z_iload 182 rfl rfl rfl ?_
          refine z_nne 185 rfl rfl (by omega) (by omega) (fun hc182 => ?_) (fun hc182 => ?_)
          · refine z_iload 206 rfl rfl rfl ?_
            first | refine z_bne 209 rfl rfl (fun hc206 => ?_) (fun hc206 => ?_)
            · refine z_push 219 (nI 1) rfl rfl rfl ?_
              refine z_goto rfl ?_
              refine z_istore 225 rfl rfl rfl rfl ?_
              refine z_iinc 228 _ rfl rfl rfl rfl (by first | with_reducible exact zi_1 _ | rfl) ?_
              refine z_goto rfl ?_
              have h9 := fun o8 o9 => ih (i + 1) o8 o9 (by omega) (by omega) (by rw [hI, ffd_no (by omega) (by simp [mtW, hc182])])
              rw [show anyB (mtP E due bs) (i + 1) = true from by simp [anyB, hc206]] at h9
              exact h9 _ _
            · refine z_iload 210 rfl rfl rfl ?_
              refine z_iload 212 rfl rfl rfl ?_
              refine z_bop 213 _ rfl rfl (by first | with_reducible exact zb_0 _ _ | exact zd_0 _ _) ?_
              refine z_iload 215 rfl rfl rfl ?_
              refine z_nne 218 rfl rfl (by omega) (by omega) (fun hc215 => ?_) (fun hc215 => ?_)
              · refine z_push 223 (nI 0) rfl rfl rfl ?_
                refine z_istore 225 rfl rfl rfl rfl ?_
                refine z_iinc 228 _ rfl rfl rfl rfl (by first | with_reducible exact zi_1 _ | rfl) ?_
                refine z_goto rfl ?_
                have h9 := fun o8 o9 => ih (i + 1) o8 o9 (by omega) (by omega) (by rw [hI, ffd_no (by omega) (by simp [mtW, hc182])])
                rw [show anyB (mtP E due bs) (i + 1) = false from by simp [anyB, hc206, mtP, show ¬ cmS E bs i = bs.length from by omega]] at h9
                exact h9 _ _
              · refine z_push 219 (nI 1) rfl rfl rfl ?_
                refine z_goto rfl ?_
                refine z_istore 225 rfl rfl rfl rfl ?_
                refine z_iinc 228 _ rfl rfl rfl rfl (by first | with_reducible exact zi_1 _ | rfl) ?_
                refine z_goto rfl ?_
                have h9 := fun o8 o9 => ih (i + 1) o8 o9 (by omega) (by omega) (by rw [hI, ffd_no (by omega) (by simp [mtW, hc182])])
                rw [show anyB (mtP E due bs) (i + 1) = true from by simp [anyB, mtP, hc107, show cmS E bs i = bs.length from by omega]] at h9
                exact h9 _ _
          · refine z_aload 186 rfl rfl rfl ?_
            refine z_iload 188 rfl rfl rfl ?_
            refine y_pi 191 hR rfl rfl rfl rfl rfl (mFi rfl) ?_
            intro h hR
            refine z_aload 192 rfl rfl rfl ?_
            refine z_aload 193 rfl rfl rfl ?_
            refine y_ga 196 hR rfl rfl rfl ?_
            refine z_iload 198 rfl rfl rfl ?_
            refine y_al (f := 8) 199 _ hR rfl rfl rfl rfl (by omega) (by repeat (first | with_reducible exact (hTe i (by omega)).2.2.2.1 | with_reducible exact gA_eq _ _ _ _ | (with_reducible apply gA_ne; decide) | with_reducible apply gA_I | with_reducible apply gA_O | (with_reducible apply gA_nj; omega) | with_reducible rfl)) ?_
            refine y_pi 202 hR rfl rfl rfl rfl rfl (mFi rfl) ?_
            intro h hR
            refine z_push 203 (nI 2) rfl rfl rfl ?_
            refine z_ireti rfl (Nat.le_refl _) (Nat.le_refl _) ?_
            have e9 : lkT E H due (decide (pn = 4)) bs = (2, enN E i, enP E i) := by
              rw [lkT, hI, ffd_yes (by omega) (by simp [mtW, hc107, hc182])]
            rw [hlk, e9] at q
            exact q h _ hR (((On.rfl.I (by decide)).I (by decide))) (fun _ => ⟨by repeat (first | with_reducible exact gI_eq _ _ _ | (with_reducible apply gI_ne; decide) | with_reducible apply gI_A | with_reducible apply gI_O | with_reducible rfl), gI_eq _ _ _⟩) (fun h9 => absurd (show (2 : Nat) = 3 from h9) (by decide))
        · refine z_goto rfl ?_
          refine z_iinc 228 _ rfl rfl rfl rfl (by first | with_reducible exact zi_1 _ | rfl) ?_
          refine z_goto rfl ?_
          have h9 := fun o8 o9 => ih (i + 1) o8 o9 (by omega) (by omega) (by rw [hI, ffd_no (by omega) (by simp [mtW, hc107])])
          rw [show anyB (mtP E due bs) (i + 1) = anyB (mtP E due bs) i from by simp [anyB, mtP, hc107]] at h9
          exact h9 _ _
  refine z_in [some (.ref r), some (.int (nI p)), some (.ref (r + kk)), some (.int (nI a)), some (.int (nI (a + bs.length))), none, none, none, none, none] (by rfl) rfl rfl rfl ?_
  refine z_aload 1 rfl rfl rfl ?_
  refine y_ga 4 hR rfl rfl rfl ?_
  refine z_iload 5 rfl rfl rfl ?_
  refine y_al (f := 1) 6 _ hR rfl rfl rfl rfl (by omega) (by repeat (first | with_reducible exact hk | with_reducible exact h34 | with_reducible exact h35 | with_reducible exact gA_eq _ _ _ _ | (with_reducible apply gA_ne; decide) | with_reducible apply gA_I | with_reducible apply gA_O | (with_reducible apply gA_nj; omega) | with_reducible rfl)) ?_
  refine z_push 7 (nI 3) rfl rfl rfl ?_
  refine z_nne 10 rfl rfl (by omega) (by omega) (fun hc7 => ?_) (fun hc7 => ?_)
  · refine z_aload 20 rfl rfl rfl ?_
    refine y_ga 23 hR rfl rfl rfl ?_
    refine z_iload 24 rfl rfl rfl ?_
    refine y_al (f := 1) 25 _ hR rfl rfl rfl rfl (by omega) (by repeat (first | with_reducible exact hk | with_reducible exact h34 | with_reducible exact h35 | with_reducible exact gA_eq _ _ _ _ | (with_reducible apply gA_ne; decide) | with_reducible apply gA_I | with_reducible apply gA_O | (with_reducible apply gA_nj; omega) | with_reducible rfl)) ?_
    first | refine z_zeq 28 rfl rfl (by omega) (fun hc25 => ?_) (fun hc25 => ?_)
    · refine z_aload 53 rfl rfl rfl ?_
      refine y_gi 56 _ hR rfl rfl rfl rfl rfl (by repeat (first | with_reducible exact gI_eq _ _ _ | (with_reducible apply gI_ne; decide) | with_reducible apply gI_A | with_reducible apply gI_O | with_reducible exact hk | with_reducible exact h34 | with_reducible exact h35 | with_reducible rfl)) ?_
      refine z_push 57 (nI 4) rfl rfl rfl ?_
      refine z_nne 60 rfl rfl (by omega) (by omega) (fun hc57 => ?_) (fun hc57 => ?_)
      · refine z_aload 68 rfl rfl rfl ?_
        refine y_gi 71 _ hR rfl rfl rfl rfl rfl (by repeat (first | with_reducible exact gI_eq _ _ _ | (with_reducible apply gI_ne; decide) | with_reducible apply gI_A | with_reducible apply gI_O | with_reducible exact hk | with_reducible exact h34 | with_reducible exact h35 | with_reducible rfl)) ?_
        refine z_istore 73 rfl rfl rfl rfl ?_
        refine z_push 74 (nI 0) rfl rfl rfl ?_
        refine z_istore 76 rfl rfl rfl rfl ?_
        refine z_push 78 (nI 100) rfl rfl rfl ?_
        refine z_iload 79 rfl rfl rfl ?_
        refine z_bop 80 _ rfl rfl (by first | with_reducible exact zb_2 _ _ | exact zd_2 _ _) ?_
        refine z_istore 82 rfl rfl rfl rfl ?_
        exact main hc25 _ (by rw [if_neg hc57]) (E.length + 1) 0 _ _ (by omega) (by omega) (by rw [Nat.sub_zero])
      · refine z_aload 61 rfl rfl rfl ?_
        refine y_gi 64 _ hR rfl rfl rfl rfl rfl (by repeat (first | with_reducible exact gI_eq _ _ _ | (with_reducible apply gI_ne; decide) | with_reducible apply gI_A | with_reducible apply gI_O | with_reducible exact hk | with_reducible exact h34 | with_reducible exact h35 | with_reducible rfl)) ?_
        refine z_goto rfl ?_
        refine z_istore 73 rfl rfl rfl rfl ?_
        refine z_push 74 (nI 0) rfl rfl rfl ?_
        refine z_istore 76 rfl rfl rfl rfl ?_
        refine z_push 78 (nI 100) rfl rfl rfl ?_
        refine z_iload 79 rfl rfl rfl ?_
        refine z_bop 80 _ rfl rfl (by first | with_reducible exact zb_2 _ _ | exact zd_2 _ _) ?_
        refine z_istore 82 rfl rfl rfl rfl ?_
        exact main hc25 _ (by rw [if_pos hc57]) (E.length + 1) 0 _ _ (by omega) (by omega) (by rw [Nat.sub_zero])
    · refine z_aload 29 rfl rfl rfl ?_
      refine z_aload 30 rfl rfl rfl ?_
      refine y_ga 33 hR rfl rfl rfl ?_
      refine z_iload 34 rfl rfl rfl ?_
      refine y_al (f := 1) 35 _ hR rfl rfl rfl rfl (by omega) (by repeat (first | with_reducible exact hk | with_reducible exact h34 | with_reducible exact h35 | with_reducible exact gA_eq _ _ _ _ | (with_reducible apply gA_ne; decide) | with_reducible apply gA_I | with_reducible apply gA_O | (with_reducible apply gA_nj; omega) | with_reducible rfl)) ?_
      refine z_push 36 (nI 1) rfl rfl rfl ?_
      refine z_nne 39 rfl rfl (by omega) (by omega) (fun hc36 => ?_) (fun hc36 => ?_)
      · refine z_push 44 (nI 0) rfl rfl rfl ?_
        refine z_aload 45 rfl rfl rfl ?_
        refine z_iload 46 rfl rfl rfl ?_
        refine z_iload 48 rfl rfl rfl ?_
        refine z_cv4 51 rfl rfl hR.1 rfl (Nat.le_refl _) (Nat.le_refl _) ?_
        refine r_lookUnits (hi := false) hR ha hb hn1 hnn hnb (fun h s1 hR hO hF => ?_)
        refine z_ireti rfl (Nat.le_refl _) (Nat.le_refl _) ?_
        have e9 : lk K E H st pn bs = lkU false bs := by rw [lk, if_neg hc7, if_neg hc25, decide_eq_false hc36]
        rw [e9] at q
        exact q h s1 hR (hO.mono (by decide)) hF (fun h9 => absurd h9 (by have := lkU_3 false bs; omega))
      · refine z_push 40 (nI 1) rfl rfl rfl ?_
        refine z_goto rfl ?_
        refine z_aload 45 rfl rfl rfl ?_
        refine z_iload 46 rfl rfl rfl ?_
        refine z_iload 48 rfl rfl rfl ?_
        refine z_cv4 51 rfl rfl hR.1 rfl (Nat.le_refl _) (Nat.le_refl _) ?_
        refine r_lookUnits (hi := true) hR ha hb hn1 hnn hnb (fun h s1 hR hO hF => ?_)
        refine z_ireti rfl (Nat.le_refl _) (Nat.le_refl _) ?_
        have e9 : lk K E H st pn bs = lkU true bs := by rw [lk, if_neg hc7, if_neg hc25, decide_eq_true hc36]
        rw [e9] at q
        exact q h s1 hR (hO.mono (by decide)) hF (fun h9 => absurd h9 (by have := lkU_3 true bs; omega))
  · refine z_aload 11 rfl rfl rfl ?_
    refine z_aload 12 rfl rfl rfl ?_
    refine z_iload 13 rfl rfl rfl ?_
    refine z_iload 15 rfl rfl rfl ?_
    refine z_cv3 18 rfl rfl hR.1 rfl (Nat.le_refl _) (Nat.le_refl _) ?_
    refine r_lookFew hR ha hb hn1 hnn hnb (fun h s1 hR hO hF => ?_)
    refine z_ireti rfl (Nat.le_refl _) (Nat.le_refl _) ?_
    have e9 : lk K E H st pn bs = lkF bs := if_pos hc7
    rw [e9] at q
    exact q h s1 hR (hO.mono (by decide)) hF (fun h9 => absurd h9 (by have := lkF_3 bs; omega))
