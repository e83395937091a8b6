/-! the class: tables from bytes -/
theorem txF_tk {l bs : List Nat} {k a : Nat} (h : ∀ j, j < bs.length → l.getD j 0 = bs.getD j 0) (hl : bs.length ≤ l.length) (hk : a + k ≤ bs.length) : txF l a k = txF bs a k := by
  induction k with
  | zero => rfl
  | succ k ih =>
    rw [txF, txF, ih (by omega), nb, nb, if_pos (by omega), if_pos (by omega), h _ (by omega)]
theorem jState_nI {a : Nat} (h : a < 2 ^ 31) : jState (nI a) = decide (a < 4) := by
  unfold jState
  rw [nI_toInt h]
  by_cases e : a < 4
  · rw [decide_eq_true e]; exact decide_eq_true (by omega)
  · rw [decide_eq_false e]; exact decide_eq_false (by omega)
theorem zi_4 (a : Nat) : nI a + Int32.ofInt 4 = nI (a + 4) := nI_add a 4
theorem tiE_no {bs : List Nat} {m a : Nat} {E : List En} (h : teE E bs a = none) : tiE bs (m + 1) E a = none := by rw [tiE, h]
theorem tiS_no {bs : List Nat} {m a : Nat} {H : List Sh} (h : tsS H bs a = none) : tiS bs (m + 1) H a = none := by rw [tiS, h]
set_option maxRecDepth 100000 in
theorem c_En_readFrom {d : Nat} {h0 : mH} {e r n stop : Nat} {l bs : List Nat} {E0 : List En} {Q : mP} (hA : EnA h0 e 100 E0) (hw0 : RwAt h0 r n l) (hn : n < 2 ^ 31) (hd : r + 2 ≤ e ∨ e + 6 ≤ r) (hb : ∀ j, l.getD j 0 < 256) (hl : bs.length = stop) (hst : stop ≤ l.length) (hs1 : 1 ≤ stop) (hs9 : stop ≤ 1000) (hg : ∀ j, j < stop → l.getD j 0 = bs.getD j 0)  (q0 : (100 < bs.getD 0 0 ∨ tiE bs (bs.getD 0 0) [] 1 = none) → ∀ h' E', EnA h' e 100 E' → Fr e (e + 6) h0 h' → Q (some (.int (-1))) h') (q1 : ∀ E x, bs.getD 0 0 ≤ 100 → tiE bs (bs.getD 0 0) [] 1 = some (E, x) → x ≤ stop → TbW E [] → ∀ h', EnA h' e 100 E → Fr e (e + 6) h0 h' → Q (some (.int (nI x))) h') : mWP (d + 3) 7 [.ref e, .ref r, .int (nI 0), .int (nI stop)] h0 Q := by
  have hbb : ∀ j, bs.getD j 0 < 256 := fun j => by
    by_cases e9 : j < stop
    · rw [← hg j e9]; exact hb j
    · rw [List.getD_eq_getElem?_getD, List.getElem?_eq_none (by omega)]; decide
  have hm0 := hbb 0
  obtain ⟨hA0, s9, t9, n9, p9, f9, hE, hEF⟩ := id hA
  have loop : bs.getD 0 0 ≤ 100 → ∀ m9 i a h E o7 o8 o9 o10 o11, i + m9 = bs.getD 0 0 → E.length = i → 1 ≤ a → a ≤ stop → TbW E [] → EnA h e 100 E → Fr e (e + 6) h0 h → tiE bs (bs.getD 0 0) [] 1 = tiE bs m9 E a → mZ (d + 2) tk_7 0 0 Q 39 [some (.ref e), some (.ref r), some (.int (nI 0)), some (.int (nI stop)), some (.int (nI (bs.getD 0 0))), some (.int (nI a)), some (.int (nI i)), o7, o8, o9, o10, o11] [] h 0 0 := by
    intro hm m9
    induction m9 with
    | zero =>
      intro i a h E o7 o8 o9 o10 o11 hi hEl ha1 ha hW hEA hF hti
      subst hEl
      refine z_iload 41 rfl rfl rfl ?_
      refine z_iload 43 rfl rfl rfl ?_
      refine z_nge 46 rfl rfl (by omega) (by omega) (fun _ => ?_) (fun h9 => absurd h9 (by omega))
      refine z_iload 224 rfl rfl rfl ?_
      refine z_ireti rfl (Nat.le_refl _) (Nat.le_refl _) ?_
      exact q1 E a hm (hti.trans rfl) (by omega) hW h hEA hF  | succ m9 ih =>
      intro i a h E o7 o8 o9 o10 o11 hi hEl ha1 ha hW hEA hF hti
      subst hEl
      have hw : RwAt h r n l := hw0.e (fun x x1 x2 => hF.2 x (by omega))
      obtain ⟨w1, w2, f, w3, w4⟩ := id hw
      obtain ⟨hB0, s8, t8, n8, p8, f8, hE, hEF⟩ := id hEA
      have hbst := hbb a
      have hbn := hbb (a + 1)
      refine z_iload 41 rfl rfl rfl ?_
      refine z_iload 43 rfl rfl rfl ?_
      refine z_nge 46 rfl rfl (by omega) (by omega) (fun h9 => absurd h9 (by omega)) (fun _ => ?_)
      refine z_iload 48 rfl rfl rfl ?_
      refine z_push 49 (nI 1) rfl rfl rfl ?_
      refine z_bop 50 _ rfl rfl (by first | with_reducible exact zb_0 _ _ | exact zd_0 _ _) ?_
      refine z_iload 51 rfl rfl rfl ?_
      refine z_nge 54 rfl rfl (by omega) (by omega) (fun hc51 => ?_) (fun hc51 => ?_)
      · refine z_push 67 (nI 0) rfl rfl rfl ?_
        refine z_istore 69 rfl rfl rfl rfl ?_
        refine z_iload 71 rfl rfl rfl ?_
        refine z_push 72 (nI 1) rfl rfl rfl ?_
        refine z_nlt 75 rfl rfl (by omega) (by omega) (fun _ => ?_) (fun h9 => absurd h9 (by omega))
        refine z_push 94 (-1) rfl rfl rfl ?_
        refine z_ireti rfl (Nat.le_refl _) (Nat.le_refl _) ?_
        exact q0 (Or.inr (hti.trans (tiE_no (by rw [teE, if_neg (fun h9 => absurd h9.1 (by omega))])))) h E hEA hF
      · refine z_aload 55 rfl rfl rfl ?_
        refine z_get 58 rfl rfl (by first | exact hE.1 | exact w1 | exact w3 | fail "lk") rfl ?_
        refine z_iload 60 rfl rfl rfl ?_
        refine z_push 61 (nI 1) rfl rfl rfl ?_
        refine z_bop 62 _ rfl rfl (by first | with_reducible exact zb_0 _ _ | exact zd_0 _ _) ?_
        refine z_ald 63 rfl rfl (by first | exact hE.1 | exact w1 | exact w3 | fail "lk") rfl (by omega) (by omega) ?_
        rw [w4 _ (by omega), hg _ (by omega)]
        refine z_goto rfl ?_
        refine z_istore 69 rfl rfl rfl rfl ?_
        refine z_iload 71 rfl rfl rfl ?_
        refine z_push 72 (nI 1) rfl rfl rfl ?_
        refine z_nlt 75 rfl rfl (by omega) (by omega) (fun hc72 => ?_) (fun hc72 => ?_)
        · refine z_push 94 (-1) rfl rfl rfl ?_
          refine z_ireti rfl (Nat.le_refl _) (Nat.le_refl _) ?_
          exact q0 (Or.inr (hti.trans (tiE_no (by rw [teE, if_neg (fun h9 => absurd h9.2.2 (by omega))])))) h E hEA hF
        · refine z_iload 77 rfl rfl rfl ?_
          refine z_push 78 (nI 3) rfl rfl rfl ?_
          refine z_ngt 81 rfl rfl (by omega) (by omega) (fun hc78 => ?_) (fun hc78 => ?_)
          · refine z_push 94 (-1) rfl rfl rfl ?_
            refine z_ireti rfl (Nat.le_refl _) (Nat.le_refl _) ?_
            exact q0 (Or.inr (hti.trans (tiE_no (by rw [teE, if_neg (fun h9 => absurd h9.2.2 (by omega))])))) h E hEA hF
          · refine z_iload 83 rfl rfl rfl ?_
            refine z_iload 85 rfl rfl rfl ?_
            refine z_bop 86 _ rfl rfl (by first | with_reducible exact zb_0 _ _ | exact zd_0 _ _) ?_
            refine z_push 88 (nI 6) rfl rfl rfl ?_
            refine z_bop 89 _ rfl rfl (by first | with_reducible exact zb_0 _ _ | exact zd_0 _ _) ?_
            refine z_iload 90 rfl rfl rfl ?_
            refine z_nle 93 rfl rfl (by omega) (by omega) (fun hc90 => ?_) (fun hc90 => ?_)
            · refine z_aload 96 rfl rfl rfl ?_
              refine z_get 99 rfl rfl (by first | exact hE.1 | exact w1 | exact w3 | fail "lk") rfl ?_
              refine z_iload 101 rfl rfl rfl ?_
              refine z_ald 102 rfl rfl (by first | exact hE.1 | exact w1 | exact w3 | fail "lk") rfl (by omega) (by omega) ?_
              rw [w4 _ (by omega), hg _ (by omega)]
              refine z_istore 104 rfl rfl rfl rfl ?_
              have htx := txF_b hbb (a := a + 2) (bs.getD (a + 1) 0)
              have htx2 : 256 ^ (bs.getD (a + 1) 0) ≤ 256 ^ 3 := Nat.pow_le_pow_right (by decide) (by omega)
              have hpx := txF_b hbb (a := a + 2 + (bs.getD (a + 1) 0)) 3
              refine z_aload 105 rfl rfl rfl ?_
              refine z_iload 107 rfl rfl rfl ?_
              refine z_push 108 (nI 2) rfl rfl rfl ?_
              refine z_bop 109 _ rfl rfl (by first | with_reducible exact zb_0 _ _ | exact zd_0 _ _) ?_
              refine z_iload 111 rfl rfl rfl ?_
              refine z_cv2 114 rfl rfl (by first | exact hE.1 | exact w1 | exact w3 | fail "lk") rfl (Nat.le_refl _) (Nat.le_refl _) ?_
              refine w_numberAt hw hn hb (by omega) (by omega) ?_
              rw [txF_tk (fun j hj => hg j (by omega)) (by omega) (by omega)]
              refine z_istore 116 rfl rfl rfl rfl ?_
              refine z_aload 117 rfl rfl rfl ?_
              refine z_iload 119 rfl rfl rfl ?_
              refine z_push 120 (nI 2) rfl rfl rfl ?_
              refine z_bop 121 _ rfl rfl (by first | with_reducible exact zb_0 _ _ | exact zd_0 _ _) ?_
              refine z_iload 123 rfl rfl rfl ?_
              refine z_bop 124 _ rfl rfl (by first | with_reducible exact zb_0 _ _ | exact zd_0 _ _) ?_
              refine z_push 125 (nI 3) rfl rfl rfl ?_
              refine z_cv2 128 rfl rfl (by first | exact hE.1 | exact w1 | exact w3 | fail "lk") rfl (Nat.le_refl _) (Nat.le_refl _) ?_
              refine w_numberAt hw hn hb (by omega) (by omega) ?_
              rw [txF_tk (fun j hj => hg j (by omega)) (by omega) (by omega)]
              refine z_istore 130 rfl rfl rfl rfl ?_
              refine z_aload 131 rfl rfl rfl ?_
              refine z_get 134 rfl rfl (by first | exact hE.1 | exact w1 | exact w3 | fail "lk") rfl ?_
              refine z_iload 136 rfl rfl rfl ?_
              refine z_push 137 (nI 5) rfl rfl rfl ?_
              refine z_bop 138 _ rfl rfl (by first | with_reducible exact zb_0 _ _ | exact zd_0 _ _) ?_
              refine z_iload 140 rfl rfl rfl ?_
              refine z_bop 141 _ rfl rfl (by first | with_reducible exact zb_0 _ _ | exact zd_0 _ _) ?_
              refine z_ald 142 rfl rfl (by first | exact hE.1 | exact w1 | exact w3 | fail "lk") rfl (by omega) (by omega) ?_
              rw [w4 _ (by omega), hg _ (by omega), show a + 5 + (bs.getD (a + 1) 0) = a + 2 + (bs.getD (a + 1) 0) + 3 by omega]
              have hbp := hbb (a + 2 + (bs.getD (a + 1) 0) + 3)
              refine z_istore 144 rfl rfl rfl rfl ?_
              refine z_iload 146 rfl rfl rfl ?_
              refine z_cs1 149 rfl rfl rfl (Nat.le_refl _) (Nat.le_refl _) ?_
              refine c_isState ?_
              rw [jState_nI (by omega)]
              first | refine z_beq 152 rfl rfl (fun hc149 => ?_) (fun hc149 => ?_)
              · refine z_push 180 (-1) rfl rfl rfl ?_
                refine z_ireti rfl (Nat.le_refl _) (Nat.le_refl _) ?_
                have h8 := of_decide_eq_false hc149
                exact q0 (Or.inr (hti.trans (tiE_no (by rw [teE, if_neg (fun h9 => absurd h9.2.1 (by omega))])))) h E hEA hF
              · refine z_iload 154 rfl rfl rfl ?_
                refine z_cs1 157 rfl rfl rfl (Nat.le_refl _) (Nat.le_refl _) ?_
                refine c_isPoint ?_
                rw [jPoint_nI (by omega)]
                first | refine z_beq 160 rfl rfl (fun hc157 => ?_) (fun hc157 => ?_)
                · refine z_push 180 (-1) rfl rfl rfl ?_
                  refine z_ireti rfl (Nat.le_refl _) (Nat.le_refl _) ?_
                  have hs3 := of_decide_eq_true hc149
                  have e9 : a + 1 < bs.length ∧ (bs.getD a 0) ≤ 3 ∧ 1 ≤ (bs.getD (a + 1) 0) ∧ (bs.getD (a + 1) 0) ≤ 3 := ⟨by omega, by omega, by omega, by omega⟩
                  exact q0 (Or.inr (hti.trans (tiE_no (by rw [teE, if_pos e9, if_neg (fun h9 => by have h8 := h9.2.2.1; rw [hc157] at h8; cases h8)])))) h E hEA hF
                · refine z_iload 162 rfl rfl rfl ?_
                  refine z_push 163 (nI 1) rfl rfl rfl ?_
                  refine z_ngt 166 rfl rfl (by omega) (by omega) (fun hc163 => ?_) (fun hc163 => ?_)
                  · refine z_push 180 (-1) rfl rfl rfl ?_
                    refine z_ireti rfl (Nat.le_refl _) (Nat.le_refl _) ?_
                    have hs3 := of_decide_eq_true hc149
                    have e9 : a + 1 < bs.length ∧ (bs.getD a 0) ≤ 3 ∧ 1 ≤ (bs.getD (a + 1) 0) ∧ (bs.getD (a + 1) 0) ≤ 3 := ⟨by omega, by omega, by omega, by omega⟩
                    exact q0 (Or.inr (hti.trans (tiE_no (by rw [teE, if_pos e9, if_neg (fun h9 => absurd h9.2.1 (by omega))])))) h E hEA hF
                  · refine z_aload 167 rfl rfl rfl ?_
                    refine z_iload 169 rfl rfl rfl ?_
                    refine z_iload 171 rfl rfl rfl ?_
                    refine z_iload 173 rfl rfl rfl ?_
                    refine z_cv3 176 rfl rfl (by first | exact hE.1 | exact w1 | exact w3 | fail "lk") rfl (Nat.le_refl _) (Nat.le_refl _) ?_
                    refine w_En_slotOf hEA hW (by omega) (by omega) (by omega) ?_
                    rcases hfd : ffd (eQ E (bs.getD a 0) (txF bs (a + 2) (bs.getD (a + 1) 0)) (bs.getD (a + 1) 0)) E.length 0 with _ | k9
                    · simp only [oIb]
                      refine z_jlt 179 rfl rfl (fun _ => ?_) (fun h9 => absurd h9 (by decide))
                      refine z_aload 182 rfl rfl rfl ?_
                      refine z_iload 184 rfl rfl rfl ?_
                      refine z_iload 186 rfl rfl rfl ?_
                      refine z_iload 188 rfl rfl rfl ?_
                      refine z_iload 190 rfl rfl rfl ?_
                      refine z_iload 192 rfl rfl rfl ?_
                      refine z_iload 194 rfl rfl rfl ?_
                      refine z_push 195 (nI 1) rfl rfl rfl ?_
                      refine z_nne 198 rfl rfl (by omega) (by omega) (fun hc195 => ?_) (fun hc195 => ?_)
                      · refine z_push 203 (nI 0) rfl rfl rfl ?_
                        refine z_cv6 206 rfl rfl (by first | exact hE.1 | exact w1 | exact w3 | fail "lk") rfl (Nat.le_refl _) (Nat.le_refl _) ?_
                        refine w_En_app (st := (bs.getD a 0)) (tx := (txF bs (a + 2) (bs.getD (a + 1) 0))) (ln := (bs.getD (a + 1) 0)) (pt := (txF bs (a + 2 + (bs.getD (a + 1) 0)) 3)) (pf := false) hEA (by omega) (fun h2 hA2 hF2 => ?_)
                        refine z_iload 208 rfl rfl rfl ?_
                        refine z_iload 210 rfl rfl rfl ?_
                        refine z_push 212 (nI 6) rfl rfl rfl ?_
                        refine z_bop 213 _ rfl rfl (by first | with_reducible exact zb_0 _ _ | exact zd_0 _ _) ?_
                        refine z_bop 214 _ rfl rfl (by first | with_reducible exact zb_0 _ _ | exact zd_0 _ _) ?_
                        refine z_istore 216 rfl rfl rfl rfl ?_
                        refine z_iinc 219 _ rfl rfl rfl rfl (by first | with_reducible exact zi_1 _ | rfl) ?_
                        refine z_goto rfl ?_
                        have hs3 := of_decide_eq_true hc149
                        have hte : teE E bs a = some ((bs.getD a 0), (txF bs (a + 2) (bs.getD (a + 1) 0)), (bs.getD (a + 1) 0), (txF bs (a + 2 + (bs.getD (a + 1) 0)) 3), false) := by
                          rw [teE, if_pos ⟨by omega, by omega, by omega, by omega⟩, if_pos ⟨by omega, by omega, hc157, hfd⟩, show decide ((bs.getD (a + 2 + (bs.getD (a + 1) 0) + 3) 0) = 1) = false from decide_eq_false (by omega)]
                        refine ih (E.length + 1) (a + ((bs.getD (a + 1) 0) + 6)) h2 (E ++ [((bs.getD a 0), (txF bs (a + 2) (bs.getD (a + 1) 0)), (bs.getD (a + 1) 0), (txF bs (a + 2 + (bs.getD (a + 1) 0)) 3), false)]) _ _ _ _ _ (by omega) (by rw [List.length_append]; show _ + 1 = _; omega) (by omega) (by omega) (TbW.addE hbb hW (by omega) hte).1 hA2 ⟨hF2.1.trans hF.1, fun x hx => (hF2.2 x hx).trans (hF.2 x hx)⟩ ?_
                        rw [hti, tiE, hte]
                        show tiE bs m9 _ (a + 6 + (bs.getD (a + 1) 0)) = _
                        rw [show a + 6 + (bs.getD (a + 1) 0) = a + ((bs.getD (a + 1) 0) + 6) by omega]
                      · refine z_push 199 (nI 1) rfl rfl rfl ?_
                        refine z_goto rfl ?_
                        refine z_cv6 206 rfl rfl (by first | exact hE.1 | exact w1 | exact w3 | fail "lk") rfl (Nat.le_refl _) (Nat.le_refl _) ?_
                        refine w_En_app (st := (bs.getD a 0)) (tx := (txF bs (a + 2) (bs.getD (a + 1) 0))) (ln := (bs.getD (a + 1) 0)) (pt := (txF bs (a + 2 + (bs.getD (a + 1) 0)) 3)) (pf := true) hEA (by omega) (fun h2 hA2 hF2 => ?_)
                        refine z_iload 208 rfl rfl rfl ?_
                        refine z_iload 210 rfl rfl rfl ?_
                        refine z_push 212 (nI 6) rfl rfl rfl ?_
                        refine z_bop 213 _ rfl rfl (by first | with_reducible exact zb_0 _ _ | exact zd_0 _ _) ?_
                        refine z_bop 214 _ rfl rfl (by first | with_reducible exact zb_0 _ _ | exact zd_0 _ _) ?_
                        refine z_istore 216 rfl rfl rfl rfl ?_
                        refine z_iinc 219 _ rfl rfl rfl rfl (by first | with_reducible exact zi_1 _ | rfl) ?_
                        refine z_goto rfl ?_
                        have hs3 := of_decide_eq_true hc149
                        have hte : teE E bs a = some ((bs.getD a 0), (txF bs (a + 2) (bs.getD (a + 1) 0)), (bs.getD (a + 1) 0), (txF bs (a + 2 + (bs.getD (a + 1) 0)) 3), true) := by
                          rw [teE, if_pos ⟨by omega, by omega, by omega, by omega⟩, if_pos ⟨by omega, by omega, hc157, hfd⟩, show decide ((bs.getD (a + 2 + (bs.getD (a + 1) 0) + 3) 0) = 1) = true from decide_eq_true (by omega)]
                        refine ih (E.length + 1) (a + ((bs.getD (a + 1) 0) + 6)) h2 (E ++ [((bs.getD a 0), (txF bs (a + 2) (bs.getD (a + 1) 0)), (bs.getD (a + 1) 0), (txF bs (a + 2 + (bs.getD (a + 1) 0)) 3), true)]) _ _ _ _ _ (by omega) (by rw [List.length_append]; show _ + 1 = _; omega) (by omega) (by omega) (TbW.addE hbb hW (by omega) hte).1 hA2 ⟨hF2.1.trans hF.1, fun x hx => (hF2.2 x hx).trans (hF.2 x hx)⟩ ?_
                        rw [hti, tiE, hte]
                        show tiE bs m9 _ (a + 6 + (bs.getD (a + 1) 0)) = _
                        rw [show a + 6 + (bs.getD (a + 1) 0) = a + ((bs.getD (a + 1) 0) + 6) by omega]
                    · simp only [oIb]
                      have hf9 := ffd_lt hfd
                      refine z_zlt 179 rfl rfl (by omega) (fun h9 => absurd h9 (by omega)) (fun _ => ?_)
                      refine z_push 180 (-1) rfl rfl rfl ?_
                      refine z_ireti rfl (Nat.le_refl _) (Nat.le_refl _) ?_
                      have hs3 := of_decide_eq_true hc149
                      have e9 : a + 1 < bs.length ∧ (bs.getD a 0) ≤ 3 ∧ 1 ≤ (bs.getD (a + 1) 0) ∧ (bs.getD (a + 1) 0) ≤ 3 := ⟨by omega, by omega, by omega, by omega⟩
                      exact q0 (Or.inr (hti.trans (tiE_no (by rw [teE, if_pos e9, if_neg (fun h9 => by have h8 := h9.2.2.2; rw [hfd] at h8; cases h8)])))) h E hEA hF
            · refine z_push 94 (-1) rfl rfl rfl ?_
              refine z_ireti rfl (Nat.le_refl _) (Nat.le_refl _) ?_
              by_cases e9 : a + 1 < bs.length ∧ (bs.getD a 0) ≤ 3 ∧ 1 ≤ (bs.getD (a + 1) 0) ∧ (bs.getD (a + 1) 0) ≤ 3
              · exact q0 (Or.inr (hti.trans (tiE_no (by rw [teE, if_pos e9, if_neg (fun h9 => absurd h9.1 (by omega))])))) h E hEA hF
              · exact q0 (Or.inr (hti.trans (tiE_no (by rw [teE, if_neg e9])))) h E hEA hF
  refine z_in [some (.ref e), some (.ref r), some (.int (nI 0)), some (.int (nI stop)), none, none, none, none, none, none, none, none] (by rfl) rfl rfl rfl ?_
  refine z_aload 1 rfl rfl rfl ?_
  refine z_push 2 (nI 0) rfl rfl rfl ?_
  refine z_put 5 rfl rfl (by first | exact hE.1 | exact w1 | exact w3 | fail "lk") rfl (mFi rfl) ?_
  obtain ⟨h1, hhh1⟩ : ∃ h9 : mH, h9 = mSet h0 e (.inr (.inr (0, [.ref (e + 1), .ref (e + 2), .ref (e + 3), .ref (e + 4), .ref (e + 5), .int (nI 0)]))) := ⟨_, rfl⟩
  refine z_gen h1 hhh1.symm ?_
  have hc1 : h1.2 e = .inr (.inr (0, [.ref (e + 1), .ref (e + 2), .ref (e + 3), .ref (e + 4), .ref (e + 5), .int (nI 0)])) := by rw [hhh1]; exact mg_eq _ _ _
  have kh1 : ∀ x, x ≠ e → h1.2 x = h0.2 x := fun x hx => by rw [hhh1]; exact mg_ne hx rfl
  have zh1 : h1.1 = h0.1 := by rw [hhh1]; rfl
  have hA1 : EnA h1 e 100 [] := ⟨Nat.zero_le _, s9, t9, n9, p9, f9, ⟨hc1, (kh1 _ (by omega)).trans hE.2.1, (kh1 _ (by omega)).trans hE.2.2.1, (kh1 _ (by omega)).trans hE.2.2.2.1, (kh1 _ (by omega)).trans hE.2.2.2.2.1, (kh1 _ (by omega)).trans hE.2.2.2.2.2⟩, fun k hk => absurd hk (Nat.not_lt_zero k)⟩
  have hF1 : Fr e (e + 6) h0 h1 := ⟨zh1, fun x hx => kh1 x (by omega)⟩
  have hw : RwAt h1 r n l := hw0.e (fun x x1 x2 => hF1.2 x (by omega))
  obtain ⟨w1, w2, f, w3, w4⟩ := id hw
  refine z_iload 6 rfl rfl rfl ?_
  refine z_iload 7 rfl rfl rfl ?_
  refine z_nge 10 rfl rfl (by omega) (by omega) (fun h9 => absurd h9 (by omega)) (fun _ => ?_)
  refine z_aload 11 rfl rfl rfl ?_
  refine z_get 14 rfl rfl (by first | exact hE.1 | exact w1 | exact w3 | fail "lk") rfl ?_
  refine z_iload 15 rfl rfl rfl ?_
  refine z_ald 16 rfl rfl (by first | exact hE.1 | exact w1 | exact w3 | fail "lk") rfl (by omega) (by omega) ?_
  rw [w4 0 (by omega), hg 0 (by omega)]
  refine z_push 18 (nI 100) rfl rfl rfl ?_
  refine z_nle 21 rfl rfl (by omega) (by omega) (fun hc18 => ?_) (fun hc18 => ?_)
  · refine z_aload 24 rfl rfl rfl ?_
    refine z_get 27 rfl rfl (by first | exact hE.1 | exact w1 | exact w3 | fail "lk") rfl ?_
    refine z_iload 28 rfl rfl rfl ?_
    refine z_ald 29 rfl rfl (by first | exact hE.1 | exact w1 | exact w3 | fail "lk") rfl (by omega) (by omega) ?_
    rw [w4 0 (by omega), hg 0 (by omega)]
    refine z_istore 31 rfl rfl rfl rfl ?_
    refine z_iload 32 rfl rfl rfl ?_
    refine z_push 33 (nI 1) rfl rfl rfl ?_
    refine z_bop 34 _ rfl rfl (by first | with_reducible exact zb_0 _ _ | exact zd_0 _ _) ?_
    refine z_istore 36 rfl rfl rfl rfl ?_
    refine z_push 37 (nI 0) rfl rfl rfl ?_
    refine z_istore 39 rfl rfl rfl rfl ?_
    exact loop (by omega) (bs.getD 0 0) 0 1 h1 [] _ _ _ _ _ (by omega) rfl (by omega) (by omega) TbW0 hA1 hF1 rfl
  · refine z_push 22 (-1) rfl rfl rfl ?_
    refine z_ireti rfl (Nat.le_refl _) (Nat.le_refl _) ?_
    exact q0 (Or.inl (by omega)) h1 [] hA1 hF1
theorem tiS_len {bs : List Nat} : ∀ {m a : Nat} {H : List Sh}, bs.length < a + 4 * m → a ≤ bs.length → tiS bs m H a = none
  | 0, a, H, h, h2 => by omega
  | m + 1, a, H, h, h2 => by
    rw [tiS]
    cases e : tsS H bs a with
    | none => rfl
    | some x =>
      have e3 : a + 3 < bs.length := by
        rw [tsS] at e
        split at e
        · exact (by assumption : _ ∧ _).1
        · cases e
      exact tiS_len (by omega) (by omega)
set_option maxRecDepth 100000 in
theorem c_Sh_readFrom {d : Nat} {h0 : mH} {e r n stop x : Nat} {l bs : List Nat} {E : List En} {H0 : List Sh} {Q : mP} (hA : ShA h0 e 10 H0) (hWE : TbW E []) (hw0 : RwAt h0 r n l) (hn : n < 2 ^ 31) (hd : r + 2 ≤ e ∨ e + 5 ≤ r) (hb : ∀ j, l.getD j 0 < 256) (hl : bs.length = stop) (hst : stop ≤ l.length) (hx : x ≤ stop) (hs9 : stop ≤ 1000) (hg : ∀ j, j < stop → l.getD j 0 = bs.getD j 0)  (q0 : (stop ≤ x ∨ 10 < bs.getD x 0 ∨ tiS bs (bs.getD x 0) [] (x + 1) = none) → ∀ h' H', ShA h' e 10 H' → Fr e (e + 5) h0 h' → Q (some (.int (-1))) h') (q1 : ∀ H, bs.getD x 0 ≤ 10 → tiS bs (bs.getD x 0) [] (x + 1) = some (H, x + 1 + 4 * bs.getD x 0) → x + 1 + 4 * bs.getD x 0 ≤ stop → TbW E H → ∀ h', ShA h' e 10 H → Fr e (e + 5) h0 h' → Q (some (.int (nI (x + 1 + 4 * bs.getD x 0)))) h') : mWP (d + 3) 99 [.ref e, .ref r, .int (nI x), .int (nI stop)] h0 Q := by
  have hbb : ∀ j, bs.getD j 0 < 256 := fun j => by
    by_cases e9 : j < stop
    · rw [← hg j e9]; exact hb j
    · rw [List.getD_eq_getElem?_getD, List.getElem?_eq_none (by omega)]; decide
  have hm0 := hbb x
  obtain ⟨hA0, s9, v9, g9, k9, hE, hEF⟩ := id hA
  have loop : bs.getD x 0 ≤ 10 → x + 1 + 4 * bs.getD x 0 ≤ stop → ∀ m9 i a h H o7 o8 o9 o10, i + m9 = bs.getD x 0 → H.length = i → a = x + 1 + 4 * i → 1 ≤ a → TbW E H → ShA h e 10 H → Fr e (e + 5) h0 h → tiS bs (bs.getD x 0) [] (x + 1) = tiS bs m9 H a → mZ (d + 2) tk_99 0 0 Q 52 [some (.ref e), some (.ref r), some (.int (nI x)), some (.int (nI stop)), some (.int (nI (bs.getD x 0))), some (.int (nI a)), some (.int (nI i)), o7, o8, o9, o10] [] h 0 0 := by
    intro hm hm4 m9
    induction m9 with
    | zero =>
      intro i a h H o7 o8 o9 o10 hi hEl ha ha1 hW hEA hF hti
      subst hEl
      refine z_iload 54 rfl rfl rfl ?_
      refine z_iload 56 rfl rfl rfl ?_
      refine z_nge 59 rfl rfl (by omega) (by omega) (fun _ => ?_) (fun h9 => absurd h9 (by omega))
      refine z_iload 175 rfl rfl rfl ?_
      refine z_ireti rfl (Nat.le_refl _) (Nat.le_refl _) ?_
      obtain rfl : a = x + 1 + 4 * bs.getD x 0 := by omega
      exact q1 H hm (hti.trans rfl) (by omega) hW h hEA hF  | succ m9 ih =>
      intro i a h H o7 o8 o9 o10 hi hEl ha ha1 hW hEA hF hti
      subst hEl
      have hw : RwAt h r n l := hw0.e (fun x x1 x2 => hF.2 x (by omega))
      obtain ⟨w1, w2, f, w3, w4⟩ := id hw
      obtain ⟨hB0, s8, v8, g8, k8, hE, hEF⟩ := id hEA
      have hb0 := hbb a
      have hb1 := hbb (a + 1)
      have hb2 := hbb (a + 2)
      have hb3 := hbb (a + 3)
      refine z_iload 54 rfl rfl rfl ?_
      refine z_iload 56 rfl rfl rfl ?_
      refine z_nge 59 rfl rfl (by omega) (by omega) (fun h9 => absurd h9 (by omega)) (fun _ => ?_)
      refine z_aload 60 rfl rfl rfl ?_
      refine z_get 63 rfl rfl (by first | exact hE.1 | exact w1 | exact w3 | fail "lk") rfl ?_
      refine z_iload 65 rfl rfl rfl ?_
      refine z_ald 66 rfl rfl (by first | exact hE.1 | exact w1 | exact w3 | fail "lk") rfl (by omega) (by omega) ?_
      rw [w4 _ (by omega), hg _ (by omega)]
      refine z_istore 68 rfl rfl rfl rfl ?_
      refine z_aload 69 rfl rfl rfl ?_
      refine z_get 72 rfl rfl (by first | exact hE.1 | exact w1 | exact w3 | fail "lk") rfl ?_
      refine z_iload 74 rfl rfl rfl ?_
      refine z_push 75 (nI 1) rfl rfl rfl ?_
      refine z_bop 76 _ rfl rfl (by first | with_reducible exact zb_0 _ _ | exact zd_0 _ _) ?_
      refine z_ald 77 rfl rfl (by first | exact hE.1 | exact w1 | exact w3 | fail "lk") rfl (by omega) (by omega) ?_
      rw [w4 _ (by omega), hg _ (by omega)]
      refine z_istore 79 rfl rfl rfl rfl ?_
      refine z_aload 80 rfl rfl rfl ?_
      refine z_get 83 rfl rfl (by first | exact hE.1 | exact w1 | exact w3 | fail "lk") rfl ?_
      refine z_iload 85 rfl rfl rfl ?_
      refine z_push 86 (nI 2) rfl rfl rfl ?_
      refine z_bop 87 _ rfl rfl (by first | with_reducible exact zb_0 _ _ | exact zd_0 _ _) ?_
      refine z_ald 88 rfl rfl (by first | exact hE.1 | exact w1 | exact w3 | fail "lk") rfl (by omega) (by omega) ?_
      rw [w4 _ (by omega), hg _ (by omega)]
      refine z_istore 90 rfl rfl rfl rfl ?_
      refine z_aload 91 rfl rfl rfl ?_
      refine z_get 94 rfl rfl (by first | exact hE.1 | exact w1 | exact w3 | fail "lk") rfl ?_
      refine z_iload 96 rfl rfl rfl ?_
      refine z_push 97 (nI 3) rfl rfl rfl ?_
      refine z_bop 98 _ rfl rfl (by first | with_reducible exact zb_0 _ _ | exact zd_0 _ _) ?_
      refine z_ald 99 rfl rfl (by first | exact hE.1 | exact w1 | exact w3 | fail "lk") rfl (by omega) (by omega) ?_
      rw [w4 _ (by omega), hg _ (by omega)]
      refine z_istore 101 rfl rfl rfl rfl ?_
      refine z_iload 103 rfl rfl rfl ?_
      refine z_cs1 106 rfl rfl rfl (Nat.le_refl _) (Nat.le_refl _) ?_
      refine c_isState ?_
      rw [jState_nI (by omega)]
      first | refine z_beq 109 rfl rfl (fun hc106 => ?_) (fun hc106 => ?_)
      · refine z_push 142 (-1) rfl rfl rfl ?_
        refine z_ireti rfl (Nat.le_refl _) (Nat.le_refl _) ?_
        have h8 := of_decide_eq_false hc106
        exact q0 (Or.inr (Or.inr (hti.trans (tiS_no (by rw [tsS, if_neg (fun h9 => absurd h9.2.1 (by omega))]))))) h H hEA hF
      · refine z_iload 111 rfl rfl rfl ?_
        refine z_cs1 114 rfl rfl rfl (Nat.le_refl _) (Nat.le_refl _) ?_
        refine c_isState ?_
        rw [jState_nI (by omega)]
        first | refine z_beq 117 rfl rfl (fun hc114 => ?_) (fun hc114 => ?_)
        · refine z_push 142 (-1) rfl rfl rfl ?_
          refine z_ireti rfl (Nat.le_refl _) (Nat.le_refl _) ?_
          have h8 := of_decide_eq_false hc114
          exact q0 (Or.inr (Or.inr (hti.trans (tiS_no (by rw [tsS, if_neg (fun h9 => absurd h9.2.2.1 (by omega))]))))) h H hEA hF
        · refine z_iload 119 rfl rfl rfl ?_
          refine z_iload 121 rfl rfl rfl ?_
          refine z_neq 124 rfl rfl (by omega) (by omega) (fun hc121 => ?_) (fun hc121 => ?_)
          · refine z_push 142 (-1) rfl rfl rfl ?_
            refine z_ireti rfl (Nat.le_refl _) (Nat.le_refl _) ?_
            exact q0 (Or.inr (Or.inr (hti.trans (tiS_no (by rw [tsS, if_neg (fun h9 => h9.2.2.2.1 hc121)]))))) h H hEA hF
          · refine z_iload 126 rfl rfl rfl ?_
            refine z_push 127 (nI 1) rfl rfl rfl ?_
            refine z_ngt 130 rfl rfl (by omega) (by omega) (fun hc127 => ?_) (fun hc127 => ?_)
            · refine z_push 142 (-1) rfl rfl rfl ?_
              refine z_ireti rfl (Nat.le_refl _) (Nat.le_refl _) ?_
              exact q0 (Or.inr (Or.inr (hti.trans (tiS_no (by rw [tsS, if_neg (fun h9 => absurd h9.2.2.2.2.1 (by omega))]))))) h H hEA hF
            · refine z_aload 131 rfl rfl rfl ?_
              refine z_iload 133 rfl rfl rfl ?_
              refine z_iload 135 rfl rfl rfl ?_
              refine z_cv2 138 rfl rfl (by first | exact hE.1 | exact w1 | exact w3 | fail "lk") rfl (Nat.le_refl _) (Nat.le_refl _) ?_
              refine w_Sh_slotOf hEA hW (by omega) (by omega) ?_
              rcases hfd : ffd (sQ H (bs.getD a 0) (bs.getD (a + 1) 0)) H.length 0 with _ | k9
              · simp only [oIb]
                refine z_jlt 141 rfl rfl (fun _ => ?_) (fun h9 => absurd h9 (by decide))
                refine z_aload 144 rfl rfl rfl ?_
                refine z_iload 146 rfl rfl rfl ?_
                refine z_iload 148 rfl rfl rfl ?_
                refine z_iload 150 rfl rfl rfl ?_
                refine z_iload 152 rfl rfl rfl ?_
                refine z_push 153 (nI 1) rfl rfl rfl ?_
                refine z_nne 156 rfl rfl (by omega) (by omega) (fun hc153 => ?_) (fun hc153 => ?_)
                · refine z_push 161 (nI 0) rfl rfl rfl ?_
                  refine z_cv4 164 rfl rfl (by first | exact hE.1 | exact w1 | exact w3 | fail "lk") rfl (Nat.le_refl _) (Nat.le_refl _) ?_
                  refine w_Sh_app (st := (bs.getD a 0)) (b := (bs.getD (a + 1) 0)) (g := (bs.getD (a + 2) 0)) (k := false) hEA (by omega) (fun h2 hA2 hF2 => ?_)
                  refine z_iinc 167 _ rfl rfl rfl rfl (zi_4 _) ?_
                  refine z_iinc 170 _ rfl rfl rfl rfl (by first | with_reducible exact zi_1 _ | rfl) ?_
                  refine z_goto rfl ?_
                  have hs3 := of_decide_eq_true hc106
                  have hg3 := of_decide_eq_true hc114
                  have hte : tsS H bs a = some ((bs.getD a 0), (bs.getD (a + 1) 0), (bs.getD (a + 2) 0), false) := by
                    rw [tsS, if_pos ⟨by omega, by omega, by omega, hc121, by omega, hfd⟩, show decide ((bs.getD (a + 3) 0) = 1) = false from decide_eq_false (by omega)]
                  refine ih (H.length + 1) (a + 4) h2 (H ++ [((bs.getD a 0), (bs.getD (a + 1) 0), (bs.getD (a + 2) 0), false)]) _ _ _ _ (by omega) (by rw [List.length_append]; show _ + 1 = _; omega) (by omega) (by omega) (TbW.addS hbb hW (by omega) hte) hA2 ⟨hF2.1.trans hF.1, fun x hx => (hF2.2 x hx).trans (hF.2 x hx)⟩ ?_
                  rw [hti, tiS, hte]
                · refine z_push 157 (nI 1) rfl rfl rfl ?_
                  refine z_goto rfl ?_
                  refine z_cv4 164 rfl rfl (by first | exact hE.1 | exact w1 | exact w3 | fail "lk") rfl (Nat.le_refl _) (Nat.le_refl _) ?_
                  refine w_Sh_app (st := (bs.getD a 0)) (b := (bs.getD (a + 1) 0)) (g := (bs.getD (a + 2) 0)) (k := true) hEA (by omega) (fun h2 hA2 hF2 => ?_)
                  refine z_iinc 167 _ rfl rfl rfl rfl (zi_4 _) ?_
                  refine z_iinc 170 _ rfl rfl rfl rfl (by first | with_reducible exact zi_1 _ | rfl) ?_
                  refine z_goto rfl ?_
                  have hs3 := of_decide_eq_true hc106
                  have hg3 := of_decide_eq_true hc114
                  have hte : tsS H bs a = some ((bs.getD a 0), (bs.getD (a + 1) 0), (bs.getD (a + 2) 0), true) := by
                    rw [tsS, if_pos ⟨by omega, by omega, by omega, hc121, by omega, hfd⟩, show decide ((bs.getD (a + 3) 0) = 1) = true from decide_eq_true (by omega)]
                  refine ih (H.length + 1) (a + 4) h2 (H ++ [((bs.getD a 0), (bs.getD (a + 1) 0), (bs.getD (a + 2) 0), true)]) _ _ _ _ (by omega) (by rw [List.length_append]; show _ + 1 = _; omega) (by omega) (by omega) (TbW.addS hbb hW (by omega) hte) hA2 ⟨hF2.1.trans hF.1, fun x hx => (hF2.2 x hx).trans (hF.2 x hx)⟩ ?_
                  rw [hti, tiS, hte]
              · simp only [oIb]
                have hf9 := ffd_lt hfd
                refine z_zlt 141 rfl rfl (by omega) (fun h9 => absurd h9 (by omega)) (fun _ => ?_)
                refine z_push 142 (-1) rfl rfl rfl ?_
                refine z_ireti rfl (Nat.le_refl _) (Nat.le_refl _) ?_
                exact q0 (Or.inr (Or.inr (hti.trans (tiS_no (by rw [tsS, if_neg (fun h9 => by have h8 := h9.2.2.2.2.2; rw [hfd] at h8; cases h8)]))))) h H hEA hF
  refine z_in [some (.ref e), some (.ref r), some (.int (nI x)), some (.int (nI stop)), none, none, none, none, none, none, none] (by rfl) rfl rfl rfl ?_
  refine z_aload 1 rfl rfl rfl ?_
  refine z_push 2 (nI 0) rfl rfl rfl ?_
  refine z_put 5 rfl rfl (by first | exact hE.1 | exact w1 | exact w3 | fail "lk") rfl (mFi rfl) ?_
  obtain ⟨h1, hhh1⟩ : ∃ h9 : mH, h9 = mSet h0 e (.inr (.inr (9, [.ref (e + 1), .ref (e + 2), .ref (e + 3), .ref (e + 4), .int (nI 0)]))) := ⟨_, rfl⟩
  refine z_gen h1 hhh1.symm ?_
  have hc1 : h1.2 e = .inr (.inr (9, [.ref (e + 1), .ref (e + 2), .ref (e + 3), .ref (e + 4), .int (nI 0)])) := by rw [hhh1]; exact mg_eq _ _ _
  have kh1 : ∀ x, x ≠ e → h1.2 x = h0.2 x := fun x hx => by rw [hhh1]; exact mg_ne hx rfl
  have zh1 : h1.1 = h0.1 := by rw [hhh1]; rfl
  have hA1 : ShA h1 e 10 [] := ⟨Nat.zero_le _, s9, v9, g9, k9, ⟨hc1, (kh1 _ (by omega)).trans hE.2.1, (kh1 _ (by omega)).trans hE.2.2.1, (kh1 _ (by omega)).trans hE.2.2.2.1, (kh1 _ (by omega)).trans hE.2.2.2.2⟩, fun k hk => absurd hk (Nat.not_lt_zero k)⟩
  have hF1 : Fr e (e + 5) h0 h1 := ⟨zh1, fun x hx => kh1 x (by omega)⟩
  have hw : RwAt h1 r n l := hw0.e (fun x x1 x2 => hF1.2 x (by omega))
  obtain ⟨w1, w2, f, w3, w4⟩ := id hw
  refine z_iload 6 rfl rfl rfl ?_
  refine z_iload 7 rfl rfl rfl ?_
  refine z_nge 10 rfl rfl (by omega) (by omega) (fun hc7 => ?_) (fun hc7 => ?_)
  · refine z_push 22 (-1) rfl rfl rfl ?_
    refine z_ireti rfl (Nat.le_refl _) (Nat.le_refl _) ?_
    exact q0 (Or.inl (by omega)) h1 [] hA1 hF1
  · refine z_aload 11 rfl rfl rfl ?_
    refine z_get 14 rfl rfl (by first | exact hE.1 | exact w1 | exact w3 | fail "lk") rfl ?_
    refine z_iload 15 rfl rfl rfl ?_
    refine z_ald 16 rfl rfl (by first | exact hE.1 | exact w1 | exact w3 | fail "lk") rfl (by omega) (by omega) ?_
    rw [w4 x (by omega), hg x (by omega)]
    refine z_push 18 (nI 10) rfl rfl rfl ?_
    refine z_nle 21 rfl rfl (by omega) (by omega) (fun hc18 => ?_) (fun hc18 => ?_)
    · refine z_aload 24 rfl rfl rfl ?_
      refine z_get 27 rfl rfl (by first | exact hE.1 | exact w1 | exact w3 | fail "lk") rfl ?_
      refine z_iload 28 rfl rfl rfl ?_
      refine z_ald 29 rfl rfl (by first | exact hE.1 | exact w1 | exact w3 | fail "lk") rfl (by omega) (by omega) ?_
      rw [w4 x (by omega), hg x (by omega)]
      refine z_istore 31 rfl rfl rfl rfl ?_
      refine z_iload 32 rfl rfl rfl ?_
      refine z_push 33 (nI 1) rfl rfl rfl ?_
      refine z_bop 34 _ rfl rfl (by first | with_reducible exact zb_0 _ _ | exact zd_0 _ _) ?_
      refine z_istore 36 rfl rfl rfl rfl ?_
      refine z_iload 38 rfl rfl rfl ?_
      refine z_push 39 (nI 4) rfl rfl rfl ?_
      refine z_iload 41 rfl rfl rfl ?_
      refine z_bop 42 _ rfl rfl (by first | with_reducible exact zb_2 _ _ | exact zd_2 _ _) ?_
      refine z_bop 43 _ rfl rfl (by first | with_reducible exact zb_0 _ _ | exact zd_0 _ _) ?_
      refine z_iload 44 rfl rfl rfl ?_
      refine z_nle 47 rfl rfl (by omega) (by omega) (fun hc44 => ?_) (fun hc44 => ?_)
      · refine z_push 50 (nI 0) rfl rfl rfl ?_
        refine z_istore 52 rfl rfl rfl rfl ?_
        exact loop (by omega) (by omega) (bs.getD x 0) 0 (x + 1) h1 [] _ _ _ _ (by omega) rfl (by omega) (by omega) hWE hA1 hF1 rfl
      · refine z_push 48 (-1) rfl rfl rfl ?_
        refine z_ireti rfl (Nat.le_refl _) (Nat.le_refl _) ?_
        have hsn := tiS_len (bs := bs) (m := bs.getD x 0) (H := []) (a := x + 1) (by omega) (by omega)
        exact q0 (Or.inr (Or.inr hsn)) h1 [] hA1 hF1
    · refine z_push 22 (-1) rfl rfl rfl ?_
      refine z_ireti rfl (Nat.le_refl _) (Nat.le_refl _) ?_
      exact q0 (Or.inr (Or.inl (by omega))) h1 [] hA1 hF1
