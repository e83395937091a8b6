/-! the reference: takeEntry -/
theorem Tk.h68 {P x : Nat} {s' : rS} (h : s'.1 68 = x) : (stI 67 P s').1 68 = x := gI_ne (by decide) h
theorem nxV_in {bs : List Nat} {i lo hi : Nat} (hb : ∀ j, bs.getD j 0 < 256) (h : decide ((lo : Int) ≤ (nxV bs i).toInt ∧ (nxV bs i).toInt ≤ (hi : Int)) = true) : i < bs.length ∧ lo ≤ bs.getD i 0 ∧ bs.getD i 0 ≤ hi ∧ nxV bs i = nI (bs.getD i 0) := by
  have h1 := hb i
  have h2 := of_decide_eq_true h
  by_cases e : i < bs.length
  · rw [nxV_lt e, nI_toInt (by omega)] at h2
    exact ⟨e, by omega, by omega, nxV_lt e⟩
  · rw [nxV_ge e] at h2
    have h3 : (-1 : Int32).toInt = -1 := by decide
    rw [h3] at h2
    omega
theorem nxV_out {bs : List Nat} {i lo hi : Nat} (hb : ∀ j, bs.getD j 0 < 256) (h : decide ((lo : Int) ≤ (nxV bs i).toInt ∧ (nxV bs i).toInt ≤ (hi : Int)) = false) : ¬ (i < bs.length ∧ lo ≤ bs.getD i 0 ∧ bs.getD i 0 ≤ hi) := by
  intro h9
  have h1 := hb i
  have h2 := of_decide_eq_false h
  rw [nxV_lt h9.1, nI_toInt (by omega)] at h2
  omega
set_option maxRecDepth 100000 in
theorem r_takeEntry {d r : Nat} {h h0 : mH} {s : rS} {P i : Nat} {bs : List Nat} {E : List En} {H : List Sh} {Q : mP} (hR : Rf r h0 s h) (hb1 : bs.length ≤ 1000) (hb : ∀ j, bs.getD j 0 < 256) (hby : ∀ j, j < bs.length → s.2.2 15 j = bs.getD j 0) (hi : i ≤ 5000) (h67 : s.1 67 = i) (h68 : s.1 68 = bs.length) (hT : TbR s P E H) (hW : TbW E H) (hE : E.length < 100)  (q0 : teE E bs i = none → ∀ h' s', Rf r h0 s' h' → Tk P s s' → Q (some (.int (nI 0))) h') (q1 : ∀ e, teE E bs i = some e → ∀ h' s', Rf r h0 s' h' → Tk P s s' → TbR s' P (E ++ [e]) H → s'.1 67 = i + 6 + e.2.2.1 → s'.1 68 = bs.length → Q (some (.int (nI 1))) h') : mWP (d + 3) 257 [.ref r, .int (nI P)] h Q := by
  refine z_in [some (.ref r), some (.int (nI P)), none, none, none, none, none, none] (by rfl) rfl rfl rfl ?_
  refine z_aload 1 rfl rfl rfl ?_
  refine z_cv0 4 rfl rfl hR.1 rfl (Nat.le_refl _) (Nat.le_refl _) ?_
  refine r_next hR h67 h68 (by omega) hb1 (fun j hj => hby j hj) (fun h hR => ?_)
  refine z_istore 5 rfl rfl rfl rfl ?_
  refine z_aload 6 rfl rfl rfl ?_
  refine z_cv0 9 rfl rfl hR.1 rfl (Nat.le_refl _) (Nat.le_refl _) ?_
  refine r_next hR (gI_eq _ _ _) (Tk.h68 h68) (by omega) hb1 (fun j hj => hby j hj) (fun h hR => ?_)
  refine z_istore 10 rfl rfl rfl rfl ?_
  refine z_iload 11 rfl rfl rfl ?_
  refine z_push 12 (nI 0) rfl rfl rfl ?_
  refine z_push 13 (nI 3) rfl rfl rfl ?_
  refine z_cs3 16 rfl rfl rfl (Nat.le_refl _) (Nat.le_refl _) ?_
  refine r_in ?_
  rw [jIn_l (by omega) (by omega)]
  first | refine z_beq 19 rfl rfl (fun hc16 => ?_) (fun hc16 => ?_)
  · refine z_push 29 (nI 0) rfl rfl rfl ?_
    refine z_iretb rfl (Nat.le_refl _) (Nat.le_refl _) (by first | decide | exact bI_01 _) ?_
    exact q0 (by rw [teE, if_neg (fun h9 => nxV_out (lo := 0) (hi := 3) hb hc16 ⟨by omega, by omega, h9.2.1⟩)]) h _ hR (Tk.n (Tk.n Tk.z))
  · refine z_iload 20 rfl rfl rfl ?_
    refine z_push 21 (nI 1) rfl rfl rfl ?_
    refine z_push 22 (nI 3) rfl rfl rfl ?_
    refine z_cs3 25 rfl rfl rfl (Nat.le_refl _) (Nat.le_refl _) ?_
    refine r_in ?_
    rw [jIn_l (by omega) (by omega)]
    first | refine z_bne 28 rfl rfl (fun hc25 => ?_) (fun hc25 => ?_)
    · obtain ⟨hil0, _, hs3, e1⟩ := nxV_in (lo := 0) (hi := 3) hb hc16
      obtain ⟨hil, hn1, hn3, e2⟩ := nxV_in (lo := 1) (hi := 3) hb hc25
      rw [e1, e2]
      have pts : ∀ m9 k s1 h, 3 < k + m9 → k ≤ 3 → s1.1 67 = i + 2 + (bs.getD (i + 1) 0) + k → Rf r h0 s1 h → Tk P s s1 → s1.1 68 = bs.length → TbR s1 P E H → mZ (d + 2) tk_257 0 0 Q 70 [some (.ref r), some (.int (nI P)), some (.int (nI (bs.getD i 0))), some (.int (nI (bs.getD (i + 1) 0))), some (.int (nI (txF bs (i + 2) (bs.getD (i + 1) 0)))), some (.int (nI (txF bs (i + 2 + (bs.getD (i + 1) 0)) k))), some (.int (nI k)), none] [] h 0 0 := by
        intro m9
        induction m9 with
        | zero => intro k s1 h h1 h2; omega
        | succ m9 ih =>
          intro k s1 h h1 h2 h67 hR hK1 h68 hT1
          have hx := txF_b hb (a := i + 2 + (bs.getD (i + 1) 0)) k
          have hx2 : 256 ^ k ≤ 256 ^ 3 := Nat.pow_le_pow_right (by decide) h2
          have hx3 : k < 3 → 256 ^ k ≤ 256 ^ 2 := fun h9 => Nat.pow_le_pow_right (by decide) (by omega)
          have htx := txF_b hb (a := i + 2) (bs.getD (i + 1) 0)
          have htx2 : 256 ^ (bs.getD (i + 1) 0) ≤ 256 ^ 3 := Nat.pow_le_pow_right (by decide) hn3
          have hT3 := hT1.2.1
          have hT0 := hT1.1
          refine z_iload 72 rfl rfl rfl ?_
          refine z_push 73 (nI 3) rfl rfl rfl ?_
          refine z_nge 76 rfl rfl (by omega) (by omega) (fun hc73 => ?_) (fun hc73 => ?_)
          · refine z_aload 99 rfl rfl rfl ?_
            refine z_cv0 102 rfl rfl hR.1 rfl (Nat.le_refl _) (Nat.le_refl _) ?_
            obtain rfl : k = 3 := by omega
            refine r_next hR h67 h68 (by omega) hb1 (fun j hj => by rw [hK1.2.1 15 (by decide) (by decide) (by decide)]; exact hby j hj) (fun h hR => ?_)
            have hK2 := hK1.n (x := i + 2 + (bs.getD (i + 1) 0) + 3 + 1)
            have hbp := hb (i + 2 + (bs.getD (i + 1) 0) + 3)
            by_cases hp9 : i + 2 + (bs.getD (i + 1) 0) + 3 < bs.length
            · rw [nxV_lt hp9]
              refine z_istore 104 rfl rfl rfl rfl ?_
              refine z_iload 106 rfl rfl rfl ?_
              refine z_zlt 109 rfl rfl (by omega) (fun h9 => absurd h9 (by omega)) (fun _ => ?_)
              refine z_iload 111 rfl rfl rfl ?_
              refine z_push 112 (nI 1) rfl rfl rfl ?_
              refine z_ngt 115 rfl rfl (by omega) (by omega) (fun hc112 => ?_) (fun hc112 => ?_)
              · refine z_push 136 (nI 0) rfl rfl rfl ?_
                refine z_iretb rfl (Nat.le_refl _) (Nat.le_refl _) (by first | decide | exact bI_01 _) ?_
                exact q0 (by rw [teE, if_pos ⟨hil, hs3, hn1, hn3⟩, if_neg (fun h9 => absurd h9.2.1 (by omega))]) h _ hR hK2
              · refine z_iload 117 rfl rfl rfl ?_
                refine z_cs1 120 rfl rfl rfl (Nat.le_refl _) (Nat.le_refl _) ?_
                refine r_isPoint ?_
                rw [jPoint_nI (by omega)]
                first | refine z_beq 123 rfl rfl (fun hc120 => ?_) (fun hc120 => ?_)
                · refine z_push 136 (nI 0) rfl rfl rfl ?_
                  refine z_iretb rfl (Nat.le_refl _) (Nat.le_refl _) (by first | decide | exact bI_01 _) ?_
                  have hpt9 : nPt ((txF bs (i + 2 + (bs.getD (i + 1) 0)) 3)) = false := hc120
                  exact q0 (by rw [teE, if_pos ⟨hil, hs3, hn1, hn3⟩, if_neg (fun h9 => by have h8 := h9.2.2.1; rw [hpt9] at h8; cases h8)]) h _ hR hK2
                · refine z_aload 124 rfl rfl rfl ?_
                  refine z_iload 125 rfl rfl rfl ?_
                  refine z_iload 126 rfl rfl rfl ?_
                  refine z_iload 128 rfl rfl rfl ?_
                  refine z_iload 129 rfl rfl rfl ?_
                  refine z_cv4 132 rfl rfl hR.1 rfl (Nat.le_refl _) (Nat.le_refl _) ?_
                  refine r_entryOf hR (show TbR (stI 67 _ s1) P E H from hT1) hW (by omega) (by omega) (by omega) ?_
                  rcases hfd : ffd (eQ E (bs.getD i 0) ((txF bs (i + 2) (bs.getD (i + 1) 0))) (bs.getD (i + 1) 0)) E.length 0 with _ | k9
                  · simp only [oIb]
                    refine z_jlt 135 rfl rfl (fun _ => ?_) (fun h9 => absurd h9 (by decide))
                    refine z_push 139 (nI 100) rfl rfl rfl ?_
                    refine z_iload 140 rfl rfl rfl ?_
                    refine z_bop 141 _ rfl rfl (by first | with_reducible exact zb_2 _ _ | exact zd_2 _ _) ?_
                    refine z_aload 142 rfl rfl rfl ?_
                    refine y_ga 145 hR rfl rfl rfl ?_
                    refine z_iload 146 rfl rfl rfl ?_
                    refine y_al (f := 3) 147 _ hR rfl rfl rfl rfl (by omega) (by repeat (first | with_reducible exact hT3 | with_reducible exact gA_eq _ _ _ _ | (with_reducible apply gA_ne; decide) | with_reducible apply gA_I | with_reducible apply gA_O | (with_reducible apply gA_nj; omega) | with_reducible rfl)) ?_
                    refine z_bop 148 _ rfl rfl (by first | with_reducible exact zb_0 _ _ | exact zd_0 _ _) ?_
                    refine z_istore 150 rfl rfl rfl rfl ?_
                    refine z_aload 151 rfl rfl rfl ?_
                    refine y_ga 154 hR rfl rfl rfl ?_
                    refine z_iload 156 rfl rfl rfl ?_
                    refine z_iload 157 rfl rfl rfl ?_
                    refine y_as (f := 5) 158 hR rfl rfl rfl rfl (by omega) ?_
                    intro h hR
                    refine z_aload 159 rfl rfl rfl ?_
                    refine y_ga 162 hR rfl rfl rfl ?_
                    refine z_iload 164 rfl rfl rfl ?_
                    refine z_iload 165 rfl rfl rfl ?_
                    refine y_as (f := 6) 166 hR rfl rfl rfl rfl (by omega) ?_
                    intro h hR
                    refine z_aload 167 rfl rfl rfl ?_
                    refine y_ga 170 hR rfl rfl rfl ?_
                    refine z_iload 172 rfl rfl rfl ?_
                    refine z_iload 174 rfl rfl rfl ?_
                    refine y_as (f := 7) 175 hR rfl rfl rfl rfl (by omega) ?_
                    intro h hR
                    refine z_aload 176 rfl rfl rfl ?_
                    refine y_ga 179 hR rfl rfl rfl ?_
                    refine z_iload 181 rfl rfl rfl ?_
                    refine z_iload 183 rfl rfl rfl ?_
                    refine y_as (f := 8) 184 hR rfl rfl rfl rfl (by omega) ?_
                    intro h hR
                    refine z_aload 185 rfl rfl rfl ?_
                    refine y_ga 188 hR rfl rfl rfl ?_
                    refine z_iload 190 rfl rfl rfl ?_
                    refine z_iload 192 rfl rfl rfl ?_
                    refine z_push 193 (nI 1) rfl rfl rfl ?_
                    refine z_nne 196 rfl rfl (by omega) (by omega) (fun hc193 => ?_) (fun hc193 => ?_)
                    · refine z_push 201 (nI 0) rfl rfl rfl ?_
                      refine y_bs (f := 9) 202 hR rfl rfl rfl rfl (by omega) (by decide) ?_
                      intro h hR
                      refine z_aload 203 rfl rfl rfl ?_
                      refine y_ga 206 hR rfl rfl rfl ?_
                      refine z_iload 207 rfl rfl rfl ?_
                      refine z_dup2 208 rfl rfl ?_
                      refine y_al (f := 3) 209 _ hR rfl rfl rfl rfl (by omega) (by repeat (first | with_reducible exact hT3 | with_reducible exact gA_eq _ _ _ _ | (with_reducible apply gA_ne; decide) | with_reducible apply gA_I | with_reducible apply gA_O | (with_reducible apply gA_nj; omega) | with_reducible rfl)) ?_
                      refine z_push 210 (nI 1) rfl rfl rfl ?_
                      refine z_bop 211 _ rfl rfl (by first | with_reducible exact zb_0 _ _ | exact zd_0 _ _) ?_
                      refine y_as (f := 3) 212 hR rfl rfl rfl rfl (by omega) ?_
                      intro h hR
                      refine z_push 213 (nI 1) rfl rfl rfl ?_
                      refine z_iretb rfl (Nat.le_refl _) (Nat.le_refl _) (by first | decide | exact bI_01 _) ?_
                      have hpt : nPt ((txF bs (i + 2 + (bs.getD (i + 1) 0)) 3)) = true := hc120
                      have e9 : teE E bs i = some ((bs.getD i 0), (txF bs (i + 2) (bs.getD (i + 1) 0)), (bs.getD (i + 1) 0), (txF bs (i + 2 + (bs.getD (i + 1) 0)) 3), false) := by
                        rw [teE, if_pos ⟨hil, hs3, hn1, hn3⟩, if_pos ⟨hp9, by omega, hpt, hfd⟩, show decide (bs.getD (i + 2 + (bs.getD (i + 1) 0) + 3) 0 = 1) = false from decide_eq_false (by omega)]
                      exact q1 _ e9 h _ hR (hK2.addE (k := E.length) (x := E.length + 1) (e := ((bs.getD i 0), (txF bs (i + 2) (bs.getD (i + 1) 0)), (bs.getD (i + 1) 0), (txF bs (i + 2 + (bs.getD (i + 1) 0)) 3), false)) (by omega)) (TbR.addE (e := ((bs.getD i 0), (txF bs (i + 2) (bs.getD (i + 1) 0)), (bs.getD (i + 1) 0), (txF bs (i + 2 + (bs.getD (i + 1) 0)) 3), false)) (show TbR (stI 67 _ s1) P E H from hT1)) (show (stI 67 (i + 2 + (bs.getD (i + 1) 0) + 3 + 1) s1).1 67 = i + 6 + (bs.getD (i + 1) 0) from by rw [gI_eq]; omega) (show (stI 67 (i + 2 + (bs.getD (i + 1) 0) + 3 + 1) s1).1 68 = bs.length from Tk.h68 h68)
                    · refine z_push 197 (nI 1) rfl rfl rfl ?_
                      refine z_goto rfl ?_
                      refine y_bs (f := 9) 202 hR rfl rfl rfl rfl (by omega) (by decide) ?_
                      intro h hR
                      refine z_aload 203 rfl rfl rfl ?_
                      refine y_ga 206 hR rfl rfl rfl ?_
                      refine z_iload 207 rfl rfl rfl ?_
                      refine z_dup2 208 rfl rfl ?_
                      refine y_al (f := 3) 209 _ hR rfl rfl rfl rfl (by omega) (by repeat (first | with_reducible exact hT3 | with_reducible exact gA_eq _ _ _ _ | (with_reducible apply gA_ne; decide) | with_reducible apply gA_I | with_reducible apply gA_O | (with_reducible apply gA_nj; omega) | with_reducible rfl)) ?_
                      refine z_push 210 (nI 1) rfl rfl rfl ?_
                      refine z_bop 211 _ rfl rfl (by first | with_reducible exact zb_0 _ _ | exact zd_0 _ _) ?_
                      refine y_as (f := 3) 212 hR rfl rfl rfl rfl (by omega) ?_
                      intro h hR
                      refine z_push 213 (nI 1) rfl rfl rfl ?_
                      refine z_iretb rfl (Nat.le_refl _) (Nat.le_refl _) (by first | decide | exact bI_01 _) ?_
                      have hpt : nPt ((txF bs (i + 2 + (bs.getD (i + 1) 0)) 3)) = true := hc120
                      have e9 : teE E bs i = some ((bs.getD i 0), (txF bs (i + 2) (bs.getD (i + 1) 0)), (bs.getD (i + 1) 0), (txF bs (i + 2 + (bs.getD (i + 1) 0)) 3), true) := by
                        rw [teE, if_pos ⟨hil, hs3, hn1, hn3⟩, if_pos ⟨hp9, by omega, hpt, hfd⟩, show decide (bs.getD (i + 2 + (bs.getD (i + 1) 0) + 3) 0 = 1) = true from decide_eq_true (by omega)]
                      exact q1 _ e9 h _ hR (hK2.addE (k := E.length) (x := E.length + 1) (e := ((bs.getD i 0), (txF bs (i + 2) (bs.getD (i + 1) 0)), (bs.getD (i + 1) 0), (txF bs (i + 2 + (bs.getD (i + 1) 0)) 3), true)) (by omega)) (TbR.addE (e := ((bs.getD i 0), (txF bs (i + 2) (bs.getD (i + 1) 0)), (bs.getD (i + 1) 0), (txF bs (i + 2 + (bs.getD (i + 1) 0)) 3), true)) (show TbR (stI 67 _ s1) P E H from hT1)) (show (stI 67 (i + 2 + (bs.getD (i + 1) 0) + 3 + 1) s1).1 67 = i + 6 + (bs.getD (i + 1) 0) from by rw [gI_eq]; omega) (show (stI 67 (i + 2 + (bs.getD (i + 1) 0) + 3 + 1) s1).1 68 = bs.length from Tk.h68 h68)
                  · simp only [oIb]
                    have hf9 := ffd_lt hfd
                    have hE9 := hW.1
                    refine z_zlt 135 rfl rfl (by omega) (fun h9 => absurd h9 (by omega)) (fun _ => ?_)
                    refine z_push 136 (nI 0) rfl rfl rfl ?_
                    refine z_iretb rfl (Nat.le_refl _) (Nat.le_refl _) (by first | decide | exact bI_01 _) ?_
                    exact q0 (by rw [teE, if_pos ⟨hil, hs3, hn1, hn3⟩, if_neg (fun h9 => by have h8 := h9.2.2.2; rw [hfd] at h8; cases h8)]) h _ hR hK2
            · rw [nxV_ge hp9]
              refine z_istore 104 rfl rfl rfl rfl ?_
              refine z_iload 106 rfl rfl rfl ?_
              refine z_jlt 109 rfl rfl (fun _ => ?_) (fun h9 => absurd h9 (by decide))
              refine z_push 136 (nI 0) rfl rfl rfl ?_
              refine z_iretb rfl (Nat.le_refl _) (Nat.le_refl _) (by first | decide | exact bI_01 _) ?_
              exact q0 (by rw [teE, if_pos ⟨hil, hs3, hn1, hn3⟩, if_neg (fun h9 => hp9 h9.1)]) h _ hR hK2
          · have hx4 := hx3 (by omega)
            refine z_iload 78 rfl rfl rfl ?_
            refine z_push 80 (nI 8) rfl rfl rfl ?_
            refine z_bop 81 _ rfl rfl (shl_n 8 (by decide) (by omega)) ?_
            refine z_aload 82 rfl rfl rfl ?_
            refine z_cv0 85 rfl rfl hR.1 rfl (Nat.le_refl _) (Nat.le_refl _) ?_
            refine r_next hR h67 h68 (by omega) hb1 (fun j hj => by rw [hK1.2.1 15 (by decide) (by decide) (by decide)]; exact hby j hj) (fun h hR => ?_)
            refine z_push 88 (nI 255) rfl rfl rfl ?_
            refine z_bop 89 _ rfl rfl (nxV_and hb) ?_
            refine z_bop 90 _ rfl rfl (or_n (k := 8) (by omega) (nb_b hb)) ?_
            refine z_istore 92 rfl rfl rfl rfl ?_
            refine z_iinc 95 _ rfl rfl rfl rfl (by first | with_reducible exact zi_1 _ | rfl) ?_
            refine z_goto rfl ?_
            exact ih (k + 1) _ h (by omega) (by omega) (gI_eq _ _ _) hR hK1.n (Tk.h68 h68) hT1
      have txt : ∀ m9 k s1 h, (bs.getD (i + 1) 0) < k + m9 → k ≤ (bs.getD (i + 1) 0) → s1.1 67 = i + 2 + k → Rf r h0 s1 h → Tk P s s1 → s1.1 68 = bs.length → TbR s1 P E H → mZ (d + 2) tk_257 0 0 Q 36 [some (.ref r), some (.int (nI P)), some (.int (nI (bs.getD i 0))), some (.int (nI (bs.getD (i + 1) 0))), some (.int (nI (txF bs (i + 2) k))), some (.int (nI k)), none, none] [] h 0 0 := by
        intro m9
        induction m9 with
        | zero => intro k s1 h h1 h2; omega
        | succ m9 ih =>
          intro k s1 h h1 h2 h67 hR hK1 h68 hT1
          have hx := txF_b hb (a := i + 2) k
          have hx3 : k < (bs.getD (i + 1) 0) → 256 ^ k ≤ 256 ^ 2 := fun h9 => Nat.pow_le_pow_right (by decide) (by omega)
          refine z_iload 38 rfl rfl rfl ?_
          refine z_iload 39 rfl rfl rfl ?_
          refine z_nge 42 rfl rfl (by omega) (by omega) (fun hc39 => ?_) (fun hc39 => ?_)
          · refine z_push 65 (nI 0) rfl rfl rfl ?_
            refine z_istore 67 rfl rfl rfl rfl ?_
            refine z_push 68 (nI 0) rfl rfl rfl ?_
            refine z_istore 70 rfl rfl rfl rfl ?_
            obtain rfl : k = (bs.getD (i + 1) 0) := by omega
            exact pts 4 0 s1 h (by omega) (by omega) h67 hR hK1 h68 hT1
          · have hx4 := hx3 (by omega)
            refine z_iload 44 rfl rfl rfl ?_
            refine z_push 46 (nI 8) rfl rfl rfl ?_
            refine z_bop 47 _ rfl rfl (shl_n 8 (by decide) (by omega)) ?_
            refine z_aload 48 rfl rfl rfl ?_
            refine z_cv0 51 rfl rfl hR.1 rfl (Nat.le_refl _) (Nat.le_refl _) ?_
            refine r_next hR h67 h68 (by omega) hb1 (fun j hj => by rw [hK1.2.1 15 (by decide) (by decide) (by decide)]; exact hby j hj) (fun h hR => ?_)
            refine z_push 54 (nI 255) rfl rfl rfl ?_
            refine z_bop 55 _ rfl rfl (nxV_and hb) ?_
            refine z_bop 56 _ rfl rfl (or_n (k := 8) (by omega) (nb_b hb)) ?_
            refine z_istore 58 rfl rfl rfl rfl ?_
            refine z_iinc 61 _ rfl rfl rfl rfl (by first | with_reducible exact zi_1 _ | rfl) ?_
            refine z_goto rfl ?_
            exact ih (k + 1) _ h (by omega) (by omega) (gI_eq _ _ _) hR hK1.n (Tk.h68 h68) hT1
      refine z_push 31 (nI 0) rfl rfl rfl ?_
      refine z_istore 33 rfl rfl rfl rfl ?_
      refine z_push 34 (nI 0) rfl rfl rfl ?_
      refine z_istore 36 rfl rfl rfl rfl ?_
      exact txt ((bs.getD (i + 1) 0) + 1) 0 _ h (by omega) (by omega) (gI_eq _ _ _) hR (Tk.n (Tk.n Tk.z)) (Tk.h68 (Tk.h68 h68)) hT
    · refine z_push 29 (nI 0) rfl rfl rfl ?_
      refine z_iretb rfl (Nat.le_refl _) (Nat.le_refl _) (by first | decide | exact bI_01 _) ?_
      exact q0 (by rw [teE, if_neg (fun h9 => nxV_out (lo := 1) (hi := 3) hb hc25 ⟨h9.1, h9.2.2⟩)]) h _ hR (Tk.n (Tk.n Tk.z))
