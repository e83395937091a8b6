/-! the class: stagedFinding -/
set_option maxRecDepth 100000 in
theorem c_stagedFinding {d : Nat} {h0 : mH} {R rs ws pt : Nat} {F : List Fb} {ps : List Nat} {whs : Nat → Int32} {Q : mP} (hP : RuP h0 R rs ws F pt ps whs) (hW : FbW F) (hpt : nPt pt = true) (hps1 : 1 ≤ ps.length) (hps4 : ps.length ≤ 4) (hpsn : ∀ x, x ∈ ps → nPt x = true) (hl : F.length ≤ 40) (hl' : (fbS9 F pt ps).length ≤ 40) (hU : FbU (fbS9 F pt ps))  (q : ∀ h' whs', RuP h' R rs ws F pt ps whs' → Fr (R + 4) (R + 5) h0 h' → Q (some (.int (stV (fbS9 F pt ps)))) h') : mWP (d + 3) 86 [.ref R, .int (oI (fbI F pt))] h0 Q := by
  have hn9 : ∀ t, Std F pt t → 1 ≤ (slL F ps t).length := fun t ht => by
    unfold slL
    split
    · exact hps1
    · rcases ht with h9 | h9
      · exact absurd h9 (by assumption)
      · exact (hW t h9.1).2.1
  have innr : ∀ (w0 : Nat → Nat) (r : Nat), ∀ m9 s w mo h whs, 41 < s + m9 → s ≤ 41 → RuP h R rs ws F pt ps whs → (∀ k, k ≤ 40 → whs k = nI (w k)) → Fr (R + 4) (R + 5) h0 h → InW F pt ps w0 s w mo → (∀ w mo h whs o4, mo ≤ 1 → RuP h R rs ws F pt ps whs → (∀ k, k ≤ 40 → whs k = nI (w k)) → Fr (R + 4) (R + 5) h0 h → InW F pt ps w0 41 w mo → mZ (d + 2) tk_86 0 0 Q 93 [some (.ref R), some (.int (oI (fbI F pt))), some (.int (nI mo)), some (.int (nI r)), o4] [] h 0 0) → mo ≤ 1 → mZ (d + 2) tk_86 0 0 Q 27 [some (.ref R), some (.int (oI (fbI F pt))), some (.int (nI mo)), some (.int (nI r)), some (.int (nI s))] [] h 0 0 := by
    intro w0 r m9
    induction m9 with
    | zero => intro s w mo h whs h1 h2; omega
    | succ m9 ih =>
      intro s w mo h whs h1 h2 hP hw hF hI hk hmo
      obtain ⟨_, _, _, _, _, _, _, _, hP4, _⟩ := id hP
      refine z_iload 29 rfl rfl rfl ?_
      refine z_push 31 (nI 40) rfl rfl rfl ?_
      refine z_ngt 34 rfl rfl (by omega) (by omega) (fun hc31 => ?_) (fun hc31 => ?_)
      · obtain rfl : s = 41 := by omega
        exact hk w mo h whs _ (by omega) hP hw hF hI
      · refine z_aload 35 rfl rfl rfl ?_
        refine z_iload 37 rfl rfl rfl ?_
        refine z_iload 38 rfl rfl rfl ?_
        refine z_cv2 41 rfl rfl (by first | exact hP.1 | exact hP4 | exact hr1 | exact hP1.1 | fail "lk") rfl (Nat.le_refl _) (Nat.le_refl _) ?_
        refine c_stands hP (by omega) (fun hst => ?_) (fun hst => ?_)
        · skip
          refine z_zeq 44 rfl rfl (by omega) (fun h9 => absurd h9 (by omega)) (fun _ => ?_)
          refine z_aload 45 rfl rfl rfl ?_
          refine z_get 48 rfl rfl (by first | exact hP.1 | exact hP4 | exact hr1 | exact hP1.1 | fail "lk") rfl ?_
          refine z_iload 50 rfl rfl rfl ?_
          refine z_ald 51 rfl rfl (by first | exact hP.1 | exact hP4 | exact hr1 | exact hP1.1 | fail "lk") rfl (by omega) (by omega) ?_
          rw [hw s (by omega)]
          have hwb := hI.2.1 s
          first | refine z_zne 54 rfl rfl (by omega) (fun hc51 => ?_) (fun hc51 => ?_)
          · refine z_iinc 90 _ rfl rfl rfl rfl (by first | with_reducible exact zi_1 _ | rfl) ?_
            refine z_goto rfl ?_
            exact ih (s + 1) w mo h whs (by omega) (by omega) hP hw hF (hI.skip (fun _ h9 => absurd h9 hc51)) hk (by omega)
          · refine z_aload 55 rfl rfl rfl ?_
            refine z_get 58 rfl rfl (by first | exact hP.1 | exact hP4 | exact hr1 | exact hP1.1 | fail "lk") rfl ?_
            refine z_iload 60 rfl rfl rfl ?_
            refine z_aload 61 rfl rfl rfl ?_
            refine z_iload 63 rfl rfl rfl ?_
            refine z_cv1 66 rfl rfl (by first | exact hP.1 | exact hP4 | exact hr1 | exact hP1.1 | fail "lk") rfl (Nat.le_refl _) (Nat.le_refl _) ?_
            refine c_wholeOf hP hw hI.2.1 hW hpt hps4 hpsn (hst.imp id And.left) ?_
            obtain ⟨v, hv⟩ : ∃ v, (whG (slI F pt) w (slL F ps s) 0) = v := ⟨_, rfl⟩
            rw [hv]
            have hvb : v ≤ 17 := by rw [← hv]; exact whG_b _
            refine z_ast 67 rfl rfl (by first | exact hP.1 | exact hP4 | exact hr1 | exact hP1.1 | fail "lk") rfl (by omega) (by omega) ?_
            obtain ⟨h1, hhh1⟩ : ∃ h9 : mH, h9 = mSet h (R + 4) (aI 41 (upd whs s (nI v))) := ⟨_, rfl⟩
            refine z_gen h1 hhh1.symm ?_
            have hr1 : h1.2 (R + 4) = aI 41 (upd whs s (nI v)) := by rw [hhh1]; exact mg_eq _ _ _
            have kh1 : ∀ x, x ≠ (R + 4) → h1.2 x = h.2 x := fun x hx => by rw [hhh1]; exact mg_ne hx rfl
            have zh1 : h1.1 = h.1 := by rw [hhh1]; rfl
            have hP1 := hP.w kh1 hr1
            have hF1 : Fr (R + 4) (R + 5) h0 h1 := ⟨zh1.trans hF.1, fun x hx => (kh1 x (by omega)).trans (hF.2 x hx)⟩
            have hu1 : upd whs s (nI v) s = nI v := if_pos rfl
            have hw1 : ∀ k, k ≤ 40 → upd whs s (nI v) k = nI (updN w s v k) := fun k hk => by
              unfold upd updN
              split
              · rfl
              · exact hw k hk
            refine z_iload 68 rfl rfl rfl ?_
            first | refine z_zne 71 rfl rfl (by omega) (fun hc68 => ?_) (fun hc68 => ?_)
            · refine z_push 82 (nI 1) rfl rfl rfl ?_
              refine z_goto rfl ?_
              refine z_istore 87 rfl rfl rfl rfl ?_
              refine z_iinc 90 _ rfl rfl rfl rfl (by first | with_reducible exact zi_1 _ | rfl) ?_
              refine z_goto rfl ?_
              by_cases h0v : v = 0
              · have hw2 : ∀ k, k ≤ 40 → upd whs s (nI v) k = nI (w k) := by rw [h0v, updN_same hc51] at hw1; rw [h0v]; exact hw1
                exact ih (s + 1) w 1 h1 _ (by omega) (by omega) hP1 hw2 hF1 ((hI.one hc68).skip (fun _ _ => by omega)) hk (by omega)
              · exact ih (s + 1) (updN w s v) 1 h1 _ (by omega) (by omega) hP1 hw1 hF1 (by have h9 := hI.new hl hU (by omega) hc51 (by omega); rw [hv] at h9; exact h9) hk (by omega)
            · refine z_aload 72 rfl rfl rfl ?_
              refine z_get 75 rfl rfl (by first | exact hP.1 | exact hP4 | exact hr1 | exact hP1.1 | fail "lk") rfl ?_
              refine z_iload 77 rfl rfl rfl ?_
              refine z_ald 78 rfl rfl (by first | exact hP.1 | exact hP4 | exact hr1 | exact hP1.1 | fail "lk") rfl (by omega) (by omega) ?_
              rw [hu1]
              first | refine z_zle 81 rfl rfl (by omega) (fun hc78 => ?_) (fun hc78 => ?_)
              · refine z_push 86 (nI 0) rfl rfl rfl ?_
                refine z_istore 87 rfl rfl rfl rfl ?_
                refine z_iinc 90 _ rfl rfl rfl rfl (by first | with_reducible exact zi_1 _ | rfl) ?_
                refine z_goto rfl ?_
                have h0v : v = 0 := by omega
                have hw2 : ∀ k, k ≤ 40 → upd whs s (nI v) k = nI (w k) := by rw [h0v, updN_same hc51] at hw1; rw [h0v]; exact hw1
                exact ih (s + 1) w 0 h1 _ (by omega) (by omega) hP1 hw2 hF1 ((show InW F pt ps w0 s w 0 from by rw [← hc68]; exact hI).skip (fun _ _ => by omega)) hk (by omega)
              · refine z_push 82 (nI 1) rfl rfl rfl ?_
                refine z_goto rfl ?_
                refine z_istore 87 rfl rfl rfl rfl ?_
                refine z_iinc 90 _ rfl rfl rfl rfl (by first | with_reducible exact zi_1 _ | rfl) ?_
                refine z_goto rfl ?_
                exact ih (s + 1) (updN w s v) 1 h1 _ (by omega) (by omega) hP1 hw1 hF1 (by have h9 := hI.new hl hU (by omega) hc51 (by omega); rw [hv] at h9; exact h9) hk (by omega)
        · skip
          refine z_zeq 44 rfl rfl (by omega) (fun _ => ?_) (fun h9 => absurd h9 (by omega))
          refine z_iinc 90 _ rfl rfl rfl rfl (by first | with_reducible exact zi_1 _ | rfl) ?_
          refine z_goto rfl ?_
          exact ih (s + 1) w mo h whs (by omega) (by omega) hP hw hF (hI.skip (fun h9 => absurd h9 hst)) hk (by omega)
  have fin : ∀ (w : Nat → Nat) whs h o2, RuP h R rs ws F pt ps whs → (∀ k, k ≤ 40 → whs k = nI (w k)) → (∀ k, w k ≤ 17) → Fr (R + 4) (R + 5) h0 h → KnW F (fbS9 F pt ps) pt ps w → (∀ t, Std F pt t → w t = 0 → whG (slI F pt) w (slL F ps t) 0 = 0) → ∀ m9 s v, 41 < s + m9 → s ≤ 41 → (∀ t, t < s → Std F pt t → w t ≠ 0) → ((v = 0 ∧ ∀ t, t < s → Std F pt t → w t ≤ 16) ∨ (v = -12 ∧ ∃ t, t ≤ 40 ∧ Std F pt t ∧ 16 < w t)) → mZ (d + 2) tk_86 0 0 Q 104 [some (.ref R), some (.int (oI (fbI F pt))), some (.int o2), some (.int v), some (.int (nI s))] [] h 0 0 := by
    intro w whs h o2 hP hw hwb hF hK hfx m9
    obtain ⟨_, _, _, _, _, _, _, _, hP4, _⟩ := id hP
    induction m9 with
    | zero => intro s v h1 h2; omega
    | succ m9 ih =>
      intro s v h1 h2 ha hv
      have hwbs := hwb s
      refine z_iload 106 rfl rfl rfl ?_
      refine z_push 108 (nI 40) rfl rfl rfl ?_
      refine z_ngt 111 rfl rfl (by omega) (by omega) (fun hc108 => ?_) (fun hc108 => ?_)
      · refine z_iload 166 rfl rfl rfl ?_
        refine z_ireti rfl (Nat.le_refl _) (Nat.le_refl _) ?_
        obtain rfl : s = 41 := by omega
        rw [← st_fin hl hl' hU hK (fun t ht => ha t (by omega)) (hv.imp (fun h9 => ⟨h9.1, fun t ht => h9.2 t (by omega)⟩) id)]
        exact q h whs hP hF
      · refine z_aload 112 rfl rfl rfl ?_
        refine z_iload 114 rfl rfl rfl ?_
        refine z_iload 115 rfl rfl rfl ?_
        refine z_cv2 118 rfl rfl (by first | exact hP.1 | exact hP4 | exact hr1 | exact hP1.1 | fail "lk") rfl (Nat.le_refl _) (Nat.le_refl _) ?_
        refine c_stands hP (by omega) (fun hst => ?_) (fun hst => ?_)
        · skip
          refine z_zeq 121 rfl rfl (by omega) (fun h9 => absurd h9 (by omega)) (fun _ => ?_)
          refine z_aload 122 rfl rfl rfl ?_
          refine z_get 125 rfl rfl (by first | exact hP.1 | exact hP4 | exact hr1 | exact hP1.1 | fail "lk") rfl ?_
          refine z_iload 127 rfl rfl rfl ?_
          refine z_ald 128 rfl rfl (by first | exact hP.1 | exact hP4 | exact hr1 | exact hP1.1 | fail "lk") rfl (by omega) (by omega) ?_
          rw [hw s (by omega)]
          first | refine z_zne 131 rfl rfl (by omega) (fun hc128 => ?_) (fun hc128 => ?_)
          · refine z_aload 135 rfl rfl rfl ?_
            refine z_iload 137 rfl rfl rfl ?_
            refine z_iload 138 rfl rfl rfl ?_
            refine z_cv2 141 rfl rfl (by first | exact hP.1 | exact hP4 | exact hr1 | exact hP1.1 | fail "lk") rfl (Nat.le_refl _) (Nat.le_refl _) ?_
            refine c_stands hP (by omega) (fun hs2 => ?_) (fun hs2 => ?_)
            · skip
              refine z_zeq 144 rfl rfl (by omega) (fun h9 => absurd h9 (by omega)) (fun _ => ?_)
              refine z_aload 145 rfl rfl rfl ?_
              refine z_get 148 rfl rfl (by first | exact hP.1 | exact hP4 | exact hr1 | exact hP1.1 | fail "lk") rfl ?_
              refine z_iload 150 rfl rfl rfl ?_
              refine z_ald 151 rfl rfl (by first | exact hP.1 | exact hP4 | exact hr1 | exact hP1.1 | fail "lk") rfl (by omega) (by omega) ?_
              refine z_push 153 (nI 16) rfl rfl rfl ?_
              rw [hw s (by omega)]
              refine z_nle 156 rfl rfl (by omega) (by omega) (fun hc153 => ?_) (fun hc153 => ?_)
              · refine z_iinc 162 _ rfl rfl rfl rfl (by first | with_reducible exact zi_1 _ | rfl) ?_
                refine z_goto rfl ?_
                exact ih (s + 1) v (by omega) (by omega) (fun t ht h9 => (Nat.lt_succ_iff_lt_or_eq.mp ht).elim (fun h8 => ha t h8 h9) (fun h8 => h8 ▸ hc128)) (hv.imp (fun h9 => ⟨h9.1, fun t ht h8 => (Nat.lt_succ_iff_lt_or_eq.mp ht).elim (fun h7 => h9.2 t h7 h8) (fun h7 => h7 ▸ hc153)⟩) id)
              · refine z_push 158 (-12) rfl rfl rfl ?_
                refine z_istore 159 rfl rfl rfl rfl ?_
                refine z_iinc 162 _ rfl rfl rfl rfl (by first | with_reducible exact zi_1 _ | rfl) ?_
                refine z_goto rfl ?_
                exact ih (s + 1) (-12) (by omega) (by omega) (fun t ht h9 => (Nat.lt_succ_iff_lt_or_eq.mp ht).elim (fun h8 => ha t h8 h9) (fun h8 => h8 ▸ hc128)) (Or.inr ⟨rfl, s, by omega, hst, hc153⟩)
            · skip
              refine z_zeq 144 rfl rfl (by omega) (fun _ => ?_) (fun h9 => absurd h9 (by omega))
              refine z_iinc 162 _ rfl rfl rfl rfl (by first | with_reducible exact zi_1 _ | rfl) ?_
              refine z_goto rfl ?_
              exact absurd hst hs2
          · refine z_push 133 (-11) rfl rfl rfl ?_
            refine z_ireti rfl (Nat.le_refl _) (Nat.le_refl _) ?_
            rw [← st_loop hl hU hfx hn9 hst hc128]
            exact q h whs hP hF
        · skip
          refine z_zeq 121 rfl rfl (by omega) (fun _ => ?_) (fun h9 => absurd h9 (by omega))
          refine z_aload 135 rfl rfl rfl ?_
          refine z_iload 137 rfl rfl rfl ?_
          refine z_iload 138 rfl rfl rfl ?_
          refine z_cv2 141 rfl rfl (by first | exact hP.1 | exact hP4 | exact hr1 | exact hP1.1 | fail "lk") rfl (Nat.le_refl _) (Nat.le_refl _) ?_
          refine c_stands hP (by omega) (fun hs2 => ?_) (fun hs2 => ?_)
          · skip
            refine z_zeq 144 rfl rfl (by omega) (fun h9 => absurd h9 (by omega)) (fun _ => ?_)
            refine z_aload 145 rfl rfl rfl ?_
            refine z_get 148 rfl rfl (by first | exact hP.1 | exact hP4 | exact hr1 | exact hP1.1 | fail "lk") rfl ?_
            refine z_iload 150 rfl rfl rfl ?_
            refine z_ald 151 rfl rfl (by first | exact hP.1 | exact hP4 | exact hr1 | exact hP1.1 | fail "lk") rfl (by omega) (by omega) ?_
            refine z_push 153 (nI 16) rfl rfl rfl ?_
            rw [hw s (by omega)]
            refine z_nle 156 rfl rfl (by omega) (by omega) (fun hc153 => ?_) (fun hc153 => ?_)
            · refine z_iinc 162 _ rfl rfl rfl rfl (by first | with_reducible exact zi_1 _ | rfl) ?_
              refine z_goto rfl ?_
              exact absurd hs2 hst
            · refine z_push 158 (-12) rfl rfl rfl ?_
              refine z_istore 159 rfl rfl rfl rfl ?_
              refine z_iinc 162 _ rfl rfl rfl rfl (by first | with_reducible exact zi_1 _ | rfl) ?_
              refine z_goto rfl ?_
              exact absurd hs2 hst
          · skip
            refine z_zeq 144 rfl rfl (by omega) (fun _ => ?_) (fun h9 => absurd h9 (by omega))
            refine z_iinc 162 _ rfl rfl rfl rfl (by first | with_reducible exact zi_1 _ | rfl) ?_
            refine z_goto rfl ?_
            exact ih (s + 1) v (by omega) (by omega) (fun t ht h9 => (Nat.lt_succ_iff_lt_or_eq.mp ht).elim (fun h8 => ha t h8 h9) (fun h8 => absurd (h8 ▸ h9) hst)) (hv.imp (fun h9 => ⟨h9.1, fun t ht h8 => (Nat.lt_succ_iff_lt_or_eq.mp ht).elim (fun h7 => h9.2 t h7 h8) (fun h7 => absurd (h7 ▸ h8) hst)⟩) id)
  have outr : ∀ m9 r w h whs o4, 42 < r + m9 → cnt9 (unk w) 41 + r ≤ 41 → RuP h R rs ws F pt ps whs → (∀ k, k ≤ 40 → whs k = nI (w k)) → (∀ k, w k ≤ 17) → Fr (R + 4) (R + 5) h0 h → KnW F (fbS9 F pt ps) pt ps w → mZ (d + 2) tk_86 0 0 Q 12 [some (.ref R), some (.int (oI (fbI F pt))), some (.int (nI 1)), some (.int (nI r)), o4] [] h 0 0 := by
    intro m9
    induction m9 with
    | zero => intro r w h whs o4 h1 h2; omega
    | succ m9 ih =>
      intro r w h whs o4 h1 h2 hP hw hwb hF hK
      refine z_iload 13 rfl rfl rfl ?_
      refine z_zeq 16 rfl rfl (by omega) (fun h9 => absurd h9 (by decide)) (fun _ => ?_)
      refine z_iload 17 rfl rfl rfl ?_
      refine z_push 19 (nI 41) rfl rfl rfl ?_
      refine z_ngt 22 rfl rfl (by omega) (by omega) (fun h9 => absurd h9 (by omega)) (fun _ => ?_)
      refine z_push 23 (nI 0) rfl rfl rfl ?_
      refine z_istore 24 rfl rfl rfl rfl ?_
      refine z_push 25 (nI 0) rfl rfl rfl ?_
      refine z_istore 27 rfl rfl rfl rfl ?_
      refine innr w r 42 0 w 0 h whs (by omega) (by omega) hP hw hF ⟨hK, hwb, Nat.le_refl _, fun h9 => absurd rfl h9, fun _ t ht => absurd ht (Nat.not_lt_zero t)⟩ (fun w mo h whs o4 hmo hP hw hF hI => ?_) (by omega)
      have hwb2 := hI.2.1
      have hK2 := hI.1
      refine z_iinc 96 _ rfl rfl rfl rfl (by first | with_reducible exact zi_1 _ | rfl) ?_
      refine z_goto rfl ?_
      by_cases hm : mo = 0
      · subst hm
        refine z_iload 13 rfl rfl rfl ?_
        refine z_zeq 16 rfl rfl (by omega) (fun _ => ?_) (fun h9 => absurd h9 (by decide))
        refine z_push 100 (nI 0) rfl rfl rfl ?_
        refine z_istore 101 rfl rfl rfl rfl ?_
        refine z_push 102 (nI 0) rfl rfl rfl ?_
        refine z_istore 104 rfl rfl rfl rfl ?_
        exact fin w whs h _ hP hw hwb2 hF hK2 (fun t ht h9 => hI.2.2.2.2 rfl t (by rcases ht with e | e <;> omega) ht h9) 42 0 0 (by omega) (by omega) (fun t ht => absurd ht (Nat.not_lt_zero t)) (Or.inl ⟨rfl, fun t ht => absurd ht (Nat.not_lt_zero t)⟩)
      · have hm1 : mo = 1 := by omega
        subst hm1
        exact ih (r + 1) w h whs _ (by omega) (by have := hI.2.2.2.1 hm; omega) hP hw hwb2 hF hK2
  refine z_in [some (.ref R), some (.int (oI (fbI F pt))), none, none, none] (by rfl) rfl rfl rfl ?_
  obtain ⟨_, _, _, _, _, _, _, _, hP4, _⟩ := id hP
  refine z_aload 1 rfl rfl rfl ?_
  refine z_get 4 rfl rfl (by first | exact hP.1 | exact hP4 | exact hr1 | exact hP1.1 | fail "lk") rfl ?_
  refine z_push 5 (nI 0) rfl rfl rfl ?_
  refine z_cs2 8 rfl rfl rfl (Nat.le_refl _) (Nat.le_refl _) ?_
  refine c_fill hP4 (by decide) ?_
  obtain ⟨h1, hhh1⟩ : ∃ h9 : mH, h9 = mSet h0 (R + 4) (aI 41 (fil9 whs (nI 0) 41)) := ⟨_, rfl⟩
  refine z_gen h1 hhh1.symm ?_
  have hr1 : h1.2 (R + 4) = aI 41 (fil9 whs (nI 0) 41) := by rw [hhh1]; exact mg_eq _ _ _
  have kh1 : ∀ x, x ≠ (R + 4) → h1.2 x = h0.2 x := fun x hx => by rw [hhh1]; exact mg_ne hx rfl
  have zh1 : h1.1 = h0.1 := by rw [hhh1]; rfl
  have hP1 := hP.w kh1 hr1
  have hF1 : Fr (R + 4) (R + 5) h0 h1 := ⟨zh1, fun x hx => kh1 x (by omega)⟩
  refine z_push 9 (nI 1) rfl rfl rfl ?_
  refine z_istore 10 rfl rfl rfl rfl ?_
  refine z_push 11 (nI 0) rfl rfl rfl ?_
  refine z_istore 12 rfl rfl rfl rfl ?_
  exact outr 43 0 (fun _ => 0) h1 _ _ (by omega) (cnt9_le _ _) hP1 (fun k hk => if_pos (by omega)) (fun _ => by decide) hF1 (fun s _ h9 => absurd rfl h9)
