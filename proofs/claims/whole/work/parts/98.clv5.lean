/-! the class: Rules, replacing -/
def RuR (h : mH) (R rs ws c : Nat) (pts lns prt whs : Nat → Int32) : Prop := h.2 R = oRu R rs ws c ∧ h.2 (R + 1) = aI 41 pts ∧ h.2 (R + 2) = aI 41 lns ∧ h.2 (R + 3) = aI 164 prt ∧ h.2 (R + 4) = aI 41 whs
def RuF (F : List Fb) (pts lns prt : Nat → Int32) : Prop := ∀ k, k < F.length → pts k = nI (fbP F k) ∧ lns k = nI (fbL F k).length ∧ ∀ j, j < (fbL F k).length → prt (4 * k + j) = nI ((fbL F k).getD j 0)
theorem RuF.cp {F F' : List Fb} {pts lns prt : Nat → Int32} {a b : Nat} (hb : ∀ k, k < F'.length → (fbL F' k).length ≤ 4) (h1 : ∀ k, k < F'.length → k ≠ b → pts k = nI (fbP F' k) ∧ lns k = nI (fbL F' k).length ∧ ∀ j, j < (fbL F' k).length → prt (4 * k + j) = nI ((fbL F' k).getD j 0)) (h2 : b < F'.length → pts a = nI (fbP F' b) ∧ lns a = nI (fbL F' b).length ∧ ∀ j, j < (fbL F' b).length → prt (4 * a + j) = nI ((fbL F' b).getD j 0)) : RuF F' (upd pts b (pts a)) (upd lns b (lns a)) (va_cpy prt prt (a * 4) (b * 4) 4) := by
  intro k hk
  have h4 := hb k hk
  by_cases e : k = b
  · subst e
    obtain ⟨h5, h6, h7⟩ := h2 hk
    refine ⟨(if_pos rfl).trans h5, (if_pos rfl).trans h6, fun j hj => ?_⟩
    rw [pk_cpy_in (by omega) (by omega), show a * 4 + (4 * k + j - k * 4) = 4 * a + j by omega]
    exact h7 j hj
  · obtain ⟨h5, h6, h7⟩ := h1 k hk e
    refine ⟨(if_neg e).trans h5, (if_neg e).trans h6, fun j hj => ?_⟩
    rw [pk_cpy_out (by omega)]
    exact h7 j hj
set_option maxRecDepth 10000 in
theorem c_Ru_copy {d : Nat} {h : mH} {R rs ws c a b : Nat} {pts lns prt whs : Nat → Int32} {Q : mP} (hP : RuR h R rs ws c pts lns prt whs) (ha : a ≤ 40) (hb : b ≤ 40)  (q : ∀ h', RuR h' R rs ws c (upd pts b (pts a)) (upd lns b (lns a)) (va_cpy prt prt (a * 4) (b * 4) 4) whs → Fr R (R + 5) h h' → Q none h') : mWP (d + 1) 85 [.ref R, .int (nI a), .int (nI b)] h Q := by
  obtain ⟨p0, p1, p2, p3, p4⟩ := hP
  refine z_in [some (.ref R), some (.int (nI a)), some (.int (nI b))] (by rfl) rfl rfl rfl ?_
  refine z_aload 1 rfl rfl rfl ?_
  refine z_get 4 rfl rfl (by first | exact p0 | exact p1 | exact p2 | exact p3 | exact (kh1 _ (by omega)).trans p0 | exact (kh1 _ (by omega)).trans p2 | exact (kh2 _ (by omega)).trans ((kh1 _ (by omega)).trans p0) | exact (kh2 _ (by omega)).trans ((kh1 _ (by omega)).trans p3) | fail "lk") rfl ?_
  refine z_iload 5 rfl rfl rfl ?_
  refine z_aload 6 rfl rfl rfl ?_
  refine z_get 9 rfl rfl (by first | exact p0 | exact p1 | exact p2 | exact p3 | exact (kh1 _ (by omega)).trans p0 | exact (kh1 _ (by omega)).trans p2 | exact (kh2 _ (by omega)).trans ((kh1 _ (by omega)).trans p0) | exact (kh2 _ (by omega)).trans ((kh1 _ (by omega)).trans p3) | fail "lk") rfl ?_
  refine z_iload 10 rfl rfl rfl ?_
  refine z_ald 11 rfl rfl (by first | exact p0 | exact p1 | exact p2 | exact p3 | exact (kh1 _ (by omega)).trans p0 | exact (kh1 _ (by omega)).trans p2 | exact (kh2 _ (by omega)).trans ((kh1 _ (by omega)).trans p0) | exact (kh2 _ (by omega)).trans ((kh1 _ (by omega)).trans p3) | fail "lk") rfl (by omega) (by omega) ?_
  refine z_ast 12 rfl rfl (by first | exact p0 | exact p1 | exact p2 | exact p3 | exact (kh1 _ (by omega)).trans p0 | exact (kh1 _ (by omega)).trans p2 | exact (kh2 _ (by omega)).trans ((kh1 _ (by omega)).trans p0) | exact (kh2 _ (by omega)).trans ((kh1 _ (by omega)).trans p3) | fail "lk") rfl (by omega) (by omega) ?_
  obtain ⟨h1, hhh1⟩ : ∃ h9 : mH, h9 = mSet h (R + 1) (aI 41 (upd pts b (pts a))) := ⟨_, rfl⟩
  refine z_gen h1 hhh1.symm ?_
  have hc1 : h1.2 (R + 1) = aI 41 (upd pts b (pts a)) := by rw [hhh1]; exact mg_eq _ _ _
  have kh1 : ∀ x, x ≠ (R + 1) → h1.2 x = h.2 x := fun x hx => by rw [hhh1]; exact mg_ne hx rfl
  have zh1 : h1.1 = h.1 := by rw [hhh1]; rfl
  refine z_aload 13 rfl rfl rfl ?_
  refine z_get 16 rfl rfl (by first | exact p0 | exact p1 | exact p2 | exact p3 | exact (kh1 _ (by omega)).trans p0 | exact (kh1 _ (by omega)).trans p2 | exact (kh2 _ (by omega)).trans ((kh1 _ (by omega)).trans p0) | exact (kh2 _ (by omega)).trans ((kh1 _ (by omega)).trans p3) | fail "lk") rfl ?_
  refine z_iload 17 rfl rfl rfl ?_
  refine z_aload 18 rfl rfl rfl ?_
  refine z_get 21 rfl rfl (by first | exact p0 | exact p1 | exact p2 | exact p3 | exact (kh1 _ (by omega)).trans p0 | exact (kh1 _ (by omega)).trans p2 | exact (kh2 _ (by omega)).trans ((kh1 _ (by omega)).trans p0) | exact (kh2 _ (by omega)).trans ((kh1 _ (by omega)).trans p3) | fail "lk") rfl ?_
  refine z_iload 22 rfl rfl rfl ?_
  refine z_ald 23 rfl rfl (by first | exact p0 | exact p1 | exact p2 | exact p3 | exact (kh1 _ (by omega)).trans p0 | exact (kh1 _ (by omega)).trans p2 | exact (kh2 _ (by omega)).trans ((kh1 _ (by omega)).trans p0) | exact (kh2 _ (by omega)).trans ((kh1 _ (by omega)).trans p3) | fail "lk") rfl (by omega) (by omega) ?_
  refine z_ast 24 rfl rfl (by first | exact p0 | exact p1 | exact p2 | exact p3 | exact (kh1 _ (by omega)).trans p0 | exact (kh1 _ (by omega)).trans p2 | exact (kh2 _ (by omega)).trans ((kh1 _ (by omega)).trans p0) | exact (kh2 _ (by omega)).trans ((kh1 _ (by omega)).trans p3) | fail "lk") rfl (by omega) (by omega) ?_
  obtain ⟨h2, hhh2⟩ : ∃ h9 : mH, h9 = mSet h1 (R + 2) (aI 41 (upd lns b (lns a))) := ⟨_, rfl⟩
  refine z_gen h2 hhh2.symm ?_
  have hc2 : h2.2 (R + 2) = aI 41 (upd lns b (lns a)) := by rw [hhh2]; exact mg_eq _ _ _
  have kh2 : ∀ x, x ≠ (R + 2) → h2.2 x = h1.2 x := fun x hx => by rw [hhh2]; exact mg_ne hx rfl
  have zh2 : h2.1 = h1.1 := by rw [hhh2]; rfl
  refine z_aload 25 rfl rfl rfl ?_
  refine z_get 28 rfl rfl (by first | exact p0 | exact p1 | exact p2 | exact p3 | exact (kh1 _ (by omega)).trans p0 | exact (kh1 _ (by omega)).trans p2 | exact (kh2 _ (by omega)).trans ((kh1 _ (by omega)).trans p0) | exact (kh2 _ (by omega)).trans ((kh1 _ (by omega)).trans p3) | fail "lk") rfl ?_
  refine z_iload 29 rfl rfl rfl ?_
  refine z_push 30 (nI 4) rfl rfl rfl ?_
  refine z_bop 31 _ rfl rfl (zb_2 _ _) ?_
  refine z_aload 32 rfl rfl rfl ?_
  refine z_get 35 rfl rfl (by first | exact p0 | exact p1 | exact p2 | exact p3 | exact (kh1 _ (by omega)).trans p0 | exact (kh1 _ (by omega)).trans p2 | exact (kh2 _ (by omega)).trans ((kh1 _ (by omega)).trans p0) | exact (kh2 _ (by omega)).trans ((kh1 _ (by omega)).trans p3) | fail "lk") rfl ?_
  refine z_iload 36 rfl rfl rfl ?_
  refine z_push 37 (nI 4) rfl rfl rfl ?_
  refine z_bop 38 _ rfl rfl (zb_2 _ _) ?_
  refine z_push 39 (nI 4) rfl rfl rfl ?_
  refine z_copy 42 rfl rfl rfl (by first | exact p0 | exact p1 | exact p2 | exact p3 | exact (kh1 _ (by omega)).trans p0 | exact (kh1 _ (by omega)).trans p2 | exact (kh2 _ (by omega)).trans ((kh1 _ (by omega)).trans p0) | exact (kh2 _ (by omega)).trans ((kh1 _ (by omega)).trans p3) | fail "lk") (by first | exact p0 | exact p1 | exact p2 | exact p3 | exact (kh1 _ (by omega)).trans p0 | exact (kh1 _ (by omega)).trans p2 | exact (kh2 _ (by omega)).trans ((kh1 _ (by omega)).trans p0) | exact (kh2 _ (by omega)).trans ((kh1 _ (by omega)).trans p3) | fail "lk") rfl rfl rfl (by omega) (by omega) (by omega) (by omega) ?_
  obtain ⟨h3, hhh3⟩ : ∃ h9 : mH, h9 = mSet h2 (R + 3) (aI 164 (va_cpy prt prt (a * 4) (b * 4) 4)) := ⟨_, rfl⟩
  refine z_gen h3 hhh3.symm ?_
  have hc3 : h3.2 (R + 3) = aI 164 (va_cpy prt prt (a * 4) (b * 4) 4) := by rw [hhh3]; exact mg_eq _ _ _
  have kh3 : ∀ x, x ≠ (R + 3) → h3.2 x = h2.2 x := fun x hx => by rw [hhh3]; exact mg_ne hx rfl
  have zh3 : h3.1 = h2.1 := by rw [hhh3]; rfl
  refine z_vret rfl (Nat.le_refl _) (Nat.le_refl _) ?_
  exact q h3 ⟨(kh3 _ (by omega)).trans ((kh2 _ (by omega)).trans ((kh1 _ (by omega)).trans p0)), (kh3 _ (by omega)).trans ((kh2 _ (by omega)).trans hc1), (kh3 _ (by omega)).trans hc2, hc3, (kh3 _ (by omega)).trans ((kh2 _ (by omega)).trans ((kh1 _ (by omega)).trans p4))⟩ ⟨zh3.trans (zh2.trans zh1), fun x hx => (kh3 x (by omega)).trans ((kh2 x (by omega)).trans (kh1 x (by omega)))⟩
set_option maxRecDepth 10000 in
theorem c_Ru_remove {d : Nat} {h : mH} {R rs ws pt : Nat} {F : List Fb} {Q : mP} (hA : RuAt h R rs ws F) (hW : FbW F)  (q : ∀ h', RuAt h' R rs ws (match fbI F pt with | none => F | some f => fbR9 F f) → Fr R (R + 5) h h' → Q none h') : mWP (d + 2) 83 [.ref R, .int (oI (fbI F pt))] h Q := by
  obtain ⟨p0, hl, pts, lns, prt, whs, p1, p2, p3, p4, p5⟩ := id hA
  refine z_in [some (.ref R), some (.int (oI (fbI F pt)))] (by rfl) rfl rfl rfl ?_
  rcases hff : fbI F pt with _ | f9
  · simp only [oI]
    simp only [hff] at q
    refine z_iload 1 rfl rfl rfl ?_
    refine z_jlt 4 rfl rfl (fun _ => ?_) (fun h9 => absurd h9 (by decide))
    refine z_vret rfl (Nat.le_refl _) (Nat.le_refl _) ?_
    exact q h hA (⟨rfl, fun _ _ => rfl⟩)
  · simp only [oI]
    simp only [hff] at q
    have hf9 := ffd_lt hff
    refine z_iload 1 rfl rfl rfl ?_
    refine z_zlt 4 rfl rfl (by omega) (fun h9 => absurd h9 (by omega)) (fun _ => ?_)
    refine z_aload 5 rfl rfl rfl ?_
    first | refine z_dup 6 rfl rfl ?_ | refine z_dupi 6 rfl rfl ?_
    refine z_get 9 rfl rfl (by first | exact p0 | exact hc1 | fail "lk") rfl ?_
    refine z_push 10 (nI 1) rfl rfl rfl ?_
    refine z_bop 11 _ rfl rfl (by first | with_reducible exact zb_1 (by omega) | exact zd_1 _ _) ?_
    refine z_put 14 rfl rfl (by first | exact p0 | exact hc1 | fail "lk") rfl (mFi rfl) ?_
    obtain ⟨h1, hhh1⟩ : ∃ h9 : mH, h9 = mSet h R (oRu R rs ws (F.length - 1)) := ⟨_, rfl⟩
    refine z_gen h1 hhh1.symm ?_
    have hc1 : h1.2 R = oRu R rs ws (F.length - 1) := by rw [hhh1]; exact mg_eq _ _ _
    have kh1 : ∀ x, x ≠ R → h1.2 x = h.2 x := fun x hx => by rw [hhh1]; exact mg_ne hx rfl
    have zh1 : h1.1 = h.1 := by rw [hhh1]; rfl
    refine z_aload 15 rfl rfl rfl ?_
    refine z_aload 16 rfl rfl rfl ?_
    refine z_get 19 rfl rfl (by first | exact p0 | exact hc1 | fail "lk") rfl ?_
    refine z_iload 20 rfl rfl rfl ?_
    refine z_cv2 23 rfl rfl (by first | exact p0 | exact hc1 | fail "lk") rfl (Nat.le_refl _) (Nat.le_refl _) ?_
    refine c_Ru_copy (pts := pts) (lns := lns) (prt := prt) (whs := whs) ⟨hc1, (kh1 _ (by omega)).trans p1, (kh1 _ (by omega)).trans p2, (kh1 _ (by omega)).trans p3, (kh1 _ (by omega)).trans p4⟩ (by omega) (by omega) (fun h2 hR2 hF2 => ?_)
    refine z_vret rfl (Nat.le_refl _) (Nat.le_refl _) ?_
    refine q h2 ⟨by rw [fb_rlen]; exact hR2.1, by rw [fb_rlen]; omega, _, _, _, _, hR2.2.1, hR2.2.2.1, hR2.2.2.2.1, hR2.2.2.2.2, ?_⟩ ⟨hF2.1.trans zh1, fun x hx => (hF2.2 x hx).trans (kh1 x (by omega))⟩
    refine RuF.cp (F := F) (fun k hk => ?_) (fun k hk hne => ?_) (fun hk => ?_)
    · rw [fb_rlen] at hk
      unfold fbL
      rw [fb_rem (by omega) hk]
      split
      · exact (hW (F.length - 1) (by omega)).2.2.1
      · exact (hW k (by omega)).2.2.1
    · rw [fb_rlen] at hk
      unfold fbL fbP
      rw [fb_rem (by omega) hk, if_neg hne]
      exact p5 k (by omega)
    · rw [fb_rlen] at hk
      unfold fbL fbP
      rw [fb_rem (by omega) hk, if_pos rfl]
      exact p5 (F.length - 1) (by omega)
set_option maxRecDepth 100000 in
theorem c_Ru_stage {d : Nat} {h0 : mH} {R rs ws pt o n : Nat} {F : List Fb} {ps : List Nat} {Q : mP} (hA : RuAt h0 R rs ws F) (hW : FbW F) (hw : RwAt h0 o n ps) (hn : n < 2 ^ 31) (hp4 : ps.length ≤ 4) (hRo : o + 2 ≤ R ∨ R + 5 ≤ o)  (q : ∀ h' whs, RuP h' R rs ws F pt ps whs → Fr R (R + 5) h0 h' → Q none h') : mWP (d + 1) 84 [.ref R, .int (nI pt), .ref o] h0 Q := by
  obtain ⟨p0, hl, pts, lns, prt, whs, p1, p2, p3, p4, p5⟩ := id hA
  have loop : ∀ m9 i prt' h, ps.length < i + m9 → i ≤ ps.length → RuR h R rs ws F.length (upd pts 40 (nI pt)) (upd lns 40 (nI ps.length)) prt' whs → (∀ j, j < i → prt' (160 + j) = nI (ps.getD j 0)) → (∀ j, j < 160 → prt' j = prt j) → Fr R (R + 5) h0 h → mZ d tk_84 0 0 Q 25 [some (.ref R), some (.int (nI pt)), some (.ref o), some (.int (nI i))] [] h 0 0 := by
    intro m9
    induction m9 with
    | zero => intro i prt' h h1 h2; omega
    | succ m9 ih =>
      intro i prt' h h1 h2 hR hj1 hj2 hF
      obtain ⟨w1, w2, f, w3, w4⟩ := hw.e (h' := h) (fun x x1 x2 => hF.2 x (by omega))
      have hu : upd lns 40 (nI ps.length) 40 = nI ps.length := if_pos rfl
      refine z_iload 26 rfl rfl rfl ?_
      refine z_aload 27 rfl rfl rfl ?_
      refine z_get 30 rfl rfl (by first | exact hR.1 | exact hR.2.1 | exact hR.2.2.1 | exact hR.2.2.2.1 | exact w1 | exact w3 | fail "lk") rfl ?_
      refine z_push 32 (nI 40) rfl rfl rfl ?_
      refine z_ald 33 rfl rfl (by first | exact hR.1 | exact hR.2.1 | exact hR.2.2.1 | exact hR.2.2.2.1 | exact w1 | exact w3 | fail "lk") rfl (by omega) (by omega) ?_
      rw [hu]
      refine z_nge 36 rfl rfl (by omega) (by omega) (fun hc33 => ?_) (fun hc33 => ?_)
      · refine z_vret rfl (Nat.le_refl _) (Nat.le_refl _) ?_
        obtain rfl : i = ps.length := by omega
        refine q h whs ⟨hR.1, hl, _, _, _, hR.2.1, hR.2.2.1, hR.2.2.2.1, hR.2.2.2.2, fun k hk => ?_, if_pos rfl, if_pos rfl, hj1⟩ hF
        have hW4 := (hW k hk).2.2.1
        obtain ⟨c1, c2, c3⟩ := p5 k hk
        refine ⟨(if_neg (by omega)).trans c1, (if_neg (by omega)).trans c2, fun j hj => ?_⟩
        rw [hj2 _ (by omega)]
        exact c3 j hj
      · refine z_aload 37 rfl rfl rfl ?_
        refine z_get 40 rfl rfl (by first | exact hR.1 | exact hR.2.1 | exact hR.2.2.1 | exact hR.2.2.2.1 | exact w1 | exact w3 | fail "lk") rfl ?_
        refine z_push 43 (nI 160) rfl rfl rfl ?_
        refine z_iload 44 rfl rfl rfl ?_
        refine z_bop 45 _ rfl rfl (by first | with_reducible exact zb_0 _ _ | exact zd_0 _ _) ?_
        refine z_aload 46 rfl rfl rfl ?_
        refine z_get 49 rfl rfl (by first | exact hR.1 | exact hR.2.1 | exact hR.2.2.1 | exact hR.2.2.2.1 | exact w1 | exact w3 | fail "lk") rfl ?_
        refine z_iload 50 rfl rfl rfl ?_
        refine z_ald 51 rfl rfl (by first | exact hR.1 | exact hR.2.1 | exact hR.2.2.1 | exact hR.2.2.2.1 | exact w1 | exact w3 | fail "lk") rfl (by omega) (by omega) ?_
        rw [w4 i (by omega)]
        refine z_ast 52 rfl rfl (by first | exact hR.1 | exact hR.2.1 | exact hR.2.2.1 | exact hR.2.2.2.1 | exact w1 | exact w3 | fail "lk") rfl (by omega) (by omega) ?_
        obtain ⟨h2, hhh2⟩ : ∃ h9 : mH, h9 = mSet h (R + 3) (aI 164 (upd prt' (160 + i) (nI (ps.getD i 0)))) := ⟨_, rfl⟩
        refine z_gen h2 hhh2.symm ?_
        have hc2 : h2.2 (R + 3) = aI 164 (upd prt' (160 + i) (nI (ps.getD i 0))) := by rw [hhh2]; exact mg_eq _ _ _
        have kh2 : ∀ x, x ≠ (R + 3) → h2.2 x = h.2 x := fun x hx => by rw [hhh2]; exact mg_ne hx rfl
        have zh2 : h2.1 = h.1 := by rw [hhh2]; rfl
        refine z_iinc 55 _ rfl rfl rfl rfl (by first | with_reducible exact zi_1 _ | rfl) ?_
        refine z_goto rfl ?_
        refine ih (i + 1) _ h2 (by omega) (by omega) ⟨(kh2 _ (by omega)).trans hR.1, (kh2 _ (by omega)).trans hR.2.1, (kh2 _ (by omega)).trans hR.2.2.1, hc2, (kh2 _ (by omega)).trans hR.2.2.2.2⟩ (fun j hj => ?_) (fun j hj => ?_) ⟨zh2.trans hF.1, fun x hx => (kh2 x (by omega)).trans (hF.2 x hx)⟩
        · unfold upd
          by_cases e : j = i
          · subst e; rw [if_pos rfl]
          · rw [if_neg (by omega)]; exact hj1 j (by omega)
        · unfold upd
          rw [if_neg (by omega)]; exact hj2 j hj
  refine z_in [some (.ref R), some (.int (nI pt)), some (.ref o), none] (by rfl) rfl rfl rfl ?_
  refine z_aload 1 rfl rfl rfl ?_
  refine z_get 4 rfl rfl (by first | exact p0 | exact p1 | exact p2 | exact hw.1 | exact (kh1 _ (by omega)).trans p0 | exact (kh1 _ (by omega)).trans p2 | exact (kh1 _ (by omega)).trans hw.1 | fail "lk") rfl ?_
  refine z_push 6 (nI 40) rfl rfl rfl ?_
  refine z_iload 7 rfl rfl rfl ?_
  refine z_ast 8 rfl rfl (by first | exact p0 | exact p1 | exact p2 | exact hw.1 | exact (kh1 _ (by omega)).trans p0 | exact (kh1 _ (by omega)).trans p2 | exact (kh1 _ (by omega)).trans hw.1 | fail "lk") rfl (by omega) (by omega) ?_
  obtain ⟨h1, hhh1⟩ : ∃ h9 : mH, h9 = mSet h0 (R + 1) (aI 41 (upd pts 40 (nI pt))) := ⟨_, rfl⟩
  refine z_gen h1 hhh1.symm ?_
  have hc1 : h1.2 (R + 1) = aI 41 (upd pts 40 (nI pt)) := by rw [hhh1]; exact mg_eq _ _ _
  have kh1 : ∀ x, x ≠ (R + 1) → h1.2 x = h0.2 x := fun x hx => by rw [hhh1]; exact mg_ne hx rfl
  have zh1 : h1.1 = h0.1 := by rw [hhh1]; rfl
  refine z_aload 9 rfl rfl rfl ?_
  refine z_get 12 rfl rfl (by first | exact p0 | exact p1 | exact p2 | exact hw.1 | exact (kh1 _ (by omega)).trans p0 | exact (kh1 _ (by omega)).trans p2 | exact (kh1 _ (by omega)).trans hw.1 | fail "lk") rfl ?_
  refine z_push 14 (nI 40) rfl rfl rfl ?_
  refine z_aload 15 rfl rfl rfl ?_
  refine z_get 18 rfl rfl (by first | exact p0 | exact p1 | exact p2 | exact hw.1 | exact (kh1 _ (by omega)).trans p0 | exact (kh1 _ (by omega)).trans p2 | exact (kh1 _ (by omega)).trans hw.1 | fail "lk") rfl ?_
  refine z_push 19 (nI 4) rfl rfl rfl ?_
  refine z_min 22 _ rfl rfl rfl (Nat.le_refl _) (Nat.le_refl _) ((zminN (by omega) (by omega)).trans (by rw [Nat.min_eq_left hp4])) ?_
  refine z_ast 23 rfl rfl (by first | exact p0 | exact p1 | exact p2 | exact hw.1 | exact (kh1 _ (by omega)).trans p0 | exact (kh1 _ (by omega)).trans p2 | exact (kh1 _ (by omega)).trans hw.1 | fail "lk") rfl (by omega) (by omega) ?_
  obtain ⟨h2, hhh2⟩ : ∃ h9 : mH, h9 = mSet h1 (R + 2) (aI 41 (upd lns 40 (nI ps.length))) := ⟨_, rfl⟩
  refine z_gen h2 hhh2.symm ?_
  have hc2 : h2.2 (R + 2) = aI 41 (upd lns 40 (nI ps.length)) := by rw [hhh2]; exact mg_eq _ _ _
  have kh2 : ∀ x, x ≠ (R + 2) → h2.2 x = h1.2 x := fun x hx => by rw [hhh2]; exact mg_ne hx rfl
  have zh2 : h2.1 = h1.1 := by rw [hhh2]; rfl
  refine z_push 24 (nI 0) rfl rfl rfl ?_
  refine z_istore 25 rfl rfl rfl rfl ?_
  exact loop (ps.length + 1) 0 prt h2 (by omega) (by omega) ⟨(kh2 _ (by omega)).trans ((kh1 _ (by omega)).trans p0), (kh2 _ (by omega)).trans hc1, hc2, (kh2 _ (by omega)).trans ((kh1 _ (by omega)).trans p3), (kh2 _ (by omega)).trans ((kh1 _ (by omega)).trans p4)⟩ (fun j hj => absurd hj (Nat.not_lt_zero j)) (fun j _ => rfl) ⟨zh2.trans zh1, fun x hx => (kh2 x (by omega)).trans (kh1 x (by omega))⟩
theorem fbS9_ok {F : List Fb} {pt : Nat} {ps : List Nat} (hl : F.length ≤ 40) (hU : FbU F) (hW : FbW F) (hpt : nPt pt = true) (h1 : 1 ≤ ps.length) (h4 : ps.length ≤ 4) (hps : ∀ x, x ∈ ps → nPt x = true) (hf : ¬ (fbI F pt = none ∧ F.length = 40)) : FbU (fbS9 F pt ps) ∧ (fbS9 F pt ps).length ≤ 40 ∧ FbW (fbS9 F pt ps) := by
  unfold fbS9
  rcases hff : fbI F pt with _ | f
  · have h9 : F.length ≠ 40 := fun h8 => hf ⟨hff, h8⟩
    simp only
    refine ⟨hU.app hff, ?_, hW.app hpt h1 h4 hps⟩
    rw [List.length_append]
    show F.length + 1 ≤ 40
    omega
  · have h9 := ffd_lt hff
    simp only
    refine ⟨hU.set hff, ?_, hW.set (by omega) hpt h1 h4 hps⟩
    rw [List.length_set]
    exact hl
set_option maxRecDepth 100000 in
theorem c_Ru_replace {d : Nat} {h : mH} {R rs ws pt o n : Nat} {F : List Fb} {ps : List Nat} {Q : mP} (hA : RuAt h R rs ws F) (hU : FbU F) (hW : FbW F) (hpt : nPt pt = true) (hw : RwAt h o n ps) (hn : n < 2 ^ 31) (hp4 : ps.length ≤ 4) (hpsn : ∀ x, x ∈ ps → nPt x = true) (hRo : o + 2 ≤ R ∨ R + 5 ≤ o)  (q0 : ps.length = 0 → ∀ h', RuAt h' R rs ws (match fbI F pt with | none => F | some f => fbR9 F f) → Fr R (R + 5) h h' → Q (some (.int (nI 0))) h') (q6 : 1 ≤ ps.length → fbI F pt = none → F.length = 40 → Q (some (.int (-6))) h) (qf : 1 ≤ ps.length → ¬ (fbI F pt = none ∧ F.length = 40) → stV (fbS9 F pt ps) ≠ 0 → ∀ h', RuAt h' R rs ws F → Fr R (R + 5) h h' → Q (some (.int (stV (fbS9 F pt ps)))) h') (q1 : 1 ≤ ps.length → ¬ (fbI F pt = none ∧ F.length = 40) → stV (fbS9 F pt ps) = 0 → ∀ h', RuAt h' R rs ws (fbS9 F pt ps) → Fr R (R + 5) h h' → Q (some (.int (nI 0))) h') : mWP (d + 4) 82 [.ref R, .int (nI pt), .ref o] h Q := by
  have hptb := nPt_lt hpt
  have hl := hA.2.1
  refine z_in [some (.ref R), some (.int (nI pt)), some (.ref o), none, none] (by rfl) rfl rfl rfl ?_
  refine z_aload 1 rfl rfl rfl ?_
  refine z_iload 2 rfl rfl rfl ?_
  refine z_cv1 5 rfl rfl (by first | exact hA.1 | exact hw.1 | exact a1 | exact hc3 | exact hP1.1 | fail "lk") rfl (Nat.le_refl _) (Nat.le_refl _) ?_
  refine c_Ru_slotOf hA hW (by omega) ?_
  refine z_istore 6 rfl rfl rfl rfl ?_
  refine z_aload 7 rfl rfl rfl ?_
  refine z_get 10 rfl rfl (by first | exact hA.1 | exact hw.1 | exact a1 | exact hc3 | exact hP1.1 | fail "lk") rfl ?_
  first | refine z_zne 13 rfl rfl (by omega) (fun hc10 => ?_) (fun hc10 => ?_)
  · rcases hff : fbI F pt with _ | f9
    · simp only [oI]
      have hps1 : 1 ≤ ps.length := by omega
      refine z_iload 21 rfl rfl rfl ?_
      refine z_jge 24 rfl rfl (fun h9 => absurd h9 (by decide)) (fun _ => ?_)
      refine z_aload 25 rfl rfl rfl ?_
      refine z_get 28 rfl rfl (by first | exact hA.1 | exact hw.1 | exact a1 | exact hc3 | exact hP1.1 | fail "lk") rfl ?_
      refine z_push 30 (nI 40) rfl rfl rfl ?_
      refine z_nlt 33 rfl rfl (by omega) (by omega) (fun hc30 => ?_) (fun hc30 => ?_)
      · have hful : ¬ (fbI F pt = none ∧ F.length = 40) := fun h9 => by have h8 := h9.2; omega
        have hok := fbS9_ok hl hU hW hpt hps1 hp4 hpsn hful
        refine z_aload 37 rfl rfl rfl ?_
        refine z_iload 38 rfl rfl rfl ?_
        refine z_aload 39 rfl rfl rfl ?_
        refine z_cv2 42 rfl rfl (by first | exact hA.1 | exact hw.1 | exact a1 | exact hc3 | exact hP1.1 | fail "lk") rfl (Nat.le_refl _) (Nat.le_refl _) ?_
        refine c_Ru_stage hA hW hw hn hp4 hRo (fun h1 whs hP1 hF1 => ?_)
        refine z_aload 43 rfl rfl rfl ?_
        refine z_iload 44 rfl rfl rfl ?_
        have hoI : (oI (fbI F pt)) = -1 := by rw [hff]; rfl
        rw [← hoI]
        refine z_cv1 47 rfl rfl (by first | exact hA.1 | exact hw.1 | exact a1 | exact hc3 | exact hP1.1 | fail "lk") rfl (Nat.le_refl _) (Nat.le_refl _) ?_
        refine c_stagedFinding (pt := pt) (ps := ps) hP1 hW hpt hps1 hp4 hpsn hl hok.2.1 hok.1 (fun h2 whs2 hP2 hF2 => ?_)
        refine z_istore 49 rfl rfl rfl rfl ?_
        refine z_iload 51 rfl rfl rfl ?_
        first | refine z_ieq 54 rfl rfl (fun hc51 => ?_) (fun hc51 => ?_)
        · obtain ⟨a1, _, pts, lns, prt, b1, b2, b3, b4, b5, b6, b7, b8⟩ := id hP2
          have hst9 : stV (fbS9 F pt ps) = 0 := hc51
          rw [hoI]
          refine z_iload 58 rfl rfl rfl ?_
          refine z_jge 61 rfl rfl (fun h9 => absurd h9 (by decide)) (fun _ => ?_)
          refine z_aload 62 rfl rfl rfl ?_
          refine z_get 65 rfl rfl (by first | exact hA.1 | exact hw.1 | exact a1 | exact hc3 | exact hP1.1 | fail "lk") rfl ?_
          refine z_istore 66 rfl rfl rfl rfl ?_
          refine z_aload 67 rfl rfl rfl ?_
          first | refine z_dup 68 rfl rfl ?_ | refine z_dupi 68 rfl rfl ?_
          refine z_get 71 rfl rfl (by first | exact hA.1 | exact hw.1 | exact a1 | exact hc3 | exact hP1.1 | fail "lk") rfl ?_
          refine z_push 72 (nI 1) rfl rfl rfl ?_
          refine z_bop 73 _ rfl rfl (by first | with_reducible exact zb_0 _ _ | exact zd_0 _ _) ?_
          refine z_put 76 rfl rfl (by first | exact hA.1 | exact hw.1 | exact a1 | exact hc3 | exact hP1.1 | fail "lk") rfl (mFi rfl) ?_
          obtain ⟨h3, hhh3⟩ : ∃ h9 : mH, h9 = mSet h2 R (oRu R rs ws (F.length + 1)) := ⟨_, rfl⟩
          refine z_gen h3 hhh3.symm ?_
          have hc3 : h3.2 R = oRu R rs ws (F.length + 1) := by rw [hhh3]; exact mg_eq _ _ _
          have kh3 : ∀ x, x ≠ R → h3.2 x = h2.2 x := fun x hx => by rw [hhh3]; exact mg_ne hx rfl
          have zh3 : h3.1 = h2.1 := by rw [hhh3]; rfl
          refine z_aload 77 rfl rfl rfl ?_
          refine z_push 79 (nI 40) rfl rfl rfl ?_
          refine z_iload 80 rfl rfl rfl ?_
          refine z_cv2 83 rfl rfl (by first | exact hA.1 | exact hw.1 | exact a1 | exact hc3 | exact hP1.1 | fail "lk") rfl (Nat.le_refl _) (Nat.le_refl _) ?_
          refine c_Ru_copy (pts := pts) (lns := lns) (prt := prt) (whs := whs2) ⟨hc3, (kh3 _ (by omega)).trans b1, (kh3 _ (by omega)).trans b2, (kh3 _ (by omega)).trans b3, (kh3 _ (by omega)).trans b4⟩ (by omega) (by omega) (fun h4 hR4 hF4 => ?_)
          refine z_push 84 (nI 0) rfl rfl rfl ?_
          refine z_ireti rfl (Nat.le_refl _) (Nat.le_refl _) ?_
          have e9 : fbS9 F pt ps = F ++ [(pt, ps)] := by unfold fbS9; rw [hff]
          have hl9 : (fbS9 F pt ps).length ≤ 40 := hok.2.1
          have hW9 : FbW (fbS9 F pt ps) := hok.2.2
          refine q1 hps1 hful hst9 h4 ?_ ⟨hF4.1.trans (zh3.trans (hF2.1.trans hF1.1)), fun x hx => (hF4.2 x hx).trans ((kh3 x (by omega)).trans ((hF2.2 x (by omega)).trans (hF1.2 x hx)))⟩
          rw [e9] at hl9 hW9 ⊢
          refine ⟨by rw [List.length_append]; exact hR4.1, hl9, _, _, _, _, hR4.2.1, hR4.2.2.1, hR4.2.2.2.1, hR4.2.2.2.2, ?_⟩
          refine RuF.cp (F := F) (fun k hk => (hW9 k hk).2.2.1) (fun k hk hne => ?_) (fun hk => ?_)
          · have hk' : k < F.length + 1 := by rw [List.length_append] at hk; exact hk
            unfold fbL fbP
            rw [fb_app.1 (show k < F.length by omega)]
            exact b5 k (by omega)
          · unfold fbL fbP
            rw [fb_app.2 rfl]
            exact ⟨b6, b7, fun j hj => b8 j hj⟩
        · refine z_iload 56 rfl rfl rfl ?_
          refine z_ireti rfl (Nat.le_refl _) (Nat.le_refl _) ?_
          exact qf hps1 hful hc51 h2 hP2.at ⟨hF2.1.trans hF1.1, fun x hx => (hF2.2 x (by omega)).trans (hF1.2 x hx)⟩
      · refine z_push 35 (-6) rfl rfl rfl ?_
        refine z_ireti rfl (Nat.le_refl _) (Nat.le_refl _) ?_
        exact q6 hps1 hff (by omega)
    · simp only [oI]
      have hps1 : 1 ≤ ps.length := by omega
      have hf9 := ffd_lt hff
      refine z_iload 21 rfl rfl rfl ?_
      refine z_zge 24 rfl rfl (by omega) (fun _ => ?_) (fun h9 => absurd h9 (by omega))
      have hful : ¬ (fbI F pt = none ∧ F.length = 40) := fun h9 => by rw [hff] at h9; cases h9.1
      have hok := fbS9_ok hl hU hW hpt hps1 hp4 hpsn hful
      refine z_aload 37 rfl rfl rfl ?_
      refine z_iload 38 rfl rfl rfl ?_
      refine z_aload 39 rfl rfl rfl ?_
      refine z_cv2 42 rfl rfl (by first | exact hA.1 | exact hw.1 | exact a1 | exact hc3 | exact hP1.1 | fail "lk") rfl (Nat.le_refl _) (Nat.le_refl _) ?_
      refine c_Ru_stage hA hW hw hn hp4 hRo (fun h1 whs hP1 hF1 => ?_)
      refine z_aload 43 rfl rfl rfl ?_
      refine z_iload 44 rfl rfl rfl ?_
      have hoI : (oI (fbI F pt)) = nI f9 := by rw [hff]; rfl
      rw [← hoI]
      refine z_cv1 47 rfl rfl (by first | exact hA.1 | exact hw.1 | exact a1 | exact hc3 | exact hP1.1 | fail "lk") rfl (Nat.le_refl _) (Nat.le_refl _) ?_
      refine c_stagedFinding (pt := pt) (ps := ps) hP1 hW hpt hps1 hp4 hpsn hl hok.2.1 hok.1 (fun h2 whs2 hP2 hF2 => ?_)
      refine z_istore 49 rfl rfl rfl rfl ?_
      refine z_iload 51 rfl rfl rfl ?_
      first | refine z_ieq 54 rfl rfl (fun hc51 => ?_) (fun hc51 => ?_)
      · obtain ⟨a1, _, pts, lns, prt, b1, b2, b3, b4, b5, b6, b7, b8⟩ := id hP2
        have hst9 : stV (fbS9 F pt ps) = 0 := hc51
        rw [hoI]
        refine z_iload 58 rfl rfl rfl ?_
        refine z_zge 61 rfl rfl (by omega) (fun _ => ?_) (fun h9 => absurd h9 (by omega))
        refine z_aload 77 rfl rfl rfl ?_
        refine z_push 79 (nI 40) rfl rfl rfl ?_
        refine z_iload 80 rfl rfl rfl ?_
        refine z_cv2 83 rfl rfl (by first | exact hA.1 | exact hw.1 | exact a1 | exact hc3 | exact hP1.1 | fail "lk") rfl (Nat.le_refl _) (Nat.le_refl _) ?_
        refine c_Ru_copy (pts := pts) (lns := lns) (prt := prt) (whs := whs2) ⟨a1, b1, b2, b3, b4⟩ (by omega) (by omega) (fun h4 hR4 hF4 => ?_)
        refine z_push 84 (nI 0) rfl rfl rfl ?_
        refine z_ireti rfl (Nat.le_refl _) (Nat.le_refl _) ?_
        have e9 : fbS9 F pt ps = F.set f9 (pt, ps) := by unfold fbS9; rw [hff]
        have hl9 : (fbS9 F pt ps).length ≤ 40 := hok.2.1
        have hW9 : FbW (fbS9 F pt ps) := hok.2.2
        refine q1 hps1 hful hst9 h4 ?_ ⟨hF4.1.trans (hF2.1.trans hF1.1), fun x hx => (hF4.2 x hx).trans ((hF2.2 x (by omega)).trans (hF1.2 x hx))⟩
        rw [e9] at hl9 hW9 ⊢
        refine ⟨by rw [List.length_set]; exact hR4.1, hl9, _, _, _, _, hR4.2.1, hR4.2.2.1, hR4.2.2.2.1, hR4.2.2.2.2, ?_⟩
        refine RuF.cp (F := F) (fun k hk => (hW9 k hk).2.2.1) (fun k hk hne => ?_) (fun hk => ?_)
        · rw [List.length_set] at hk
          unfold fbL fbP
          rw [fb_set (by omega), if_neg hne]
          exact b5 k hk
        · unfold fbL fbP
          rw [fb_set (by omega), if_pos rfl]
          exact ⟨b6, b7, fun j hj => b8 j hj⟩
      · refine z_iload 56 rfl rfl rfl ?_
        refine z_ireti rfl (Nat.le_refl _) (Nat.le_refl _) ?_
        exact qf hps1 hful hc51 h2 hP2.at ⟨hF2.1.trans hF1.1, fun x hx => (hF2.2 x (by omega)).trans (hF1.2 x hx)⟩
  · refine z_aload 14 rfl rfl rfl ?_
    refine z_iload 15 rfl rfl rfl ?_
    refine z_cv1 18 rfl rfl (by first | exact hA.1 | exact hw.1 | exact a1 | exact hc3 | exact hP1.1 | fail "lk") rfl (Nat.le_refl _) (Nat.le_refl _) ?_
    refine c_Ru_remove hA hW (fun h1 hA1 hF1 => ?_)
    refine z_push 19 (nI 0) rfl rfl rfl ?_
    refine z_ireti rfl (Nat.le_refl _) (Nat.le_refl _) ?_
    exact q0 hc10 h1 hA1 hF1
