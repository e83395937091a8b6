/-! the class: the staged fallback -/
def RuP (h : mH) (R rs ws : Nat) (F : List Fb) (pt : Nat) (ps : List Nat) (whs : Nat → Int32) : Prop := h.2 R = oRu R rs ws F.length ∧ F.length ≤ 40 ∧ ∃ pts lns prt : Nat → Int32, h.2 (R + 1) = aI 41 pts ∧ h.2 (R + 2) = aI 41 lns ∧ h.2 (R + 3) = aI 164 prt ∧ h.2 (R + 4) = aI 41 whs ∧ (∀ k, k < F.length → pts k = nI (fbP F k) ∧ lns k = nI (fbL F k).length ∧ ∀ j, j < (fbL F k).length → prt (4 * k + j) = nI ((fbL F k).getD j 0)) ∧ pts 40 = nI pt ∧ lns 40 = nI ps.length ∧ ∀ j, j < ps.length → prt (160 + j) = nI (ps.getD j 0)
theorem RuP.at {h : mH} {R rs ws pt : Nat} {F : List Fb} {ps : List Nat} {whs : Nat → Int32} (a : RuP h R rs ws F pt ps whs) : RuAt h R rs ws F := by
  obtain ⟨a1, a2, pts, lns, prt, b1, b2, b3, b4, b5, _⟩ := a
  exact ⟨a1, a2, pts, lns, prt, whs, b1, b2, b3, b4, b5⟩
def slL (F : List Fb) (ps : List Nat) (s : Nat) : List Nat := if s = 40 then ps else fbL F s
def slI (F : List Fb) (pt x : Nat) : Option Nat := if x = pt then some 40 else fbI F x
def Std (F : List Fb) (pt s : Nat) : Prop := s = 40 ∨ (s < F.length ∧ fbI F pt ≠ some s)
def whG (by9 : Nat → Option Nat) (w : Nat → Nat) : List Nat → Nat → Nat
  | [], acc => c17 acc
  | x :: l, acc => match by9 x with
    | none => whG by9 w l (acc + 1)
    | some g => if w g = 0 then 0 else whG by9 w l (acc + w g)
def vx9 (by9 : Nat → Option Nat) (w : Nat → Nat) (x : Nat) : Nat := match by9 x with
  | none => 1
  | some g => w g
theorem whG_c {by9 : Nat → Option Nat} {w : Nat → Nat} : ∀ (l : List Nat) (acc : Nat), ((∃ x, x ∈ l ∧ ∃ g, by9 x = some g ∧ w g = 0) ∧ whG by9 w l acc = 0) ∨ ((∀ x, x ∈ l → ∀ g, by9 x = some g → w g ≠ 0) ∧ whG by9 w l acc = c17 (acc + sumN (vx9 by9 w) l))
  | [], acc => Or.inr ⟨fun x hx => absurd hx (List.not_mem_nil), rfl⟩
  | x :: l, acc => by
    cases e : by9 x with
    | none =>
      have e1 : whG by9 w (x :: l) acc = whG by9 w l (acc + 1) := by rw [whG, e]
      have e2 : vx9 by9 w x = 1 := by rw [vx9, e]
      rcases whG_c (by9 := by9) (w := w) l (acc + 1) with ⟨⟨y, hy, g, h1, h2⟩, h3⟩ | ⟨h1, h2⟩
      · exact Or.inl ⟨⟨y, List.mem_cons_of_mem _ hy, g, h1, h2⟩, e1.trans h3⟩
      · refine Or.inr ⟨fun y hy g hg => ?_, ?_⟩
        · rcases List.mem_cons.mp hy with rfl | hy
          · rw [e] at hg; cases hg
          · exact h1 y hy g hg
        · rw [e1, h2, sumN, e2, Nat.add_assoc]
    | some g =>
      have e2 : vx9 by9 w x = w g := by rw [vx9, e]
      by_cases hg0 : w g = 0
      · exact Or.inl ⟨⟨x, List.mem_cons_self, g, e, hg0⟩, by rw [whG, e]; exact if_pos hg0⟩
      · have e1 : whG by9 w (x :: l) acc = whG by9 w l (acc + w g) := by rw [whG, e]; exact if_neg hg0
        rcases whG_c (by9 := by9) (w := w) l (acc + w g) with ⟨⟨y, hy, g', h1, h2⟩, h3⟩ | ⟨h1, h2⟩
        · exact Or.inl ⟨⟨y, List.mem_cons_of_mem _ hy, g', h1, h2⟩, e1.trans h3⟩
        · refine Or.inr ⟨fun y hy g' hg => ?_, ?_⟩
          · rcases List.mem_cons.mp hy with rfl | hy
            · rw [e] at hg; cases hg; exact hg0
            · exact h1 y hy g' hg
          · rw [e1, h2, sumN, e2, Nat.add_assoc]
theorem zc17 {a : Nat} (ha : a < 2 ^ 31) : (if nI 17 < nI a then nI 17 else nI a) = nI (c17 a) := by
  unfold c17
  by_cases e : a ≤ 17
  · rw [if_neg (nI_nlt (by omega) (by omega)), if_pos e]
  · rw [if_pos (nI_lt (by omega) ha), if_neg e]
theorem nI_nm1 {s : Nat} (h : s < 2 ^ 31) : nI s ≠ -1 := fun e => by
  have h8 := congrArg Int32.toInt e
  rw [nI_toInt h] at h8
  have h9 : (-1 : Int32).toInt = -1 := by decide
  omega
set_option maxRecDepth 10000 in
theorem c_stands {d : Nat} {h : mH} {R rs ws pt s : Nat} {F : List Fb} {ps : List Nat} {whs : Nat → Int32} {Q : mP} (hP : RuP h R rs ws F pt ps whs) (hs : s ≤ 40)  (q1 : Std F pt s → Q (some (.int (nI 1))) h) (q0 : ¬ Std F pt s → Q (some (.int (nI 0))) h) : mWP (d + 1) 87 [.ref R, .int (nI s), .int (oI (fbI F pt))] h Q := by
  have hl := hP.2.1
  refine z_in [some (.ref R), some (.int (nI s)), some (.int (oI (fbI F pt)))] (by rfl) rfl rfl rfl ?_
  refine z_iload 1 rfl rfl rfl ?_
  refine z_push 3 (nI 40) rfl rfl rfl ?_
  refine z_neq 6 rfl rfl (by omega) (by omega) (fun hc3 => ?_) (fun hc3 => ?_)
  · refine z_push 20 (nI 1) rfl rfl rfl ?_
    refine z_goto rfl ?_
    refine z_iretb rfl (Nat.le_refl _) (Nat.le_refl _) (by first | decide | exact bI_01 _) ?_
    exact q1 (Or.inl hc3)
  · refine z_iload 7 rfl rfl rfl ?_
    refine z_aload 8 rfl rfl rfl ?_
    refine z_get 11 rfl rfl hP.1 rfl ?_
    refine z_nge 14 rfl rfl (by omega) (by omega) (fun hc11 => ?_) (fun hc11 => ?_)
    · refine z_push 24 (nI 0) rfl rfl rfl ?_
      refine z_iretb rfl (Nat.le_refl _) (Nat.le_refl _) (by first | decide | exact bI_01 _) ?_
      exact q0 (fun h9 => h9.elim hc3 (fun h8 => absurd h8.1 (by omega)))
    · rcases hff : fbI F pt with _ | f9
      · simp only [oI]
        refine z_iload 15 rfl rfl rfl ?_
        refine z_iload 16 rfl rfl rfl ?_
        refine z_ceq 19 rfl rfl (fun h9 => absurd h9 (nI_nm1 (by omega))) (fun _ => ?_)
        refine z_push 20 (nI 1) rfl rfl rfl ?_
        refine z_goto rfl ?_
        refine z_iretb rfl (Nat.le_refl _) (Nat.le_refl _) (by first | decide | exact bI_01 _) ?_
        exact q1 (Or.inr ⟨hc11, by rw [hff]; exact fun h9 => by cases h9⟩)
      · simp only [oI]
        have hf9 := ffd_lt hff
        refine z_iload 15 rfl rfl rfl ?_
        refine z_iload 16 rfl rfl rfl ?_
        refine z_neq 19 rfl rfl (by omega) (by omega) (fun hc16 => ?_) (fun hc16 => ?_)
        · refine z_push 24 (nI 0) rfl rfl rfl ?_
          refine z_iretb rfl (Nat.le_refl _) (Nat.le_refl _) (by first | decide | exact bI_01 _) ?_
          exact q0 (fun h9 => h9.elim hc3 (fun h8 => h8.2 (by rw [hff, hc16])))
        · refine z_push 20 (nI 1) rfl rfl rfl ?_
          refine z_goto rfl ?_
          refine z_iretb rfl (Nat.le_refl _) (Nat.le_refl _) (by first | decide | exact bI_01 _) ?_
          exact q1 (Or.inr ⟨hc11, by rw [hff]; exact fun h9 => hc16 (by cases h9; rfl)⟩)
set_option maxRecDepth 10000 in
theorem c_wholeOf {d : Nat} {h : mH} {R rs ws pt s : Nat} {F : List Fb} {ps : List Nat} {whs : Nat → Int32} {w : Nat → Nat} {Q : mP} (hP : RuP h R rs ws F pt ps whs) (hw : ∀ k, k ≤ 40 → whs k = nI (w k)) (hwb : ∀ k, w k ≤ 17) (hW : FbW F) (hpt : nPt pt = true) (hps4 : ps.length ≤ 4) (hpsn : ∀ x, x ∈ ps → nPt x = true) (hs : s = 40 ∨ s < F.length)  (q : Q (some (.int (nI (whG (slI F pt) w (slL F ps s) 0)))) h) : mWP (d + 2) 88 [.ref R, .int (nI s)] h Q := by
  obtain ⟨a1, a2, pts, lns, prt, b1, b2, b3, b4, b5, b6, b7, b8⟩ := id hP
  have hln : lns s = nI (slL F ps s).length := by
    unfold slL
    by_cases e : s = 40
    · subst e; rw [if_pos rfl]; exact b7
    · rw [if_neg e]; exact (b5 s (by omega)).2.1
  have hprt : ∀ j, j < (slL F ps s).length → prt (s * 4 + j) = nI ((slL F ps s).getD j 0) := by
    unfold slL
    by_cases e : s = 40
    · subst e; rw [if_pos rfl]; exact b8
    · rw [if_neg e, Nat.mul_comm]; exact (b5 s (by omega)).2.2
  have hll : (slL F ps s).length ≤ 4 := by
    unfold slL
    by_cases e : s = 40
    · rw [if_pos e]; exact hps4
    · rw [if_neg e]; exact (hW s (by omega)).2.2.1
  have hpx : ∀ j, j < (slL F ps s).length → nPt ((slL F ps s).getD j 0) = true := by
    unfold slL
    by_cases e : s = 40
    · rw [if_pos e]; exact fun j hj => hpsn _ (getD_in hj)
    · rw [if_neg e]; exact fun j hj => (hW s (by omega)).2.2.2 _ (getD_in hj)
  generalize slL F ps s = l at *
  have hptb := nPt_lt hpt
  have loop : ∀ m9 i acc o4 o5, l.length < i + m9 → i ≤ l.length → acc ≤ 17 * i → whG (slI F pt) w l 0 = whG (slI F pt) w (l.drop i) acc → mZ (d + 1) tk_88 0 0 Q 4 [some (.ref R), some (.int (nI s)), some (.int (nI acc)), some (.int (nI i)), o4, o5] [] h 0 0 := by
    intro m9
    induction m9 with
    | zero => intro i acc o4 o5 h1 h2; omega
    | succ m9 ih =>
      intro i acc o4 o5 h1 h2 hac hv
      refine z_iload 5 rfl rfl rfl ?_
      refine z_aload 6 rfl rfl rfl ?_
      refine z_get 9 rfl rfl (by first | exact a1 | exact b1 | exact b2 | exact b3 | exact b4 | fail "lk") rfl ?_
      refine z_iload 10 rfl rfl rfl ?_
      refine z_ald 11 rfl rfl (by first | exact a1 | exact b1 | exact b2 | exact b3 | exact b4 | fail "lk") rfl (by omega) (by omega) ?_
      rw [hln]
      refine z_nge 14 rfl rfl (by omega) (by omega) (fun hc11 => ?_) (fun hc11 => ?_)
      · refine z_iload 94 rfl rfl rfl ?_
        refine z_push 96 (nI 17) rfl rfl rfl ?_
        refine z_min 99 _ rfl rfl rfl (Nat.le_refl _) (Nat.le_refl _) (zc17 (by omega)) ?_
        refine z_ireti rfl (Nat.le_refl _) (Nat.le_refl _) ?_
        rw [hv, List.drop_eq_nil_of_le (by omega), whG] at q
        exact q
      · refine z_aload 15 rfl rfl rfl ?_
        refine z_get 18 rfl rfl (by first | exact a1 | exact b1 | exact b2 | exact b3 | exact b4 | fail "lk") rfl ?_
        refine z_iload 19 rfl rfl rfl ?_
        refine z_push 20 (nI 4) rfl rfl rfl ?_
        refine z_bop 21 _ rfl rfl (zb_2 _ _) ?_
        refine z_iload 22 rfl rfl rfl ?_
        refine z_bop 23 _ rfl rfl (by first | with_reducible exact zb_0 _ _ | exact zd_0 _ _) ?_
        refine z_ald 24 rfl rfl (by first | exact a1 | exact b1 | exact b2 | exact b3 | exact b4 | fail "lk") rfl (by omega) (by omega) ?_
        rw [hprt i (by omega)]
        have hdr := drop_c9 (show i < l.length by omega)
        have hpxi := nPt_lt (hpx i (by omega))
        rw [hdr] at hv
        obtain ⟨x, hx⟩ : ∃ x, l.getD i 0 = x := ⟨_, rfl⟩
        rw [hx] at hv hpxi
        rw [hx]
        refine z_istore 26 rfl rfl rfl rfl ?_
        refine z_iload 28 rfl rfl rfl ?_
        refine z_aload 29 rfl rfl rfl ?_
        refine z_get 32 rfl rfl (by first | exact a1 | exact b1 | exact b2 | exact b3 | exact b4 | fail "lk") rfl ?_
        refine z_push 34 (nI 40) rfl rfl rfl ?_
        refine z_ald 35 rfl rfl (by first | exact a1 | exact b1 | exact b2 | exact b3 | exact b4 | fail "lk") rfl (by omega) (by omega) ?_
        rw [b6]
        refine z_nne 38 rfl rfl (by omega) (by omega) (fun hc35 => ?_) (fun hc35 => ?_)
        · refine z_aload 44 rfl rfl rfl ?_
          refine z_iload 46 rfl rfl rfl ?_
          refine z_cv1 49 rfl rfl (by first | exact a1 | exact b1 | exact b2 | exact b3 | exact b4 | fail "lk") rfl (Nat.le_refl _) (Nat.le_refl _) ?_
          refine c_Ru_slotOf hP.at hW (by omega) ?_
          rcases hfd : fbI F x with _ | g9
          · simp only [oI]
            have hby : slI F pt x = none := by rw [slI, if_neg hc35]; exact hfd
            rw [whG, hby] at hv
            simp only at hv
            refine z_istore 51 rfl rfl rfl rfl ?_
            refine z_iload 53 rfl rfl rfl ?_
            refine z_jlt 56 rfl rfl (fun _ => ?_) (fun h9 => absurd h9 (by decide))
            refine z_iload 69 rfl rfl rfl ?_
            refine z_iload 71 rfl rfl rfl ?_
            refine z_jlt 74 rfl rfl (fun _ => ?_) (fun h9 => absurd h9 (by decide))
            refine z_push 85 (nI 1) rfl rfl rfl ?_
            refine z_bop 86 _ rfl rfl (by first | with_reducible exact zb_0 _ _ | exact zd_0 _ _) ?_
            refine z_istore 87 rfl rfl rfl rfl ?_
            refine z_iinc 90 _ rfl rfl rfl rfl (by first | with_reducible exact zi_1 _ | rfl) ?_
            refine z_goto rfl ?_
            exact ih (i + 1) _ _ _ (by omega) (by omega) (by omega) hv
          · simp only [oI]
            have hf9 := ffd_lt hfd
            have hby : slI F pt x = some g9 := by rw [slI, if_neg hc35]; exact hfd
            refine z_istore 51 rfl rfl rfl rfl ?_
            refine z_iload 53 rfl rfl rfl ?_
            refine z_zlt 56 rfl rfl (by omega) (fun h9 => absurd h9 (by omega)) (fun _ => ?_)
            refine z_aload 57 rfl rfl rfl ?_
            refine z_get 60 rfl rfl (by first | exact a1 | exact b1 | exact b2 | exact b3 | exact b4 | fail "lk") rfl ?_
            refine z_iload 62 rfl rfl rfl ?_
            refine z_ald 63 rfl rfl (by first | exact a1 | exact b1 | exact b2 | exact b3 | exact b4 | fail "lk") rfl (by omega) (by omega) ?_
            rw [hw g9 (by omega)]
            have hwb8 := hwb g9
            first | refine z_zne 66 rfl rfl (by omega) (fun hc63 => ?_) (fun hc63 => ?_)
            · refine z_iload 69 rfl rfl rfl ?_
              refine z_iload 71 rfl rfl rfl ?_
              refine z_zlt 74 rfl rfl (by omega) (fun h9 => absurd h9 (by omega)) (fun _ => ?_)
              refine z_aload 75 rfl rfl rfl ?_
              refine z_get 78 rfl rfl (by first | exact a1 | exact b1 | exact b2 | exact b3 | exact b4 | fail "lk") rfl ?_
              refine z_iload 80 rfl rfl rfl ?_
              refine z_ald 81 rfl rfl (by first | exact a1 | exact b1 | exact b2 | exact b3 | exact b4 | fail "lk") rfl (by omega) (by omega) ?_
              rw [hw g9 (by omega)]
              have hwb9 := hwb g9
              refine z_goto rfl ?_
              refine z_bop 86 _ rfl rfl (by first | with_reducible exact zb_0 _ _ | exact zd_0 _ _) ?_
              refine z_istore 87 rfl rfl rfl rfl ?_
              refine z_iinc 90 _ rfl rfl rfl rfl (by first | with_reducible exact zi_1 _ | rfl) ?_
              refine z_goto rfl ?_
              rw [whG, hby] at hv
              simp only [if_neg hc63] at hv
              exact ih (i + 1) _ _ _ (by omega) (by omega) (by omega) hv
            · rw [whG, hby] at hv
              simp only [if_pos hc63] at hv
              refine z_push 67 (nI 0) rfl rfl rfl ?_
              refine z_ireti rfl (Nat.le_refl _) (Nat.le_refl _) ?_
              rw [hv] at q
              exact q
        · have hby : slI F pt x = some 40 := by rw [slI, if_pos hc35]
          refine z_push 40 (nI 40) rfl rfl rfl ?_
          refine z_goto rfl ?_
          refine z_istore 51 rfl rfl rfl rfl ?_
          refine z_iload 53 rfl rfl rfl ?_
          refine z_zlt 56 rfl rfl (by omega) (fun h9 => absurd h9 (by omega)) (fun _ => ?_)
          refine z_aload 57 rfl rfl rfl ?_
          refine z_get 60 rfl rfl (by first | exact a1 | exact b1 | exact b2 | exact b3 | exact b4 | fail "lk") rfl ?_
          refine z_iload 62 rfl rfl rfl ?_
          refine z_ald 63 rfl rfl (by first | exact a1 | exact b1 | exact b2 | exact b3 | exact b4 | fail "lk") rfl (by omega) (by omega) ?_
          rw [hw 40 (by omega)]
          have hwb8 := hwb 40
          first | refine z_zne 66 rfl rfl (by omega) (fun hc63 => ?_) (fun hc63 => ?_)
          · refine z_iload 69 rfl rfl rfl ?_
            refine z_iload 71 rfl rfl rfl ?_
            refine z_zlt 74 rfl rfl (by omega) (fun h9 => absurd h9 (by omega)) (fun _ => ?_)
            refine z_aload 75 rfl rfl rfl ?_
            refine z_get 78 rfl rfl (by first | exact a1 | exact b1 | exact b2 | exact b3 | exact b4 | fail "lk") rfl ?_
            refine z_iload 80 rfl rfl rfl ?_
            refine z_ald 81 rfl rfl (by first | exact a1 | exact b1 | exact b2 | exact b3 | exact b4 | fail "lk") rfl (by omega) (by omega) ?_
            rw [hw 40 (by omega)]
            have hwb9 := hwb 40
            refine z_goto rfl ?_
            refine z_bop 86 _ rfl rfl (by first | with_reducible exact zb_0 _ _ | exact zd_0 _ _) ?_
            refine z_istore 87 rfl rfl rfl rfl ?_
            refine z_iinc 90 _ rfl rfl rfl rfl (by first | with_reducible exact zi_1 _ | rfl) ?_
            refine z_goto rfl ?_
            rw [whG, hby] at hv
            simp only [if_neg hc63] at hv
            exact ih (i + 1) _ _ _ (by omega) (by omega) (by omega) hv
          · rw [whG, hby] at hv
            simp only [if_pos hc63] at hv
            refine z_push 67 (nI 0) rfl rfl rfl ?_
            refine z_ireti rfl (Nat.le_refl _) (Nat.le_refl _) ?_
            rw [hv] at q
            exact q
  refine z_in [some (.ref R), some (.int (nI s)), none, none, none, none] (by rfl) rfl rfl rfl ?_
  refine z_push 1 (nI 0) rfl rfl rfl ?_
  refine z_istore 2 rfl rfl rfl rfl ?_
  refine z_push 3 (nI 0) rfl rfl rfl ?_
  refine z_istore 4 rfl rfl rfl rfl ?_
  exact loop (l.length + 1) 0 0 _ _ (by omega) (by omega) (by omega) rfl
