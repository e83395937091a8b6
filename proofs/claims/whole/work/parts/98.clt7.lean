/-! the class: Writer.spell, the walk -/
theorem pb_len6 {h : mH} {p K st x : Nat} {E : List En} {H : List Sh} {y : Nat × Nat × Nat} (hP : PgC h p K E H) (hW : TbW E H) (hG : Gd K E H) (hs : SOk K H st) (hK0 : K ≠ 0 → st = 0) (hx : x < 1114112) (hy : fnd K E x = some y) : (pbW K H st y.1 y.2.1 y.2.2).1.length ≤ 6 := by
  obtain ⟨y1, y2, y3⟩ := y
  obtain ⟨b1, b2', b3, b4, b5, b6, b7⟩ := fnd_b hW hx hy
  have e := pb_rt (K := K) (H := H) (st := st) (n := y2) (v := y3) (show y1 < 4 from b1)
  show (pbW K H st y1 y2 y3).1.length ≤ 6
  rw [e, List.length_append, byL_len]
  by_cases hK : K = 0
  · have hg : K = 0 → ∃ l, gP H (gSt y1) (decide (y1 ≠ 4)) st = some l := fun _ => by
      subst hK
      obtain ⟨l9, h9, _⟩ := (hG rfl).1 st x _ _ _ (hs.2 rfl) hy
      exact ⟨l9, by rw [show gSt y1 = y1 from if_neg (by omega), decide_eq_true (show y1 ≠ 4 by omega)]; exact h9⟩
    have h1 := rtB_len hP (g := y1) (by omega) hs.1 hg hK0
    have h2 := b7 hK
    omega
  · have e2 : rtB K H y1 st = ([], st) := by rw [rtB, if_neg hK]
    rw [e2]
    show 0 + y2 ≤ 6
    omega
theorem pb_k0 {K st y1 y2 y3 : Nat} {H : List Sh} (hK0 : K ≠ 0 → st = 0) : K ≠ 0 → (pbW K H st y1 y2 y3).2 = 0 := fun hK => by rw [pbW, if_neg hK]; exact hK0 hK
theorem Rw_pop {h h' : mH} {r n x : Nat} {l : List Nat} (a : RwAt h r n (l ++ [x])) (h1 : h'.2 r = oRow (r + 1) (nI l.length)) (h2 : h'.2 (r + 1) = h.2 (r + 1)) : RwAt h' r n l ∧ ∃ f, h'.2 (r + 1) = aI n f ∧ f l.length = nI x := by
  obtain ⟨a1, a2, f, a3, a4⟩ := a
  rw [List.length_append] at a2 a4
  have a2' : l.length + 1 ≤ n := a2
  refine ⟨⟨h1, by omega, f, h2.trans a3, fun j hj => ?_⟩, f, h2.trans a3, ?_⟩
  · rw [a4 j (by show j < l.length + 1; omega), getD_apf hj]
  · rw [a4 l.length (by show l.length < l.length + 1; omega), getD_apl]
theorem sumN_len {f : Nat → Nat} : ∀ {l : List Nat}, (∀ x, x ∈ l → 1 ≤ f x) → l.length ≤ sumN f l
  | [], _ => Nat.zero_le _
  | x :: l, h => by
    have h1 := h x (List.mem_cons_self ..)
    have h2 := sumN_len (fun y hy => h y (List.mem_cons_of_mem _ hy))
    simp only [sumN, List.length_cons]
    omega
set_option maxRecDepth 100000 in
theorem c_spell {d : Nat} {h0 : mH} {w R p rule st0 K pt rs ws : Nat} {u : List Nat} {E : List En} {H : List Sh} {F : List Fb} {Q : mP} (hw : WrAt h0 w R p rule st0 [] u) (hR : RuAt h0 R rs ws F) (hP : PgC h0 p K E H) (hW : TbW E H) (hG : Gd K E H) (hs : SOk K H st0) (hK0 : K ≠ 0 → st0 = 0) (hFW : FbW F) (hFd : ∀ x, Fdp F 40 x) (hFN : ∀ x, fbN F 40 x ≤ 16) (hpt : pt < 1114112) (hpw : p + 20 ≤ w ∨ w + 5 ≤ p) (hRw : R + 5 ≤ w ∨ w + 5 ≤ R)  (q0 : (match fbI F pt with | none => none | some f => spl F K E H 1001 (fbL F f) st0 []) = none → ∀ h' u', WrAt h' w R p rule st0 [] u' → Fr w (w + 5) h0 h' → Q (some (.int (nI 0))) h') (q1 : ∀ y, (match fbI F pt with | none => none | some f => spl F K E H 1001 (fbL F f) st0 []) = some y → ∀ h' u', WrAt h' w R p rule y.2 y.1 u' → Fr w (w + 5) h0 h' → Q (some (.int (nI 1))) h') : mWP (d + 6) 106 [.ref w, .int (nI pt)] h0 Q := by
  obtain ⟨SPL, hSP⟩ : ∃ SPL, SPL = (match fbI F pt with | none => none | some f => spl F K E H 1001 (fbL F f) st0 []) := ⟨_, rfl⟩
  have q0 : SPL = none → ∀ h' u', WrAt h' w R p rule st0 [] u' → Fr w (w + 5) h0 h' → Q (some (.int (nI 0))) h' := fun h9 => q0 (by rw [← hSP]; exact h9)
  have q1 : ∀ y, SPL = some y → ∀ h' u', WrAt h' w R p rule y.2 y.1 u' → Fr w (w + 5) h0 h' → Q (some (.int (nI 1))) h' := fun y h9 => q1 y (by rw [← hSP]; exact h9)
  have fail : ∀ h9 st9 l9 u9 o4 o5, WrAt h9 w R p rule st9 l9 u9 → Fr w (w + 5) h0 h9 → SPL = none → mZ (d + 5) tk_106 0 0 Q 133 [some (.ref w), some (.int (nI pt)), some (.int (nI st0)), some (.int (nI 0)), o4, o5] [] h9 0 0 := by
    intro h9 st9 l9 u9 o4 o5 hx9 hfr9 hnone
    refine z_aload 134 rfl rfl rfl ?_
    refine z_get 137 rfl rfl (by first | exact hx9.1 | exact hx9.2.1.1 | exact hb9.1 | fail "lk") rfl ?_
    refine z_cv0 140 rfl rfl (by first | exact hx9.1 | exact hx9.2.1.1 | exact hb9.1 | fail "lk") rfl (Nat.le_refl _) (Nat.le_refl _) ?_
    refine w_clear hx9.2.1 (fun h7 hb7 hF7 => ?_)
    have hb9 : h7.2 w = oWr R w p rule st9 ∧ True := ⟨(hF7.2 w (by omega)).trans hx9.1, trivial⟩
    have hu7 := hx9.2.2.e (hF7.eqv (by omega))
    refine z_aload 141 rfl rfl rfl ?_
    refine z_iload 142 rfl rfl rfl ?_
    refine z_put 145 rfl rfl (by first | exact hx9.1 | exact hx9.2.1.1 | exact hb9.1 | fail "lk") rfl (mFi rfl) ?_
    obtain ⟨h8, hhh8⟩ : ∃ h9 : mH, h9 = mSet h7 w (oWr R w p rule st0) := ⟨_, rfl⟩
    refine z_gen h8 hhh8.symm ?_
    have hr8 : h8.2 w = oWr R w p rule st0 := by rw [hhh8]; exact mg_eq _ _ _
    have kh8 : ∀ x, x ≠ w → h8.2 x = h7.2 x := fun x hx => by rw [hhh8]; exact mg_ne hx rfl
    have zh8 : h8.1 = h7.1 := by rw [hhh8]; rfl
    refine z_push 146 (nI 0) rfl rfl rfl ?_
    refine z_iretb rfl (Nat.le_refl _) (Nat.le_refl _) (by first | decide | exact bI_01 _) ?_
    exact q0 hnone h8 u9 ⟨hr8, hb7.e (fun x x1 x2 => kh8 x (by omega)), hu7.e (fun x x1 x2 => kh8 x (by omega))⟩ ⟨zh8.trans (hF7.1.trans hfr9.1), fun x hx => (kh8 x (by omega)).trans ((hF7.2 x (by omega)).trans (hfr9.2 x hx))⟩
  have loop : ∀ m9 ps st acc i h o5, sumN (ndF F K E 40) ps < m9 → i + sumN (ndF F K E 40) ps ≤ 1000 → sumN (fbN F 40) ps ≤ 16 → acc.length + 6 * sumN (fbN F 40) ps ≤ 96 → (∀ x, x ∈ ps → x < 1114112 ∧ Fdp F 40 x) → SOk K H st → (K ≠ 0 → st = 0) → WrAt h w R p rule st acc ps.reverse → RuAt h R rs ws F → PgC h p K E H → Fr w (w + 5) h0 h → SPL = spl F K E H m9 ps st acc → mZ (d + 5) tk_106 0 0 Q 28 [some (.ref w), some (.int (nI pt)), some (.int (nI st0)), some (.int (nI 1)), some (.int (nI i)), o5] [] h 0 0 := by
    intro m9
    induction m9 with
    | zero => intro ps st acc i h o5 h1; omega
    | succ m9 ih =>
      intro ps st acc i h o5 h1 h2 h3 h4 hm hs hK0 hw hR hP hfr hspl
      cases ps with
      | nil =>
        have hw0 : h.2 (w + 3) = oRow (w + 4) (nI 0) := hw.2.2.1
        refine z_iload 29 rfl rfl rfl ?_
        refine z_zeq 32 rfl rfl (by omega) (fun h9 => absurd h9 (by omega)) (fun _ => ?_)
        refine z_aload 33 rfl rfl rfl ?_
        refine z_get 36 rfl rfl (by first | exact hw.1 | exact hw0 | fail "lk") rfl ?_
        refine z_get 39 rfl rfl (by first | exact hw.1 | exact hw0 | fail "lk") rfl ?_
        refine z_zle 42 rfl rfl (by omega) (fun _ => ?_) (fun h9 => absurd h9 (by omega))
        refine z_iload 118 rfl rfl rfl ?_
        refine z_zeq 121 rfl rfl (by omega) (fun h9 => absurd h9 (by omega)) (fun _ => ?_)
        refine z_aload 122 rfl rfl rfl ?_
        refine z_get 125 rfl rfl (by first | exact hw.1 | exact hw0 | fail "lk") rfl ?_
        refine z_get 128 rfl rfl (by first | exact hw.1 | exact hw0 | fail "lk") rfl ?_
        refine z_zne 131 rfl rfl (by omega) (fun h9 => absurd h9 (by omega)) (fun _ => ?_)
        refine z_push 132 (nI 1) rfl rfl rfl ?_
        refine z_iretb rfl (Nat.le_refl _) (Nat.le_refl _) (by first | decide | exact bI_01 _) ?_
        exact q1 (acc, st) (by rw [hspl]; rfl) h [] hw hfr
      | cons x ps =>
        obtain ⟨hx1, hxd⟩ := hm x (List.mem_cons_self ..)
        have hmt : ∀ y, y ∈ ps → y < 1114112 ∧ Fdp F 40 y := fun y hy => hm y (List.mem_cons_of_mem _ hy)
        have hfp := fbN_pos hFW 40 x
        have hpl : ps.length ≤ sumN (fbN F 40) ps := sumN_len (fun y _ => fbN_pos hFW 40 y)
        have hnp : 1 ≤ ndF F K E 40 x := by unfold ndF; split <;> (try split) <;> omega
        simp only [sumN] at h1 h2 h3 h4
        have hrv : (x :: ps).reverse = ps.reverse ++ [x] := List.reverse_cons
        have hw0 : RwAt h (w + 3) 20 (ps.reverse ++ [x]) := by rw [← hrv]; exact hw.2.2
        have hln : (ps.reverse ++ [x]).length = ps.length + 1 := by rw [List.length_append, List.length_reverse]; rfl
        have hro : h.2 (w + 3) = oRow (w + 4) (nI (ps.length + 1)) := by rw [← hln]; exact hw0.1
        refine z_iload 29 rfl rfl rfl ?_
        refine z_zeq 32 rfl rfl (by omega) (fun h9 => absurd h9 (by omega)) (fun _ => ?_)
        refine z_aload 33 rfl rfl rfl ?_
        refine z_get 36 rfl rfl (by first | exact hw.1 | exact hro | exact hw3.1 | exact hf3a | exact hw3r | exact hR3.1 | exact hw4.1 | exact hR4.1 | fail "lk") rfl ?_
        refine z_get 39 rfl rfl (by first | exact hw.1 | exact hro | exact hw3.1 | exact hf3a | exact hw3r | exact hR3.1 | exact hw4.1 | exact hR4.1 | fail "lk") rfl ?_
        refine z_zle 42 rfl rfl (by omega) (fun h9 => absurd h9 (by omega)) (fun _ => ?_)
        refine z_iload 44 rfl rfl rfl ?_
        refine z_push 47 (nI 1000) rfl rfl rfl ?_
        refine z_nge 50 rfl rfl (by omega) (by omega) (fun h9 => absurd h9 (by omega)) (fun _ => ?_)
        refine z_aload 51 rfl rfl rfl ?_
        refine z_get 54 rfl rfl (by first | exact hw.1 | exact hro | exact hw3.1 | exact hf3a | exact hw3r | exact hR3.1 | exact hw4.1 | exact hR4.1 | fail "lk") rfl ?_
        first | refine z_dup 55 rfl rfl ?_ | refine z_dupi 55 rfl rfl ?_
        refine z_get 58 rfl rfl (by first | exact hw.1 | exact hro | exact hw3.1 | exact hf3a | exact hw3r | exact hR3.1 | exact hw4.1 | exact hR4.1 | fail "lk") rfl ?_
        refine z_push 59 (nI 1) rfl rfl rfl ?_
        refine z_bop 60 _ rfl rfl (by first | with_reducible exact zb_1 (by omega) | exact zd_1 _ _) ?_
        refine z_put 63 rfl rfl (by first | exact hw.1 | exact hro | exact hw3.1 | exact hf3a | exact hw3r | exact hR3.1 | exact hw4.1 | exact hR4.1 | fail "lk") rfl (mFi rfl) ?_
        obtain ⟨h3, hhh3⟩ : ∃ h9 : mH, h9 = mSet h (w + 3) (oRow (w + 4) (nI ps.length)) := ⟨_, rfl⟩
        refine z_gen h3 hhh3.symm ?_
        have hr3 : h3.2 (w + 3) = oRow (w + 4) (nI ps.length) := by rw [hhh3]; exact mg_eq _ _ _
        have kh3 : ∀ x, x ≠ (w + 3) → h3.2 x = h.2 x := fun x hx => by rw [hhh3]; exact mg_ne hx rfl
        have zh3 : h3.1 = h.1 := by rw [hhh3]; rfl
        obtain ⟨hu3, f3, hf3a, hf3b⟩ := Rw_pop (h' := h3) hw0 (by rw [List.length_reverse]; exact hr3) (kh3 (w + 4) (by omega))
        rw [List.length_reverse] at hf3b
        have hw3 : WrAt h3 w R p rule st acc ps.reverse := ⟨(kh3 w (by omega)).trans hw.1, hw.2.1.e (fun y y1 y2 => kh3 y (by omega)), hu3⟩
        have hw3r : h3.2 (w + 3) = oRow (w + 4) (nI ps.length) := hr3
        have hR3 := hR.e (h' := h3) (fun y y1 y2 => kh3 y (by omega))
        have hP3 := hP.e (h' := h3) (fun y y1 y2 => kh3 y (by omega))
        have hfr3 : Fr w (w + 5) h0 h3 := ⟨zh3.trans hfr.1, fun y hy => (kh3 y (by omega)).trans (hfr.2 y hy)⟩
        refine z_aload 64 rfl rfl rfl ?_
        refine z_get 67 rfl rfl (by first | exact hw.1 | exact hro | exact hw3.1 | exact hf3a | exact hw3r | exact hR3.1 | exact hw4.1 | exact hR4.1 | fail "lk") rfl ?_
        refine z_get 70 rfl rfl (by first | exact hw.1 | exact hro | exact hw3.1 | exact hf3a | exact hw3r | exact hR3.1 | exact hw4.1 | exact hR4.1 | fail "lk") rfl ?_
        refine z_aload 71 rfl rfl rfl ?_
        refine z_get 74 rfl rfl (by first | exact hw.1 | exact hro | exact hw3.1 | exact hf3a | exact hw3r | exact hR3.1 | exact hw4.1 | exact hR4.1 | fail "lk") rfl ?_
        refine z_get 77 rfl rfl (by first | exact hw.1 | exact hro | exact hw3.1 | exact hf3a | exact hw3r | exact hR3.1 | exact hw4.1 | exact hR4.1 | fail "lk") rfl ?_
        refine z_ald 78 rfl rfl (by first | exact hw.1 | exact hro | exact hw3.1 | exact hf3a | exact hw3r | exact hR3.1 | exact hw4.1 | exact hR4.1 | fail "lk") rfl (by omega) (by omega) ?_
        rw [hf3b]
        refine z_istore 80 rfl rfl rfl rfl ?_
        refine z_aload 81 rfl rfl rfl ?_
        refine z_iload 83 rfl rfl rfl ?_
        refine z_cv1 86 rfl rfl (by first | exact hw.1 | exact hro | exact hw3.1 | exact hf3a | exact hw3r | exact hR3.1 | exact hw4.1 | exact hR4.1 | fail "lk") rfl (Nat.le_refl _) (Nat.le_refl _) ?_
        refine c_put hw3 hP3 hW hG hs hK0 hx1 (by omega) hpw (fun hfn => ?_) (fun y hfy h4 hw4 hF4 => ?_)
        · 
          refine z_zne 89 rfl rfl (by omega) (fun h9 => absurd h9 (by omega)) (fun _ => ?_)
          refine z_aload 90 rfl rfl rfl ?_
          refine z_get 93 rfl rfl (by first | exact hw.1 | exact hro | exact hw3.1 | exact hf3a | exact hw3r | exact hR3.1 | exact hw4.1 | exact hR4.1 | fail "lk") rfl ?_
          refine z_iload 95 rfl rfl rfl ?_
          refine z_aload 96 rfl rfl rfl ?_
          refine z_get 99 rfl rfl (by first | exact hw.1 | exact hro | exact hw3.1 | exact hf3a | exact hw3r | exact hR3.1 | exact hw4.1 | exact hR4.1 | fail "lk") rfl ?_
          refine z_cv2 102 rfl rfl (by first | exact hw.1 | exact hro | exact hw3.1 | exact hf3a | exact hw3r | exact hR3.1 | exact hw4.1 | exact hR4.1 | fail "lk") rfl (Nat.le_refl _) (Nat.le_refl _) ?_
          refine c_pushParts (l := ps.reverse) hR3 hFW (by omega) hw3.2.2 (by decide) (fun f9 hfi => ?_) (by omega) (fun hfi => ?_) (fun f9 hfi h4 hu4 hF4 => ?_)
          · have h9 : fbN F 40 x = sumN (fbN F 39) (fbL F f9) := fbN_s hfi
            have h8 : (fbL F f9).length ≤ sumN (fbN F 39) (fbL F f9) := sumN_len (fun y _ => fbN_pos hFW 39 y)
            rw [List.length_reverse]
            omega
          · 
            refine z_zeq 105 rfl rfl (by omega) (fun _ => ?_) (fun h9 => absurd h9 (by omega))
            refine z_push 110 (nI 0) rfl rfl rfl ?_
            refine z_istore 111 rfl rfl rfl rfl ?_
            refine z_iinc 114 _ rfl rfl rfl rfl (by first | with_reducible exact zi_1 _ | rfl) ?_
            refine z_goto rfl ?_
            refine z_iload 29 rfl rfl rfl ?_
            refine z_zeq 32 rfl rfl (by omega) (fun _ => ?_) (fun h9 => absurd h9 (by omega))
            refine z_iload 118 rfl rfl rfl ?_
            refine z_zeq 121 rfl rfl (by omega) (fun _ => ?_) (fun h9 => absurd h9 (by omega))
            exact fail h3 st acc _ _ _ hw3 hfr3 (by rw [hspl, spl, hfn]; simp only [hfi])
          · have hR4 := hR3.e (hF4.eqv (by omega))
            have hP4 := hP3.e (hF4.eqv (by omega))
            rw [← List.reverse_append] at hu4
            have hw4 : WrAt h4 w R p rule st acc (fbL F f9 ++ ps).reverse := ⟨(hF4.2 w (by omega)).trans hw3.1, hw3.2.1.e (hF4.eqv (by omega)), hu4⟩
            have hN9 : fbN F 40 x = sumN (fbN F 40) (fbL F f9) := by
              rw [fbN_s (n := 39) hfi]
              exact sumN_congr (fun y hy => (fbN_fuel 39 40 y (Fdp_step hxd hfi y hy) (by decide)).symm)
            have hD9 : ndF F K E 40 x = 1 + sumN (ndF F K E 40) (fbL F f9) := by
              rw [show ndF F K E 40 x = 1 + sumN (ndF F K E 39) (fbL F f9) from by rw [ndF]; simp only [hfn, hfi]; rfl, sumN_congr (fun y hy => (nd_fuel 39 40 y (Fdp_step hxd hfi y hy) (by decide)).symm)]
            refine z_zeq 105 rfl rfl (by omega) (fun h9 => absurd h9 (by omega)) (fun _ => ?_)
            refine z_push 106 (nI 1) rfl rfl rfl ?_
            refine z_goto rfl ?_
            refine z_istore 111 rfl rfl rfl rfl ?_
            refine z_iinc 114 _ rfl rfl rfl rfl (by first | with_reducible exact zi_1 _ | rfl) ?_
            refine z_goto rfl ?_
            refine ih (fbL F f9 ++ ps) st acc (i + 1) h4 _ (by rw [sumN_app]; omega) (by rw [sumN_app]; omega) (by rw [sumN_app]; omega) (by rw [sumN_app]; omega) (fun y hy => ?_) hs hK0 hw4 hR4 hP4 ⟨hF4.1.trans hfr3.1, fun x hx => (hF4.2 x (by omega)).trans (hfr3.2 x hx)⟩ ?_
            · rcases List.mem_append.mp hy with h9 | h9
              · exact ⟨nPt_lt ((hFW f9 (fbI_b hfi)).2.2.2 y h9), Fdp_up (Fdp_step hxd hfi y h9)⟩
              · exact hmt y h9
            · rw [hspl, spl, hfn]
              simp only [hfi]
        · have hR4 := hR3.e (hF4.eqv (by omega))
          have hP4 := hP3.e (hF4.eqv (by omega))
          have hp6 := pb_len6 hP3 hW hG hs hK0 hx1 hfy
          refine z_zne 89 rfl rfl (by omega) (fun _ => ?_) (fun h9 => absurd h9 (by omega))
          refine z_push 106 (nI 1) rfl rfl rfl ?_
          refine z_goto rfl ?_
          refine z_istore 111 rfl rfl rfl rfl ?_
          refine z_iinc 114 _ rfl rfl rfl rfl (by first | with_reducible exact zi_1 _ | rfl) ?_
          refine z_goto rfl ?_
          refine ih ps _ _ (i + 1) h4 _ (by omega) (by omega) (by omega) ?_ hmt (pb_ok hG hs hfy).2 (pb_k0 hK0) hw4 hR4 hP4 ⟨hF4.1.trans hfr3.1, fun x hx => (hF4.2 x (by omega)).trans (hfr3.2 x hx)⟩ ?_
          · rw [List.length_append]; omega
          · rw [hspl, spl, hfy]
  refine z_in [some (.ref w), some (.int (nI pt)), none, none, none, none] (by rfl) rfl rfl rfl ?_
  refine z_aload 1 rfl rfl rfl ?_
  refine z_get 4 rfl rfl (by first | exact hw.1 | exact hw.2.2.1 | exact hR.1 | exact hw1.1 | exact hR1.1 | fail "lk") rfl ?_
  refine z_istore 5 rfl rfl rfl rfl ?_
  refine z_aload 6 rfl rfl rfl ?_
  refine z_get 9 rfl rfl (by first | exact hw.1 | exact hw.2.2.1 | exact hR.1 | exact hw1.1 | exact hR1.1 | fail "lk") rfl ?_
  refine z_cv0 12 rfl rfl (by first | exact hw.1 | exact hw.2.2.1 | exact hR.1 | exact hw1.1 | exact hR1.1 | fail "lk") rfl (Nat.le_refl _) (Nat.le_refl _) ?_
  refine w_clear hw.2.2 (fun h1 hu1 hF1 => ?_)
  have hw1 : WrAt h1 w R p rule st0 [] [] := ⟨(hF1.2 w (by omega)).trans hw.1, hw.2.1.e (hF1.eqv (by omega)), hu1⟩
  have hR1 := hR.e (hF1.eqv (by omega))
  have hP1 := hP.e (hF1.eqv (by omega))
  have hfr1 : Fr w (w + 5) h0 h1 := ⟨hF1.1, fun x hx => hF1.2 x (by omega)⟩
  refine z_aload 13 rfl rfl rfl ?_
  refine z_get 16 rfl rfl (by first | exact hw.1 | exact hw.2.2.1 | exact hR.1 | exact hw1.1 | exact hR1.1 | fail "lk") rfl ?_
  refine z_iload 17 rfl rfl rfl ?_
  refine z_aload 18 rfl rfl rfl ?_
  refine z_get 21 rfl rfl (by first | exact hw.1 | exact hw.2.2.1 | exact hR.1 | exact hw1.1 | exact hR1.1 | fail "lk") rfl ?_
  refine z_cv2 24 rfl rfl (by first | exact hw.1 | exact hw.2.2.1 | exact hR.1 | exact hw1.1 | exact hR1.1 | fail "lk") rfl (Nat.le_refl _) (Nat.le_refl _) ?_
  refine c_pushParts (l := []) hR1 hFW (by omega) hw1.2.2 (by decide) (fun f9 hfi => ?_) (by omega) (fun hfi => ?_) (fun f9 hfi h4 hu4 hF4 => ?_)
  · have h9 := (hFW f9 (fbI_b hfi)).2.2.1
    show 0 + _ ≤ 20
    omega
  · 
    refine z_istore 25 rfl rfl rfl rfl ?_
    refine z_push 26 (nI 0) rfl rfl rfl ?_
    refine z_istore 28 rfl rfl rfl rfl ?_
    refine z_iload 29 rfl rfl rfl ?_
    refine z_zeq 32 rfl rfl (by omega) (fun _ => ?_) (fun h9 => absurd h9 (by omega))
    refine z_iload 118 rfl rfl rfl ?_
    refine z_zeq 121 rfl rfl (by omega) (fun _ => ?_) (fun h9 => absurd h9 (by omega))
    exact fail h1 st0 [] [] _ _ hw1 hfr1 (by rw [hSP, hfi])
  · 
    refine z_istore 25 rfl rfl rfl rfl ?_
    refine z_push 26 (nI 0) rfl rfl rfl ?_
    refine z_istore 28 rfl rfl rfl rfl ?_
    have hw4 : WrAt h4 w R p rule st0 [] (fbL F f9).reverse := ⟨(hF4.2 w (by omega)).trans hw1.1, hw1.2.1.e (hF4.eqv (by omega)), hu4⟩
    have hD := Fdp_step (hFd pt) hfi
    have h16 : sumN (fbN F 40) (fbL F f9) ≤ 16 := by
      have h9 := hFN pt
      rw [fbN_s (n := 39) hfi] at h9
      rw [sumN_congr (fun y hy => fbN_fuel 39 40 y (hD y hy) (by decide))]
      exact h9
    have hnd : sumN (ndF F K E 40) (fbL F f9) ≤ 41 * sumN (fbN F 40) (fbL F f9) := sumN_le (fun y _ => nd_le hFW 40 y)
    exact loop 1001 (fbL F f9) st0 [] 0 h4 _ (by omega) (by omega) h16 (by show 0 + _ ≤ 96; omega) (fun y hy => ⟨nPt_lt ((hFW f9 (fbI_b hfi)).2.2.2 y hy), Fdp_up (hD y hy)⟩) hs hK0 hw4 (hR1.e (hF4.eqv (by omega))) (hP1.e (hF4.eqv (by omega))) ⟨hF4.1.trans hfr1.1, fun x hx => (hF4.2 x (by omega)).trans (hfr1.2 x hx)⟩ (by rw [hSP, hfi])
