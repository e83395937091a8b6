/-! the class: Writer.write -/
theorem nI_ne1 {a : Nat} (h : a < 2 ^ 31) : ¬ nI a = -1 := fun e => by
  have h1 := congrArg Int32.toInt e
  rw [nI_toInt h, show (-1 : Int32).toInt = -1 from by decide] at h1
  omega
theorem spl_fa {F : List Fb} {K pt st : Nat} {E : List En} {H : List Sh} (hFd : ∀ x, Fdp F 40 x) (hFW : FbW F) (hFN : ∀ x, fbN F 40 x ≤ 16) (hn : fnd K E pt = none) : (match fbI F pt with | none => none | some f => spl F K E H 1001 (fbL F f) st []) = if flS F K E 40 pt = true then some (fa F K E H 40 pt st) else none := by
  rcases hf : fbI F pt with _ | f
  · rw [if_neg (by simp [flS, hn, hf])]
  · have hD := Fdp_step (hFd pt) hf
    have h16 : sumN (fbN F 40) (fbL F f) ≤ 16 := by
      have h9 := hFN pt
      rw [fbN_s (n := 39) hf] at h9
      rw [sumN_congr (fun y hy => fbN_fuel 39 40 y (hD y hy) (by decide))]
      exact h9
    have hnd : sumN (ndF F K E 40) (fbL F f) ≤ 41 * sumN (fbN F 40) (fbL F f) := sumN_le (fun y _ => nd_le hFW 40 y)
    have e2 : flS F K E 40 pt = (fbL F f).all (flS F K E 40) := by
      rw [show flS F K E 40 pt = (fbL F f).all (flS F K E 39) from by rw [flS]; simp only [hn, hf]; rfl]
      rw [Bool.eq_iff_iff, List.all_eq_true, List.all_eq_true]
      exact ⟨fun h9 y hy => by rw [fls_fuel 39 40 y (hD y hy) (by decide)]; exact h9 y hy, fun h9 y hy => by rw [← fls_fuel 39 40 y (hD y hy) (by decide)]; exact h9 y hy⟩
    have e3 : fa F K E H 40 pt st = faL (fa F K E H 40) (fbL F f) st := by
      rw [fa_s (n := 39) hn hf]
      exact faL_congr st (fun y hy st => (fa_fuel 39 40 y (hD y hy) (by decide) st).symm)
    show spl F K E H 1001 (fbL F f) st [] = _
    rw [spl_ok 1001 (fbL F f) st [] (fun y hy => Fdp_up (hD y hy)) (by omega), e2, e3, List.nil_append]
set_option maxRecDepth 100000 in
theorem c_write {d : Nat} {h : mH} {w R p rule st K rs ws : Nat} {l u : List Nat} {E : List En} {H : List Sh} {F : List Fb} {pt : Nat} {ux : Int32} {Q : mP} (hw : WrAt h w R p rule st l u) (hR : RuAt h R rs ws F) (hP : PgC h p K E H) (hW : TbW E H) (hG : Gd K E H) (hs : SOk K H st) (hK0 : K ≠ 0 → st = 0) (hFW : FbW F) (hFd : ∀ x, Fdp F 40 x) (hFN : ∀ x, fbN F 40 x ≤ 16) (hws : ws < 1114112) (hru : rule < 5) (hpw : p + 20 ≤ w ∨ w + 5 ≤ p) (hRw : R + 5 ≤ w ∨ w + 5 ≤ R) (hpt : pt < 1114112)  (q0 : wp1 F K E H rule ws pt st = none → ∀ h' u', WrAt h' w R p rule st [] u' → Fr w (w + 5) h h' → Q (some (.int (nI 0))) h') (q1 : ∀ y, wp1 F K E H rule ws pt st = some y → ∀ h' u', WrAt h' w R p rule y.2 y.1 u' → Fr w (w + 5) h h' → Q (some (.int (nI 1))) h') : mWP (d + 7) 102 [.ref w, .int (nI pt), .int ux] h Q := by
  refine z_in [some (.ref w), some (.int (nI pt)), some (.int ux)] (by rfl) rfl rfl rfl ?_
  refine z_aload 1 rfl rfl rfl ?_
  refine z_get 4 rfl rfl (by first | exact hw.1 | exact hw.2.1.1 | exact hw1.1 | exact hR1.1 | exact hw1.2.1.1 | fail "lk") rfl ?_
  refine z_cv0 7 rfl rfl (by first | exact hw.1 | exact hw.2.1.1 | exact hw1.1 | exact hR1.1 | exact hw1.2.1.1 | fail "lk") rfl (Nat.le_refl _) (Nat.le_refl _) ?_
  refine w_clear hw.2.1 (fun h1 hb1 hF1 => ?_)
  have hw1 : WrAt h1 w R p rule st [] u := ⟨(hF1.2 w (by omega)).trans hw.1, hb1, hw.2.2.e (hF1.eqv (by omega))⟩
  have hR1 := hR.e (hF1.eqv (by omega))
  have hP1 := hP.e (hF1.eqv (by omega))
  have hfr1 : Fr w (w + 5) h h1 := ⟨hF1.1, fun x hx => hF1.2 x (by omega)⟩
  have hrl : (nI rule).toInt = rule := nI_toInt (by omega)
  refine z_iload 8 rfl rfl rfl ?_
  refine z_push 9 (-1) rfl rfl rfl ?_
  refine z_ceq 12 rfl rfl (fun h9 => absurd h9 (nI_ne1 (by omega))) (fun _ => ?_)
  refine z_aload 13 rfl rfl rfl ?_
  refine z_iload 14 rfl rfl rfl ?_
  refine z_cv1 17 rfl rfl (by first | exact hw.1 | exact hw.2.1.1 | exact hw1.1 | exact hR1.1 | exact hw1.2.1.1 | fail "lk") rfl (Nat.le_refl _) (Nat.le_refl _) ?_
  refine c_put hw1 hP1 hW hG hs hK0 hpt (by decide) hpw (fun hfn => ?_) (fun y hfn h2 hw2 hF2 => ?_)
  · 
    refine z_zeq 20 rfl rfl (by omega) (fun _ => ?_) (fun h9 => absurd h9 (by omega))
    refine z_aload 23 rfl rfl rfl ?_
    refine z_get 26 rfl rfl (by first | exact hw.1 | exact hw.2.1.1 | exact hw1.1 | exact hR1.1 | exact hw1.2.1.1 | fail "lk") rfl ?_
    by_cases hsw : (1 : Int) ≤ ((nI rule)).toInt ∧ ((nI rule)).toInt < 5
    · obtain ⟨j9, hj9, hx9⟩ : ∃ j9 : Nat, j9 < 4 ∧ ((nI rule)).toInt = 1 + (j9 : Int) := ⟨(((nI rule)).toInt - 1).toNat, by omega, by omega⟩
      have h9 : j9 = 0 ∨ j9 = 1 ∨ j9 = 2 ∨ j9 = 3 := by omega
      rcases h9 with rfl | rfl | rfl | rfl
      · refine z_swIn 56 rfl 0 (by omega) rfl ?_
        refine z_aload 57 rfl rfl rfl ?_
        refine z_aload 58 rfl rfl rfl ?_
        refine z_get 61 rfl rfl (by first | exact hw.1 | exact hw.2.1.1 | exact hw1.1 | exact hR1.1 | exact hw1.2.1.1 | fail "lk") rfl ?_
        refine z_get 64 rfl rfl (by first | exact hw.1 | exact hw.2.1.1 | exact hw1.1 | exact hR1.1 | exact hw1.2.1.1 | fail "lk") rfl ?_
        refine z_cv1 67 rfl rfl (by first | exact hw.1 | exact hw.2.1.1 | exact hw1.1 | exact hR1.1 | exact hw1.2.1.1 | fail "lk") rfl (Nat.le_refl _) (Nat.le_refl _) ?_
        refine c_put hw1 hP1 hW hG hs hK0 hws (by decide) hpw (fun hf2 => ?_) (fun y2 hf2 h2 hw2 hF2 => ?_)
        · 
          refine z_pop 68 rfl rfl ?_
          refine z_push 69 (nI 1) rfl rfl rfl ?_
          refine z_iretb rfl (Nat.le_refl _) (Nat.le_refl _) (by first | decide | exact bI_01 _) ?_
          have hr1 : rule = 1 := by omega
          exact q1 ([], st) (by rw [wp1, hfn]; simp only []; rw [if_pos hr1]; rw [sgW, hf2]) h1 u hw1 hfr1
        · 
          refine z_pop 68 rfl rfl ?_
          refine z_push 69 (nI 1) rfl rfl rfl ?_
          refine z_iretb rfl (Nat.le_refl _) (Nat.le_refl _) (by first | decide | exact bI_01 _) ?_
          have hr1 : rule = 1 := by omega
          exact q1 (pbW K H st y2.1 y2.2.1 y2.2.2) (by rw [wp1, hfn]; simp only []; rw [if_pos hr1]; rw [sgW, hf2]) h2 u (by have h9 := hw2; rw [List.nil_append] at h9; exact h9) ⟨hF2.1.trans hfr1.1, fun x hx => (hF2.2 x (by omega)).trans (hfr1.2 x hx)⟩
      · refine z_swIn 70 rfl 1 (by omega) rfl ?_
        refine z_push 71 (nI 1) rfl rfl rfl ?_
        refine z_iretb rfl (Nat.le_refl _) (Nat.le_refl _) (by first | decide | exact bI_01 _) ?_
        have hr1 : rule = 2 := by omega
        exact q1 ([], st) (by rw [wp1, hfn]; simp only []; rw [if_neg (by omega), if_pos hr1]) h1 u hw1 hfr1
      · refine z_swIn 72 rfl 2 (by omega) rfl ?_
        refine z_iload 73 rfl rfl rfl ?_
        refine z_push 74 (-1) rfl rfl rfl ?_
        refine z_cne 77 rfl rfl (fun _ => ?_) (fun h9 => absurd h9 (nI_ne1 (by omega)))
        refine z_push 108 (nI 0) rfl rfl rfl ?_
        refine z_iretb rfl (Nat.le_refl _) (Nat.le_refl _) (by first | decide | exact bI_01 _) ?_
        have hr1 : rule = 3 := by omega
        exact q0 (by rw [wp1, hfn]; simp only []; rw [if_neg (by omega), if_neg (by omega), if_neg (by omega)]) h1 u hw1 hfr1
      · refine z_swIn 109 rfl 3 (by omega) rfl ?_
        refine z_iload 110 rfl rfl rfl ?_
        refine z_push 111 (-1) rfl rfl rfl ?_
        refine z_ceq 114 rfl rfl (fun h9 => absurd h9 (nI_ne1 (by omega))) (fun _ => ?_)
        refine z_aload 115 rfl rfl rfl ?_
        refine z_iload 116 rfl rfl rfl ?_
        refine z_cv1 119 rfl rfl (by first | exact hw.1 | exact hw.2.1.1 | exact hw1.1 | exact hR1.1 | exact hw1.2.1.1 | fail "lk") rfl (Nat.le_refl _) (Nat.le_refl _) ?_
        refine c_spell hw1 hR1 hP1 hW hG hs hK0 hFW hFd hFN hpt hpw hRw (fun hsp h2 u2 hw2 hF2 => ?_) (fun y hsp h2 u2 hw2 hF2 => ?_)
        · 
          refine z_zeq 122 rfl rfl (by omega) (fun _ => ?_) (fun h9 => absurd h9 (by omega))
          refine z_push 127 (nI 0) rfl rfl rfl ?_
          refine z_iretb rfl (Nat.le_refl _) (Nat.le_refl _) (by first | decide | exact bI_01 _) ?_
          have hr1 : rule = 4 := by omega
          replace hsp := (spl_fa (H := H) (st := st) hFd hFW hFN hfn).symm.trans hsp
          have h9 : ¬ flS F K E 40 pt = true := fun h8 => by rw [if_pos h8] at hsp; cases hsp
          exact q0 (by rw [wp1, hfn]; simp only []; rw [if_neg (by omega), if_neg (by omega), if_neg (fun h8 => h9 h8.2)]) h2 u2 hw2 ⟨hF2.1.trans hfr1.1, fun x hx => (hF2.2 x (by omega)).trans (hfr1.2 x hx)⟩
        · 
          refine z_zeq 122 rfl rfl (by omega) (fun h9 => absurd h9 (by omega)) (fun _ => ?_)
          refine z_push 123 (nI 1) rfl rfl rfl ?_
          refine z_goto rfl ?_
          refine z_iretb rfl (Nat.le_refl _) (Nat.le_refl _) (by first | decide | exact bI_01 _) ?_
          have hr1 : rule = 4 := by omega
          replace hsp := (spl_fa (H := H) (st := st) hFd hFW hFN hfn).symm.trans hsp
          have h9 : flS F K E 40 pt = true := by
            by_cases h8 : flS F K E 40 pt = true
            · exact h8
            · rw [if_neg h8] at hsp; cases hsp
          rw [if_pos h9] at hsp
          exact q1 y (by rw [wp1, hfn]; simp only []; rw [if_neg (by omega), if_neg (by omega), if_pos ⟨hr1, h9⟩]; exact hsp) h2 u2 hw2 ⟨hF2.1.trans hfr1.1, fun x hx => (hF2.2 x (by omega)).trans (hfr1.2 x hx)⟩
    · refine z_swOut rfl (by simp only [List.length]; omega) ?_
      refine z_push 129 (nI 0) rfl rfl rfl ?_
      refine z_iretb rfl (Nat.le_refl _) (Nat.le_refl _) (by first | decide | exact bI_01 _) ?_
      have hr1 : rule = 0 := by omega
      exact q0 (by rw [wp1, hfn]; simp only []; rw [if_neg (by omega), if_neg (by omega), if_neg (by omega)]) h1 u hw1 hfr1
  · 
    refine z_zeq 20 rfl rfl (by omega) (fun h9 => absurd h9 (by omega)) (fun _ => ?_)
    refine z_push 21 (nI 1) rfl rfl rfl ?_
    refine z_iretb rfl (Nat.le_refl _) (Nat.le_refl _) (by first | decide | exact bI_01 _) ?_
    exact q1 (pbW K H st y.1 y.2.1 y.2.2) (by rw [wp1, hfn]) h2 u (by have h9 := hw2; rw [List.nil_append] at h9; exact h9) ⟨hF2.1.trans hfr1.1, fun x hx => (hF2.2 x (by omega)).trans (hfr1.2 x hx)⟩
set_option maxRecDepth 100000 in
theorem c_writeL {d : Nat} {h : mH} {w R p rule st K rs ws : Nat} {l u : List Nat} {E : List En} {H : List Sh} {F : List Fb} {x : Nat} {Q : mP} (hw : WrAt h w R p rule st l u) (hR : RuAt h R rs ws F) (hP : PgC h p K E H) (hW : TbW E H) (hG : Gd K E H) (hs : SOk K H st) (hK0 : K ≠ 0 → st = 0) (hFW : FbW F) (hFd : ∀ x, Fdp F 40 x) (hFN : ∀ x, fbN F 40 x ≤ 16) (hws : ws < 1114112) (hru : rule < 5) (hpw : p + 20 ≤ w ∨ w + 5 ≤ p) (hRw : R + 5 ≤ w ∨ w + 5 ≤ R) (hx : x < 65536)  (q0 : wl1 K E H rule ws x st = none → ∀ h' u', WrAt h' w R p rule st [] u' → Fr w (w + 5) h h' → Q (some (.int (nI 0))) h') (q1 : ∀ y, wl1 K E H rule ws x st = some y → ∀ h' u', WrAt h' w R p rule y.2 y.1 u' → Fr w (w + 5) h h' → Q (some (.int (nI 1))) h') : mWP (d + 7) 102 [.ref w, .int (-1), .int (nI x)] h Q := by
  refine z_in [some (.ref w), some (.int (-1)), some (.int (nI x))] (by rfl) rfl rfl rfl ?_
  refine z_aload 1 rfl rfl rfl ?_
  refine z_get 4 rfl rfl (by first | exact hw.1 | exact hw.2.1.1 | exact hw1.1 | exact hR1.1 | exact hw1.2.1.1 | fail "lk") rfl ?_
  refine z_cv0 7 rfl rfl (by first | exact hw.1 | exact hw.2.1.1 | exact hw1.1 | exact hR1.1 | exact hw1.2.1.1 | fail "lk") rfl (Nat.le_refl _) (Nat.le_refl _) ?_
  refine w_clear hw.2.1 (fun h1 hb1 hF1 => ?_)
  have hw1 : WrAt h1 w R p rule st [] u := ⟨(hF1.2 w (by omega)).trans hw.1, hb1, hw.2.2.e (hF1.eqv (by omega))⟩
  have hR1 := hR.e (hF1.eqv (by omega))
  have hP1 := hP.e (hF1.eqv (by omega))
  have hfr1 : Fr w (w + 5) h h1 := ⟨hF1.1, fun x hx => hF1.2 x (by omega)⟩
  have hrl : (nI rule).toInt = rule := nI_toInt (by omega)
  refine z_iload 8 rfl rfl rfl ?_
  refine z_push 9 (-1) rfl rfl rfl ?_
  refine z_ceq 12 rfl rfl (fun _ => ?_) (fun h9 => absurd h9 (by decide))
  refine z_aload 23 rfl rfl rfl ?_
  refine z_get 26 rfl rfl (by first | exact hw.1 | exact hw.2.1.1 | exact hw1.1 | exact hR1.1 | exact hw1.2.1.1 | fail "lk") rfl ?_
  by_cases hsw : (1 : Int) ≤ ((nI rule)).toInt ∧ ((nI rule)).toInt < 5
  · obtain ⟨j9, hj9, hx9⟩ : ∃ j9 : Nat, j9 < 4 ∧ ((nI rule)).toInt = 1 + (j9 : Int) := ⟨(((nI rule)).toInt - 1).toNat, by omega, by omega⟩
    have h9 : j9 = 0 ∨ j9 = 1 ∨ j9 = 2 ∨ j9 = 3 := by omega
    rcases h9 with rfl | rfl | rfl | rfl
    · refine z_swIn 56 rfl 0 (by omega) rfl ?_
      refine z_aload 57 rfl rfl rfl ?_
      refine z_aload 58 rfl rfl rfl ?_
      refine z_get 61 rfl rfl (by first | exact hw.1 | exact hw.2.1.1 | exact hw1.1 | exact hR1.1 | exact hw1.2.1.1 | fail "lk") rfl ?_
      refine z_get 64 rfl rfl (by first | exact hw.1 | exact hw.2.1.1 | exact hw1.1 | exact hR1.1 | exact hw1.2.1.1 | fail "lk") rfl ?_
      refine z_cv1 67 rfl rfl (by first | exact hw.1 | exact hw.2.1.1 | exact hw1.1 | exact hR1.1 | exact hw1.2.1.1 | fail "lk") rfl (Nat.le_refl _) (Nat.le_refl _) ?_
      refine c_put hw1 hP1 hW hG hs hK0 hws (by decide) hpw (fun hf2 => ?_) (fun y2 hf2 h2 hw2 hF2 => ?_)
      · 
        refine z_pop 68 rfl rfl ?_
        refine z_push 69 (nI 1) rfl rfl rfl ?_
        refine z_iretb rfl (Nat.le_refl _) (Nat.le_refl _) (by first | decide | exact bI_01 _) ?_
        have hr1 : rule = 1 := by omega
        exact q1 ([], st) (by rw [wl1, if_pos hr1]; rw [sgW, hf2]) h1 u hw1 hfr1
      · 
        refine z_pop 68 rfl rfl ?_
        refine z_push 69 (nI 1) rfl rfl rfl ?_
        refine z_iretb rfl (Nat.le_refl _) (Nat.le_refl _) (by first | decide | exact bI_01 _) ?_
        have hr1 : rule = 1 := by omega
        exact q1 (pbW K H st y2.1 y2.2.1 y2.2.2) (by rw [wl1, if_pos hr1]; rw [sgW, hf2]) h2 u (by have h9 := hw2; rw [List.nil_append] at h9; exact h9) ⟨hF2.1.trans hfr1.1, fun x hx => (hF2.2 x (by omega)).trans (hfr1.2 x hx)⟩
    · refine z_swIn 70 rfl 1 (by omega) rfl ?_
      refine z_push 71 (nI 1) rfl rfl rfl ?_
      refine z_iretb rfl (Nat.le_refl _) (Nat.le_refl _) (by first | decide | exact bI_01 _) ?_
      have hr1 : rule = 2 := by omega
      exact q1 ([], st) (by rw [wl1, if_neg (by omega), if_pos hr1]) h1 u hw1 hfr1
    · refine z_swIn 72 rfl 2 (by omega) rfl ?_
      refine z_iload 73 rfl rfl rfl ?_
      refine z_push 74 (-1) rfl rfl rfl ?_
      refine z_cne 77 rfl rfl (fun h9 => absurd h9 (by decide)) (fun _ => ?_)
      refine z_iload 78 rfl rfl rfl ?_
      refine z_push 80 (nI 56320) rfl rfl rfl ?_
      refine z_nlt 83 rfl rfl (by omega) (by omega) (fun hc80 => ?_) (fun hc80 => ?_)
      · refine z_push 108 (nI 0) rfl rfl rfl ?_
        refine z_iretb rfl (Nat.le_refl _) (Nat.le_refl _) (by first | decide | exact bI_01 _) ?_
        have hr1 : rule = 3 := by omega
        exact q0 (by rw [wl1, if_neg (by omega), if_neg (by omega), if_neg (by omega)]) h1 u hw1 hfr1
      · refine z_iload 84 rfl rfl rfl ?_
        refine z_push 86 (nI 56575) rfl rfl rfl ?_
        refine z_ngt 89 rfl rfl (by omega) (by omega) (fun hc86 => ?_) (fun hc86 => ?_)
        · refine z_push 108 (nI 0) rfl rfl rfl ?_
          refine z_iretb rfl (Nat.le_refl _) (Nat.le_refl _) (by first | decide | exact bI_01 _) ?_
          have hr1 : rule = 3 := by omega
          exact q0 (by rw [wl1, if_neg (by omega), if_neg (by omega), if_neg (by omega)]) h1 u hw1 hfr1
        · refine z_aload 90 rfl rfl rfl ?_
          refine z_get 93 rfl rfl (by first | exact hw.1 | exact hw.2.1.1 | exact hw1.1 | exact hR1.1 | exact hw1.2.1.1 | fail "lk") rfl ?_
          refine z_iload 94 rfl rfl rfl ?_
          refine z_push 96 (nI 56320) rfl rfl rfl ?_
          refine z_bop 97 _ rfl rfl (by first | with_reducible exact zb_1 (by omega) | exact zd_1 _ _) ?_
          refine z_cv1 100 rfl rfl (by first | exact hw.1 | exact hw.2.1.1 | exact hw1.1 | exact hR1.1 | exact hw1.2.1.1 | fail "lk") rfl (Nat.le_refl _) (Nat.le_refl _) ?_
          refine w_addN hw1.2.1 (by decide) (by decide) (fun h2 hb2 hF2 => ?_)
          · 
            refine z_zeq 103 rfl rfl (by omega) (fun h9 => absurd h9 (by omega)) (fun _ => ?_)
            refine z_push 104 (nI 1) rfl rfl rfl ?_
            refine z_goto rfl ?_
            refine z_iretb rfl (Nat.le_refl _) (Nat.le_refl _) (by first | decide | exact bI_01 _) ?_
            have hr1 : rule = 3 := by omega
            exact q1 ([x - 56320], st) (by rw [wl1, if_neg (by omega), if_neg (by omega), if_pos ⟨hr1, by omega⟩]) h2 u ⟨(hF2.2 w (by omega)).trans hw1.1, hb2, hw1.2.2.e (hF2.eqv (by omega))⟩ ⟨hF2.1.trans hfr1.1, fun x hx => (hF2.2 x (by omega)).trans (hfr1.2 x hx)⟩
    · refine z_swIn 109 rfl 3 (by omega) rfl ?_
      refine z_iload 110 rfl rfl rfl ?_
      refine z_push 111 (-1) rfl rfl rfl ?_
      refine z_ceq 114 rfl rfl (fun _ => ?_) (fun h9 => absurd h9 (by decide))
      refine z_push 127 (nI 0) rfl rfl rfl ?_
      refine z_iretb rfl (Nat.le_refl _) (Nat.le_refl _) (by first | decide | exact bI_01 _) ?_
      have hr1 : rule = 4 := by omega
      exact q0 (by rw [wl1, if_neg (by omega), if_neg (by omega), if_neg (by omega)]) h1 u hw1 hfr1
  · refine z_swOut rfl (by simp only [List.length]; omega) ?_
    refine z_push 129 (nI 0) rfl rfl rfl ?_
    refine z_iretb rfl (Nat.le_refl _) (Nat.le_refl _) (by first | decide | exact bI_01 _) ?_
    have hr1 : rule = 0 := by omega
    exact q0 (by rw [wl1, if_neg (by omega), if_neg (by omega), if_neg (by omega)]) h1 u hw1 hfr1
