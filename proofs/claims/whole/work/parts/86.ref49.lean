set_option maxRecDepth 100000 in
theorem r_fbFN {d r : Nat} {h h0 : mH} {s X : rS} {A : Ab} {pt to n' wm a : Nat} {ps : List Nat} {F' : List Fb} {o8 : Option Value} {Q : mP} (hI : RInv s A) (hR : Rf r h0 X h) (hIn : InsT s X pt to n' ps) (hF : RFb X F') (hW' : FbW F') (hU' : FbU F') (hp : ps.length ≤ 4) (hnl : F'.length = n') (hto : to = A.fbs.length) (hn2 : n' = to + 1) (q0 : okD F' = true → okL F' = true → ∀ h' s', Rf r h0 s' h' → RInv s' ((A.wFbs F').wUns []) → Q (some (.int (nI n'))) h') (q1 : okD F' = false → ∀ h' s', Rf r h0 s' h' → RInv s' A.tell → Q (some (.int (-11))) h') (q2 : okD F' = true → okL F' = false → ∀ h' s', Rf r h0 s' h' → RInv s' A.tell → Q (some (.int (-12))) h') : mZ (d + 41) tk_236 0 0 Q 434 [some (.ref r), some (.int (nI pt)), some (.int (nI ps.length)), some (.int (nI a)), some (.int (-1)), some (.int (nI to)), some (.int (nI wm)), some (.int (nI 0)), o8] [] h 0 0 := by
  have hto := Or.inl (b := to < A.fbs.length ∧ pt = fbP A.fbs to ∧ wm = (fbL A.fbs to).length) hto
  have hl40 : F'.length ≤ 40 := hF.2.1
  have rev : ∀ m9 i x Y h, 4 < i + m9 → i ≤ 4 → x.toInt < 0 → Rf r h0 Y h → RevT s Y pt to A.fbs.length wm i → (∀ h' s', Rf r h0 s' h' → RInv s' A.tell → Q (some (.int x)) h') → mZ (d + 41) tk_236 0 0 Q 578 [some (.ref r), some (.int (nI pt)), some (.int (nI ps.length)), some (.int (nI a)), some (.int (-1)), some (.int (nI to)), some (.int (nI wm)), some (.int x), some (.int (nI i))] [] h 0 0 := by
    intro m9
    induction m9 with
    | zero => intro i x Y h h1 h2; omega
    | succ m9 ih =>
      intro i x Y h h1 h2 hx hR hV q
      have k49 : i < 4 → Y.2.2 49 (10 + i) = s.2.2 28 (4 * to + i) := fun h9 => hV.2.2.2.2.2.2 i h9
      refine z_iload 580 rfl rfl rfl ?_
      refine z_push 581 (nI 4) rfl rfl rfl ?_
      refine z_nge 584 rfl rfl (by omega) (by omega) (fun hc581 => ?_) (fun hc581 => ?_)
      · refine z_aload 613 rfl rfl rfl ?_
        refine z_iload 615 rfl rfl rfl ?_
        refine z_cv1 618 rfl rfl hR.1 rfl (Nat.le_refl _) (Nat.le_refl _) ?_
        refine r_tell hR (fun h9 => absurd h9 (by omega)) (fun _ h hR => ?_)
        refine z_ireti rfl (Nat.le_refl _) (Nat.le_refl _) ?_
        obtain rfl : i = 4 := by omega
        exact q h _ hR (RevT.inv hI hV hto).tell
      · refine z_aload 585 rfl rfl rfl ?_
        refine y_ga 588 hR rfl rfl rfl ?_
        refine z_push 589 (nI 4) rfl rfl rfl ?_
        refine z_iload 591 rfl rfl rfl ?_
        refine z_bop 592 _ rfl rfl (by first | with_reducible exact zb_2 _ _ | exact zd_2 _ _) ?_
        refine z_iload 594 rfl rfl rfl ?_
        refine z_bop 595 _ rfl rfl (by first | with_reducible exact zb_0 _ _ | exact zd_0 _ _) ?_
        refine z_aload 596 rfl rfl rfl ?_
        refine y_ga 599 hR rfl rfl rfl ?_
        refine z_push 601 (nI 10) rfl rfl rfl ?_
        refine z_iload 603 rfl rfl rfl ?_
        refine z_bop 604 _ rfl rfl (by first | with_reducible exact zb_0 _ _ | exact zd_0 _ _) ?_
        refine y_al (f := 49) 605 _ hR rfl rfl rfl rfl (by omega) (by repeat (first | with_reducible exact k49 (by omega) | with_reducible exact gA_eq _ _ _ _ | (with_reducible apply gA_ne; decide) | with_reducible apply gA_I | with_reducible apply gA_O | (with_reducible apply gA_nj; omega) | with_reducible rfl)) ?_
        refine y_as (f := 28) 606 hR rfl rfl rfl rfl (by omega) ?_
        intro h hR
        refine z_iinc 609 _ rfl rfl rfl rfl (by first | with_reducible exact zi_1 _ | rfl) ?_
        refine z_goto rfl ?_
        exact ih (i + 1) x _ h (by omega) (by omega) hx hR hV.st q
  have finx : ∀ x X1 h o8, x.toInt < 0 → Rf r h0 X1 h → InsT s X1 pt to n' ps → (∀ h' s', Rf r h0 s' h' → RInv s' A.tell → Q (some (.int x)) h') → mZ (d + 41) tk_236 0 0 Q 546 [some (.ref r), some (.int (nI pt)), some (.int (nI ps.length)), some (.int (nI a)), some (.int (-1)), some (.int (nI to)), some (.int (nI wm)), some (.int x), o8] [] h 0 0 := by
    intro x X1 h o8 hx hR hIn q
    have k25 : X1.1 25 = n' := hIn.1
    refine z_iload 548 rfl rfl rfl ?_
    refine z_jeq 551 rfl rfl (fun h9 => absurd h9 (by omega)) (fun _ => ?_)
    refine z_iload 553 rfl rfl rfl ?_
    refine z_jge 556 rfl rfl (fun h9 => absurd h9 (by decide)) (fun _ => ?_)
    refine z_aload 557 rfl rfl rfl ?_
    first | refine z_dup 558 rfl rfl ?_ | refine z_dupi 558 rfl rfl ?_
    refine y_gi 561 _ hR rfl rfl rfl rfl rfl (by repeat (first | with_reducible exact gI_eq _ _ _ | (with_reducible apply gI_ne; decide) | with_reducible apply gI_A | with_reducible apply gI_O | with_reducible exact k25 | with_reducible rfl)) ?_
    refine z_push 562 (nI 1) rfl rfl rfl ?_
    refine z_bop 563 _ rfl rfl (by first | with_reducible exact zb_1 (by omega) | exact zd_1 _ _) ?_
    refine y_pi 566 hR rfl rfl rfl rfl rfl (mFi rfl) ?_
    intro h hR
    refine z_aload 567 rfl rfl rfl ?_
    refine y_ga 570 hR rfl rfl rfl ?_
    refine z_iload 572 rfl rfl rfl ?_
    refine z_iload 574 rfl rfl rfl ?_
    refine y_as (f := 27) 575 hR rfl rfl rfl rfl (by omega) ?_
    intro h hR
    refine z_push 576 (nI 0) rfl rfl rfl ?_
    refine z_istore 578 rfl rfl rfl rfl ?_
    exact rev 5 0 x _ h (by omega) (by omega) hx hR (by have h9 := hIn.rev1 (n := n' - 1) (wm := wm) hp; rw [show n' - 1 = A.fbs.length by omega] at h9 ⊢; exact h9) q
  have fin0 : ∀ X1 h o8, okD F' = true → okL F' = true → Rf r h0 X1 h → InsT s X1 pt to n' ps → RFb X1 F' → mZ (d + 41) tk_236 0 0 Q 546 [some (.ref r), some (.int (nI pt)), some (.int (nI ps.length)), some (.int (nI a)), some (.int (-1)), some (.int (nI to)), some (.int (nI wm)), some (.int (nI 0)), o8] [] h 0 0 := by
    intro X1 h o8 e1 e2 hR hIn hF
    have k25 : X1.1 25 = n' := hIn.1
    refine z_iload 548 rfl rfl rfl ?_
    refine z_zeq 551 rfl rfl (by omega) (fun _ => ?_) (fun h9 => absurd h9 (by omega))
    refine z_aload 620 rfl rfl rfl ?_
    refine z_push 621 (nI 0) rfl rfl rfl ?_
    refine y_pi 624 hR rfl rfl rfl rfl rfl (mFi rfl) ?_
    intro h hR
    refine z_aload 625 rfl rfl rfl ?_
    refine y_gi 628 _ hR rfl rfl rfl rfl rfl (by repeat (first | with_reducible exact gI_eq _ _ _ | (with_reducible apply gI_ne; decide) | with_reducible apply gI_A | with_reducible apply gI_O | with_reducible exact k25 | with_reducible rfl)) ?_
    refine z_ireti rfl (Nat.le_refl _) (Nat.le_refl _) ?_
    exact q0 e1 e2 h _ hR (hIn.inv hI hF)
  have lens : ∀ m9 k X1 h, n' < k + m9 → k ≤ n' → okD F' = true → (∀ j, j < k → fbW9 F' j ≤ 16) → Rf r h0 X1 h → InsT s X1 pt to n' ps → RFb X1 F' → KnI F' X1 → mZ (d + 41) tk_236 0 0 Q 503 [some (.ref r), some (.int (nI pt)), some (.int (nI ps.length)), some (.int (nI a)), some (.int (-1)), some (.int (nI to)), some (.int (nI wm)), some (.int (nI 0)), some (.int (nI k))] [] h 0 0 := by
    intro m9
    induction m9 with
    | zero => intro k X1 h h1 h2; omega
    | succ m9 ih =>
      intro k X1 h h1 h2 hok hall hR hIn hF hK
      have k25 : X1.1 25 = n' := hIn.1
      have hcb := c17_b (fbW9 F' k)
      have hcc : c17 (fbW9 F' k) ≤ 16 → fbW9 F' k ≤ 16 := fun h9 => by unfold c17 at h9; split at h9 <;> omega
      have hcd : ¬ c17 (fbW9 F' k) ≤ 16 → ¬ fbW9 F' k ≤ 16 := fun h9 => by unfold c17 at h9; split at h9 <;> omega
      refine z_iload 505 rfl rfl rfl ?_
      refine z_aload 506 rfl rfl rfl ?_
      refine y_gi 509 _ hR rfl rfl rfl rfl rfl (by repeat (first | with_reducible exact gI_eq _ _ _ | (with_reducible apply gI_ne; decide) | with_reducible apply gI_A | with_reducible apply gI_O | with_reducible exact k25 | with_reducible exact j25 | with_reducible rfl)) ?_
      refine z_nge 512 rfl rfl (by omega) (by omega) (fun hc509 => ?_) (fun hc509 => ?_)
      · exact fin0 X1 h _ hok (okL_iff.mpr (fun j hj => hall j (by omega))) hR hIn hF
      · refine z_iload 514 rfl rfl rfl ?_
        refine z_zne 517 rfl rfl (by omega) (fun h9 => absurd h9 (by omega)) (fun _ => ?_)
        refine z_aload 518 rfl rfl rfl ?_
        refine z_iload 520 rfl rfl rfl ?_
        refine z_aload 521 rfl rfl rfl ?_
        refine y_ga 524 hR rfl rfl rfl ?_
        refine z_cv2 527 rfl rfl hR.1 rfl (Nat.le_refl _) (Nat.le_refl _) ?_
        refine r_length hW' 39 (by decide) hR hF (by omega) (Fdp_step (okD_Fdp hok (fbP F' k)) (hU' k (by omega))) hK (fun h X2 hR hO2 hK2 => ?_)
        have hIn2 := hIn.on hO2 (by simp)
        have hF2 := hF.k (hO2.keep (by decide))
        have j25 : X2.1 25 = n' := hIn2.1
        refine z_push 529 (nI 16) rfl rfl rfl ?_
        refine z_nle 532 rfl rfl (by omega) (by omega) (fun hc529 => ?_) (fun hc529 => ?_)
        · refine z_push 538 (nI 0) rfl rfl rfl ?_
          refine z_istore 540 rfl rfl rfl rfl ?_
          refine z_iinc 543 _ rfl rfl rfl rfl (by first | with_reducible exact zi_1 _ | rfl) ?_
          refine z_goto rfl ?_
          exact ih (k + 1) X2 h (by omega) (by omega) hok (lt_s9 hall (hcc hc529)) hR hIn2 hF2 hK2
        · refine z_push 534 (-12) rfl rfl rfl ?_
          refine z_goto rfl ?_
          refine z_istore 540 rfl rfl rfl rfl ?_
          refine z_iinc 543 _ rfl rfl rfl rfl (by first | with_reducible exact zi_1 _ | rfl) ?_
          refine z_goto rfl ?_
          refine z_iload 505 rfl rfl rfl ?_
          refine z_aload 506 rfl rfl rfl ?_
          refine y_gi 509 _ hR rfl rfl rfl rfl rfl (by repeat (first | with_reducible exact gI_eq _ _ _ | (with_reducible apply gI_ne; decide) | with_reducible apply gI_A | with_reducible apply gI_O | with_reducible exact k25 | with_reducible exact j25 | with_reducible rfl)) ?_
          refine z_nge 512 rfl rfl (by omega) (by omega) (fun hc509 => ?_) (fun hc509 => ?_)
          · exact finx (-12) X2 h _ (by decide) hR hIn2 (fun h9 s9 => q2 hok (by rcases e : okL F' with _ | _; (rfl); exact absurd (okL_iff.mp e k (by omega)) (hcd (by omega))) h9 s9)
          · refine z_iload 514 rfl rfl rfl ?_
            refine z_jne 517 rfl rfl (fun _ => ?_) (fun h9 => absurd h9 (by decide))
            exact finx (-12) X2 h _ (by decide) hR hIn2 (fun h9 s9 => q2 hok (by rcases e : okL F' with _ | _; (rfl); exact absurd (okL_iff.mp e k (by omega)) (hcd (by omega))) h9 s9)
  have fill : ∀ m9 k x X1 h, n' < k + m9 → k ≤ n' → Rf r h0 X1 h → InsT s X1 pt to n' ps → RFb X1 F' → (∀ j, j < k → X1.2.2 51 j = 0) → (∀ X2 h, Rf r h0 X2 h → InsT s X2 pt to n' ps → RFb X2 F' → KnI F' X2 → mZ (d + 41) tk_236 0 0 Q 503 [some (.ref r), some (.int (nI pt)), some (.int (nI ps.length)), some (.int (nI a)), some (.int (-1)), some (.int (nI to)), some (.int (nI wm)), some (.int x), some (.int (nI 0))] [] h 0 0) → mZ (d + 41) tk_236 0 0 Q 477 [some (.ref r), some (.int (nI pt)), some (.int (nI ps.length)), some (.int (nI a)), some (.int (-1)), some (.int (nI to)), some (.int (nI wm)), some (.int x), some (.int (nI k))] [] h 0 0 := by
    intro m9
    induction m9 with
    | zero => intro k x X1 h h1 h2; omega
    | succ m9 ih =>
      intro k x X1 h h1 h2 hR hIn hF hz cont
      have k25 : X1.1 25 = n' := hIn.1
      refine z_iload 479 rfl rfl rfl ?_
      refine z_aload 480 rfl rfl rfl ?_
      refine y_gi 483 _ hR rfl rfl rfl rfl rfl (by repeat (first | with_reducible exact gI_eq _ _ _ | (with_reducible apply gI_ne; decide) | with_reducible apply gI_A | with_reducible apply gI_O | with_reducible exact k25 | with_reducible rfl)) ?_
      refine z_nge 486 rfl rfl (by omega) (by omega) (fun hc483 => ?_) (fun hc483 => ?_)
      · refine z_push 501 (nI 0) rfl rfl rfl ?_
        refine z_istore 503 rfl rfl rfl rfl ?_
        exact cont X1 h hR hIn hF (fun j hj => Or.inl (hz j (by omega)))
      · refine z_aload 487 rfl rfl rfl ?_
        refine y_ga 490 hR rfl rfl rfl ?_
        refine z_iload 492 rfl rfl rfl ?_
        refine z_push 493 (nI 0) rfl rfl rfl ?_
        refine y_as (f := 51) 494 hR rfl rfl rfl rfl (by omega) ?_
        intro h hR
        refine z_iinc 497 _ rfl rfl rfl rfl (by first | with_reducible exact zi_1 _ | rfl) ?_
        refine z_goto rfl ?_
        refine ih (k + 1) x _ h (by omega) (by omega) hR (hIn.on (l := [51]) (On.rfl.A (by simp)) (by simp)) (hF.k (Keep.rfl.A rfl)) (fun j hj => ?_) cont
        by_cases e : j = k
        · subst e; exact gA_eq _ _ _ _
        · exact (gA_nj e rfl).trans (hz j (by omega))
  have cyc : ∀ m9 k X1 h, n' < k + m9 → k ≤ n' → (∀ j, j < k → ¬ Cy F' j) → Rf r h0 X1 h → InsT s X1 pt to n' ps → RFb X1 F' → mZ (d + 41) tk_236 0 0 Q 437 [some (.ref r), some (.int (nI pt)), some (.int (nI ps.length)), some (.int (nI a)), some (.int (-1)), some (.int (nI to)), some (.int (nI wm)), some (.int (nI 0)), some (.int (nI k))] [] h 0 0 := by
    intro m9
    induction m9 with
    | zero => intro k X1 h h1 h2; omega
    | succ m9 ih =>
      intro k X1 h h1 h2 hall hR hIn hF
      have k25 : X1.1 25 = n' := hIn.1
      refine z_iload 439 rfl rfl rfl ?_
      refine z_aload 440 rfl rfl rfl ?_
      refine y_gi 443 _ hR rfl rfl rfl rfl rfl (by repeat (first | with_reducible exact gI_eq _ _ _ | (with_reducible apply gI_ne; decide) | with_reducible apply gI_A | with_reducible apply gI_O | with_reducible exact k25 | with_reducible exact j25 | with_reducible rfl)) ?_
      refine z_nge 446 rfl rfl (by omega) (by omega) (fun hc443 => ?_) (fun hc443 => ?_)
      · refine z_push 475 (nI 0) rfl rfl rfl ?_
        refine z_istore 477 rfl rfl rfl rfl ?_
        refine fill (n' + 1) 0 _ X1 h (by omega) (by omega) hR hIn hF (fun j hj => absurd hj (Nat.not_lt_zero j)) (fun X3 h hR hIn3 hF3 hK3 => ?_)
        exact lens (n' + 1) 0 X3 h (by omega) (by omega) ((okD_Cy hU' hl40).mpr (fun j hj => hall j (by omega))) (fun j hj => absurd hj (Nat.not_lt_zero j)) hR hIn3 hF3 hK3
      · refine z_iload 448 rfl rfl rfl ?_
        refine z_zne 451 rfl rfl (by omega) (fun h9 => absurd h9 (by omega)) (fun _ => ?_)
        refine z_aload 452 rfl rfl rfl ?_
        refine z_iload 454 rfl rfl rfl ?_
        refine z_cv1 457 rfl rfl hR.1 rfl (Nat.le_refl _) (Nat.le_refl _) ?_
        refine r_comesBack hR hF hW' (by omega) (fun b h X2 hR hO2 hb => ?_)
        have hIn2 := hIn.on hO2 (by simp)
        have hF2 := hF.k (hO2.keep (by decide))
        have j25 : X2.1 25 = n' := hIn2.1
        first | refine z_beq 460 rfl rfl (fun hc457 => ?_) (fun hc457 => ?_)
        · refine z_push 466 (nI 0) rfl rfl rfl ?_
          refine z_istore 468 rfl rfl rfl rfl ?_
          refine z_iinc 471 _ rfl rfl rfl rfl (by first | with_reducible exact zi_1 _ | rfl) ?_
          refine z_goto rfl ?_
          exact ih (k + 1) X2 h (by omega) (by omega) (lt_s9 hall (fun h9 => by have := hb.mpr h9; rw [hc457] at this; cases this)) hR hIn2 hF2
        · refine z_push 462 (-11) rfl rfl rfl ?_
          refine z_goto rfl ?_
          refine z_istore 468 rfl rfl rfl rfl ?_
          refine z_iinc 471 _ rfl rfl rfl rfl (by first | with_reducible exact zi_1 _ | rfl) ?_
          refine z_goto rfl ?_
          refine z_iload 439 rfl rfl rfl ?_
          refine z_aload 440 rfl rfl rfl ?_
          refine y_gi 443 _ hR rfl rfl rfl rfl rfl (by repeat (first | with_reducible exact gI_eq _ _ _ | (with_reducible apply gI_ne; decide) | with_reducible apply gI_A | with_reducible apply gI_O | with_reducible exact k25 | with_reducible exact j25 | with_reducible rfl)) ?_
          refine z_nge 446 rfl rfl (by omega) (by omega) (fun hc443 => ?_) (fun hc443 => ?_)
          · refine z_push 475 (nI 0) rfl rfl rfl ?_
            refine z_istore 477 rfl rfl rfl rfl ?_
            refine fill (n' + 1) 0 _ X2 h (by omega) (by omega) hR hIn2 hF2 (fun j hj => absurd hj (Nat.not_lt_zero j)) (fun X3 h hR hIn3 hF3 _ => ?_)
            have m25 : X3.1 25 = n' := hIn3.1
            have hnd : okD F' = false := by
              rcases e : okD F' with _ | _
              · rfl
              · exact absurd (hb.mp hc457) ((okD_Cy hU' hl40).mp e k (by omega))
            refine z_iload 505 rfl rfl rfl ?_
            refine z_aload 506 rfl rfl rfl ?_
            refine y_gi 509 _ hR rfl rfl rfl rfl rfl (by repeat (first | with_reducible exact gI_eq _ _ _ | (with_reducible apply gI_ne; decide) | with_reducible apply gI_A | with_reducible apply gI_O | with_reducible exact m25 | with_reducible rfl)) ?_
            refine z_nge 512 rfl rfl (by omega) (by omega) (fun h9 => absurd h9 (by omega)) (fun _ => ?_)
            refine z_iload 514 rfl rfl rfl ?_
            refine z_jne 517 rfl rfl (fun _ => ?_) (fun h9 => absurd h9 (by decide))
            exact finx (-11) X3 h _ (by decide) hR hIn3 (q1 hnd)
          · refine z_iload 448 rfl rfl rfl ?_
            refine z_jne 451 rfl rfl (fun _ => ?_) (fun h9 => absurd h9 (by decide))
            refine z_push 475 (nI 0) rfl rfl rfl ?_
            refine z_istore 477 rfl rfl rfl rfl ?_
            refine fill (n' + 1) 0 _ X2 h (by omega) (by omega) hR hIn2 hF2 (fun j hj => absurd hj (Nat.not_lt_zero j)) (fun X3 h hR hIn3 hF3 _ => ?_)
            have m25 : X3.1 25 = n' := hIn3.1
            have hnd : okD F' = false := by
              rcases e : okD F' with _ | _
              · rfl
              · exact absurd (hb.mp hc457) ((okD_Cy hU' hl40).mp e k (by omega))
            refine z_iload 505 rfl rfl rfl ?_
            refine z_aload 506 rfl rfl rfl ?_
            refine y_gi 509 _ hR rfl rfl rfl rfl rfl (by repeat (first | with_reducible exact gI_eq _ _ _ | (with_reducible apply gI_ne; decide) | with_reducible apply gI_A | with_reducible apply gI_O | with_reducible exact m25 | with_reducible rfl)) ?_
            refine z_nge 512 rfl rfl (by omega) (by omega) (fun h9 => absurd h9 (by omega)) (fun _ => ?_)
            refine z_iload 514 rfl rfl rfl ?_
            refine z_jne 517 rfl rfl (fun _ => ?_) (fun h9 => absurd h9 (by decide))
            exact finx (-11) X3 h _ (by decide) hR hIn3 (q1 hnd)
  refine z_push 435 (nI 0) rfl rfl rfl ?_
  refine z_istore 437 rfl rfl rfl rfl ?_
  exact cyc (n' + 1) 0 X h (by omega) (by omega) (fun j hj => absurd hj (Nat.not_lt_zero j)) hR hIn hF
set_option maxRecDepth 100000 in
theorem r_fbFS {d r : Nat} {h h0 : mH} {s X : rS} {A : Ab} {pt to n' wm a : Nat} {ps : List Nat} {F' : List Fb} {o8 : Option Value} {Q : mP} (hI : RInv s A) (hR : Rf r h0 X h) (hIn : InsT s X pt to n' ps) (hF : RFb X F') (hW' : FbW F') (hU' : FbU F') (hp : ps.length ≤ 4) (hnl : F'.length = n') (hto : to < A.fbs.length ∧ pt = fbP A.fbs to ∧ wm = (fbL A.fbs to).length) (hn2 : n' = A.fbs.length) (q0 : okD F' = true → okL F' = true → ∀ h' s', Rf r h0 s' h' → RInv s' ((A.wFbs F').wUns []) → Q (some (.int (nI n'))) h') (q1 : okD F' = false → ∀ h' s', Rf r h0 s' h' → RInv s' A.tell → Q (some (.int (-11))) h') (q2 : okD F' = true → okL F' = false → ∀ h' s', Rf r h0 s' h' → RInv s' A.tell → Q (some (.int (-12))) h') : mZ (d + 41) tk_236 0 0 Q 434 [some (.ref r), some (.int (nI pt)), some (.int (nI ps.length)), some (.int (nI a)), some (.int (nI to)), some (.int (nI to)), some (.int (nI wm)), some (.int (nI 0)), o8] [] h 0 0 := by
  have hto4 := hto.1
  have hto := Or.inr (a := to = A.fbs.length) hto
  have hl40 : F'.length ≤ 40 := hF.2.1
  have rev : ∀ m9 i x Y h, 4 < i + m9 → i ≤ 4 → x.toInt < 0 → Rf r h0 Y h → RevT s Y pt to A.fbs.length wm i → (∀ h' s', Rf r h0 s' h' → RInv s' A.tell → Q (some (.int x)) h') → mZ (d + 41) tk_236 0 0 Q 578 [some (.ref r), some (.int (nI pt)), some (.int (nI ps.length)), some (.int (nI a)), some (.int (nI to)), some (.int (nI to)), some (.int (nI wm)), some (.int x), some (.int (nI i))] [] h 0 0 := by
    intro m9
    induction m9 with
    | zero => intro i x Y h h1 h2; omega
    | succ m9 ih =>
      intro i x Y h h1 h2 hx hR hV q
      have k49 : i < 4 → Y.2.2 49 (10 + i) = s.2.2 28 (4 * to + i) := fun h9 => hV.2.2.2.2.2.2 i h9
      refine z_iload 580 rfl rfl rfl ?_
      refine z_push 581 (nI 4) rfl rfl rfl ?_
      refine z_nge 584 rfl rfl (by omega) (by omega) (fun hc581 => ?_) (fun hc581 => ?_)
      · refine z_aload 613 rfl rfl rfl ?_
        refine z_iload 615 rfl rfl rfl ?_
        refine z_cv1 618 rfl rfl hR.1 rfl (Nat.le_refl _) (Nat.le_refl _) ?_
        refine r_tell hR (fun h9 => absurd h9 (by omega)) (fun _ h hR => ?_)
        refine z_ireti rfl (Nat.le_refl _) (Nat.le_refl _) ?_
        obtain rfl : i = 4 := by omega
        exact q h _ hR (RevT.inv hI hV hto).tell
      · refine z_aload 585 rfl rfl rfl ?_
        refine y_ga 588 hR rfl rfl rfl ?_
        refine z_push 589 (nI 4) rfl rfl rfl ?_
        refine z_iload 591 rfl rfl rfl ?_
        refine z_bop 592 _ rfl rfl (by first | with_reducible exact zb_2 _ _ | exact zd_2 _ _) ?_
        refine z_iload 594 rfl rfl rfl ?_
        refine z_bop 595 _ rfl rfl (by first | with_reducible exact zb_0 _ _ | exact zd_0 _ _) ?_
        refine z_aload 596 rfl rfl rfl ?_
        refine y_ga 599 hR rfl rfl rfl ?_
        refine z_push 601 (nI 10) rfl rfl rfl ?_
        refine z_iload 603 rfl rfl rfl ?_
        refine z_bop 604 _ rfl rfl (by first | with_reducible exact zb_0 _ _ | exact zd_0 _ _) ?_
        refine y_al (f := 49) 605 _ hR rfl rfl rfl rfl (by omega) (by repeat (first | with_reducible exact k49 (by omega) | with_reducible exact gA_eq _ _ _ _ | (with_reducible apply gA_ne; decide) | with_reducible apply gA_I | with_reducible apply gA_O | (with_reducible apply gA_nj; omega) | with_reducible rfl)) ?_
        refine y_as (f := 28) 606 hR rfl rfl rfl rfl (by omega) ?_
        intro h hR
        refine z_iinc 609 _ rfl rfl rfl rfl (by first | with_reducible exact zi_1 _ | rfl) ?_
        refine z_goto rfl ?_
        exact ih (i + 1) x _ h (by omega) (by omega) hx hR hV.st q
  have finx : ∀ x X1 h o8, x.toInt < 0 → Rf r h0 X1 h → InsT s X1 pt to n' ps → (∀ h' s', Rf r h0 s' h' → RInv s' A.tell → Q (some (.int x)) h') → mZ (d + 41) tk_236 0 0 Q 546 [some (.ref r), some (.int (nI pt)), some (.int (nI ps.length)), some (.int (nI a)), some (.int (nI to)), some (.int (nI to)), some (.int (nI wm)), some (.int x), o8] [] h 0 0 := by
    intro x X1 h o8 hx hR hIn q
    have k25 : X1.1 25 = n' := hIn.1
    refine z_iload 548 rfl rfl rfl ?_
    refine z_jeq 551 rfl rfl (fun h9 => absurd h9 (by omega)) (fun _ => ?_)
    refine z_iload 553 rfl rfl rfl ?_
    refine z_zge 556 rfl rfl (by omega) (fun _ => ?_) (fun h9 => absurd h9 (by omega))
    refine z_aload 567 rfl rfl rfl ?_
    refine y_ga 570 hR rfl rfl rfl ?_
    refine z_iload 572 rfl rfl rfl ?_
    refine z_iload 574 rfl rfl rfl ?_
    refine y_as (f := 27) 575 hR rfl rfl rfl rfl (by omega) ?_
    intro h hR
    refine z_push 576 (nI 0) rfl rfl rfl ?_
    refine z_istore 578 rfl rfl rfl rfl ?_
    exact rev 5 0 x _ h (by omega) (by omega) hx hR (by have h9 := hIn.rev0 (wm := wm) hp; rw [hn2] at h9; exact h9) q
  have fin0 : ∀ X1 h o8, okD F' = true → okL F' = true → Rf r h0 X1 h → InsT s X1 pt to n' ps → RFb X1 F' → mZ (d + 41) tk_236 0 0 Q 546 [some (.ref r), some (.int (nI pt)), some (.int (nI ps.length)), some (.int (nI a)), some (.int (nI to)), some (.int (nI to)), some (.int (nI wm)), some (.int (nI 0)), o8] [] h 0 0 := by
    intro X1 h o8 e1 e2 hR hIn hF
    have k25 : X1.1 25 = n' := hIn.1
    refine z_iload 548 rfl rfl rfl ?_
    refine z_zeq 551 rfl rfl (by omega) (fun _ => ?_) (fun h9 => absurd h9 (by omega))
    refine z_aload 620 rfl rfl rfl ?_
    refine z_push 621 (nI 0) rfl rfl rfl ?_
    refine y_pi 624 hR rfl rfl rfl rfl rfl (mFi rfl) ?_
    intro h hR
    refine z_aload 625 rfl rfl rfl ?_
    refine y_gi 628 _ hR rfl rfl rfl rfl rfl (by repeat (first | with_reducible exact gI_eq _ _ _ | (with_reducible apply gI_ne; decide) | with_reducible apply gI_A | with_reducible apply gI_O | with_reducible exact k25 | with_reducible rfl)) ?_
    refine z_ireti rfl (Nat.le_refl _) (Nat.le_refl _) ?_
    exact q0 e1 e2 h _ hR (hIn.inv hI hF)
  have lens : ∀ m9 k X1 h, n' < k + m9 → k ≤ n' → okD F' = true → (∀ j, j < k → fbW9 F' j ≤ 16) → Rf r h0 X1 h → InsT s X1 pt to n' ps → RFb X1 F' → KnI F' X1 → mZ (d + 41) tk_236 0 0 Q 503 [some (.ref r), some (.int (nI pt)), some (.int (nI ps.length)), some (.int (nI a)), some (.int (nI to)), some (.int (nI to)), some (.int (nI wm)), some (.int (nI 0)), some (.int (nI k))] [] h 0 0 := by
    intro m9
    induction m9 with
    | zero => intro k X1 h h1 h2; omega
    | succ m9 ih =>
      intro k X1 h h1 h2 hok hall hR hIn hF hK
      have k25 : X1.1 25 = n' := hIn.1
      have hcb := c17_b (fbW9 F' k)
      have hcc : c17 (fbW9 F' k) ≤ 16 → fbW9 F' k ≤ 16 := fun h9 => by unfold c17 at h9; split at h9 <;> omega
      have hcd : ¬ c17 (fbW9 F' k) ≤ 16 → ¬ fbW9 F' k ≤ 16 := fun h9 => by unfold c17 at h9; split at h9 <;> omega
      refine z_iload 505 rfl rfl rfl ?_
      refine z_aload 506 rfl rfl rfl ?_
      refine y_gi 509 _ hR rfl rfl rfl rfl rfl (by repeat (first | with_reducible exact gI_eq _ _ _ | (with_reducible apply gI_ne; decide) | with_reducible apply gI_A | with_reducible apply gI_O | with_reducible exact k25 | with_reducible exact j25 | with_reducible rfl)) ?_
      refine z_nge 512 rfl rfl (by omega) (by omega) (fun hc509 => ?_) (fun hc509 => ?_)
      · exact fin0 X1 h _ hok (okL_iff.mpr (fun j hj => hall j (by omega))) hR hIn hF
      · refine z_iload 514 rfl rfl rfl ?_
        refine z_zne 517 rfl rfl (by omega) (fun h9 => absurd h9 (by omega)) (fun _ => ?_)
        refine z_aload 518 rfl rfl rfl ?_
        refine z_iload 520 rfl rfl rfl ?_
        refine z_aload 521 rfl rfl rfl ?_
        refine y_ga 524 hR rfl rfl rfl ?_
        refine z_cv2 527 rfl rfl hR.1 rfl (Nat.le_refl _) (Nat.le_refl _) ?_
        refine r_length hW' 39 (by decide) hR hF (by omega) (Fdp_step (okD_Fdp hok (fbP F' k)) (hU' k (by omega))) hK (fun h X2 hR hO2 hK2 => ?_)
        have hIn2 := hIn.on hO2 (by simp)
        have hF2 := hF.k (hO2.keep (by decide))
        have j25 : X2.1 25 = n' := hIn2.1
        refine z_push 529 (nI 16) rfl rfl rfl ?_
        refine z_nle 532 rfl rfl (by omega) (by omega) (fun hc529 => ?_) (fun hc529 => ?_)
        · refine z_push 538 (nI 0) rfl rfl rfl ?_
          refine z_istore 540 rfl rfl rfl rfl ?_
          refine z_iinc 543 _ rfl rfl rfl rfl (by first | with_reducible exact zi_1 _ | rfl) ?_
          refine z_goto rfl ?_
          exact ih (k + 1) X2 h (by omega) (by omega) hok (lt_s9 hall (hcc hc529)) hR hIn2 hF2 hK2
        · refine z_push 534 (-12) rfl rfl rfl ?_
          refine z_goto rfl ?_
          refine z_istore 540 rfl rfl rfl rfl ?_
          refine z_iinc 543 _ rfl rfl rfl rfl (by first | with_reducible exact zi_1 _ | rfl) ?_
          refine z_goto rfl ?_
          refine z_iload 505 rfl rfl rfl ?_
          refine z_aload 506 rfl rfl rfl ?_
          refine y_gi 509 _ hR rfl rfl rfl rfl rfl (by repeat (first | with_reducible exact gI_eq _ _ _ | (with_reducible apply gI_ne; decide) | with_reducible apply gI_A | with_reducible apply gI_O | with_reducible exact k25 | with_reducible exact j25 | with_reducible rfl)) ?_
          refine z_nge 512 rfl rfl (by omega) (by omega) (fun hc509 => ?_) (fun hc509 => ?_)
          · exact finx (-12) X2 h _ (by decide) hR hIn2 (fun h9 s9 => q2 hok (by rcases e : okL F' with _ | _; (rfl); exact absurd (okL_iff.mp e k (by omega)) (hcd (by omega))) h9 s9)
          · refine z_iload 514 rfl rfl rfl ?_
            refine z_jne 517 rfl rfl (fun _ => ?_) (fun h9 => absurd h9 (by decide))
            exact finx (-12) X2 h _ (by decide) hR hIn2 (fun h9 s9 => q2 hok (by rcases e : okL F' with _ | _; (rfl); exact absurd (okL_iff.mp e k (by omega)) (hcd (by omega))) h9 s9)
  have fill : ∀ m9 k x X1 h, n' < k + m9 → k ≤ n' → Rf r h0 X1 h → InsT s X1 pt to n' ps → RFb X1 F' → (∀ j, j < k → X1.2.2 51 j = 0) → (∀ X2 h, Rf r h0 X2 h → InsT s X2 pt to n' ps → RFb X2 F' → KnI F' X2 → mZ (d + 41) tk_236 0 0 Q 503 [some (.ref r), some (.int (nI pt)), some (.int (nI ps.length)), some (.int (nI a)), some (.int (nI to)), some (.int (nI to)), some (.int (nI wm)), some (.int x), some (.int (nI 0))] [] h 0 0) → mZ (d + 41) tk_236 0 0 Q 477 [some (.ref r), some (.int (nI pt)), some (.int (nI ps.length)), some (.int (nI a)), some (.int (nI to)), some (.int (nI to)), some (.int (nI wm)), some (.int x), some (.int (nI k))] [] h 0 0 := by
    intro m9
    induction m9 with
    | zero => intro k x X1 h h1 h2; omega
    | succ m9 ih =>
      intro k x X1 h h1 h2 hR hIn hF hz cont
      have k25 : X1.1 25 = n' := hIn.1
      refine z_iload 479 rfl rfl rfl ?_
      refine z_aload 480 rfl rfl rfl ?_
      refine y_gi 483 _ hR rfl rfl rfl rfl rfl (by repeat (first | with_reducible exact gI_eq _ _ _ | (with_reducible apply gI_ne; decide) | with_reducible apply gI_A | with_reducible apply gI_O | with_reducible exact k25 | with_reducible rfl)) ?_
      refine z_nge 486 rfl rfl (by omega) (by omega) (fun hc483 => ?_) (fun hc483 => ?_)
      · refine z_push 501 (nI 0) rfl rfl rfl ?_
        refine z_istore 503 rfl rfl rfl rfl ?_
        exact cont X1 h hR hIn hF (fun j hj => Or.inl (hz j (by omega)))
      · refine z_aload 487 rfl rfl rfl ?_
        refine y_ga 490 hR rfl rfl rfl ?_
        refine z_iload 492 rfl rfl rfl ?_
        refine z_push 493 (nI 0) rfl rfl rfl ?_
        refine y_as (f := 51) 494 hR rfl rfl rfl rfl (by omega) ?_
        intro h hR
        refine z_iinc 497 _ rfl rfl rfl rfl (by first | with_reducible exact zi_1 _ | rfl) ?_
        refine z_goto rfl ?_
        refine ih (k + 1) x _ h (by omega) (by omega) hR (hIn.on (l := [51]) (On.rfl.A (by simp)) (by simp)) (hF.k (Keep.rfl.A rfl)) (fun j hj => ?_) cont
        by_cases e : j = k
        · subst e; exact gA_eq _ _ _ _
        · exact (gA_nj e rfl).trans (hz j (by omega))
  have cyc : ∀ m9 k X1 h, n' < k + m9 → k ≤ n' → (∀ j, j < k → ¬ Cy F' j) → Rf r h0 X1 h → InsT s X1 pt to n' ps → RFb X1 F' → mZ (d + 41) tk_236 0 0 Q 437 [some (.ref r), some (.int (nI pt)), some (.int (nI ps.length)), some (.int (nI a)), some (.int (nI to)), some (.int (nI to)), some (.int (nI wm)), some (.int (nI 0)), some (.int (nI k))] [] h 0 0 := by
    intro m9
    induction m9 with
    | zero => intro k X1 h h1 h2; omega
    | succ m9 ih =>
      intro k X1 h h1 h2 hall hR hIn hF
      have k25 : X1.1 25 = n' := hIn.1
      refine z_iload 439 rfl rfl rfl ?_
      refine z_aload 440 rfl rfl rfl ?_
      refine y_gi 443 _ hR rfl rfl rfl rfl rfl (by repeat (first | with_reducible exact gI_eq _ _ _ | (with_reducible apply gI_ne; decide) | with_reducible apply gI_A | with_reducible apply gI_O | with_reducible exact k25 | with_reducible exact j25 | with_reducible rfl)) ?_
      refine z_nge 446 rfl rfl (by omega) (by omega) (fun hc443 => ?_) (fun hc443 => ?_)
      · refine z_push 475 (nI 0) rfl rfl rfl ?_
        refine z_istore 477 rfl rfl rfl rfl ?_
        refine fill (n' + 1) 0 _ X1 h (by omega) (by omega) hR hIn hF (fun j hj => absurd hj (Nat.not_lt_zero j)) (fun X3 h hR hIn3 hF3 hK3 => ?_)
        exact lens (n' + 1) 0 X3 h (by omega) (by omega) ((okD_Cy hU' hl40).mpr (fun j hj => hall j (by omega))) (fun j hj => absurd hj (Nat.not_lt_zero j)) hR hIn3 hF3 hK3
      · refine z_iload 448 rfl rfl rfl ?_
        refine z_zne 451 rfl rfl (by omega) (fun h9 => absurd h9 (by omega)) (fun _ => ?_)
        refine z_aload 452 rfl rfl rfl ?_
        refine z_iload 454 rfl rfl rfl ?_
        refine z_cv1 457 rfl rfl hR.1 rfl (Nat.le_refl _) (Nat.le_refl _) ?_
        refine r_comesBack hR hF hW' (by omega) (fun b h X2 hR hO2 hb => ?_)
        have hIn2 := hIn.on hO2 (by simp)
        have hF2 := hF.k (hO2.keep (by decide))
        have j25 : X2.1 25 = n' := hIn2.1
        first | refine z_beq 460 rfl rfl (fun hc457 => ?_) (fun hc457 => ?_)
        · refine z_push 466 (nI 0) rfl rfl rfl ?_
          refine z_istore 468 rfl rfl rfl rfl ?_
          refine z_iinc 471 _ rfl rfl rfl rfl (by first | with_reducible exact zi_1 _ | rfl) ?_
          refine z_goto rfl ?_
          exact ih (k + 1) X2 h (by omega) (by omega) (lt_s9 hall (fun h9 => by have := hb.mpr h9; rw [hc457] at this; cases this)) hR hIn2 hF2
        · refine z_push 462 (-11) rfl rfl rfl ?_
          refine z_goto rfl ?_
          refine z_istore 468 rfl rfl rfl rfl ?_
          refine z_iinc 471 _ rfl rfl rfl rfl (by first | with_reducible exact zi_1 _ | rfl) ?_
          refine z_goto rfl ?_
          refine z_iload 439 rfl rfl rfl ?_
          refine z_aload 440 rfl rfl rfl ?_
          refine y_gi 443 _ hR rfl rfl rfl rfl rfl (by repeat (first | with_reducible exact gI_eq _ _ _ | (with_reducible apply gI_ne; decide) | with_reducible apply gI_A | with_reducible apply gI_O | with_reducible exact k25 | with_reducible exact j25 | with_reducible rfl)) ?_
          refine z_nge 446 rfl rfl (by omega) (by omega) (fun hc443 => ?_) (fun hc443 => ?_)
          · refine z_push 475 (nI 0) rfl rfl rfl ?_
            refine z_istore 477 rfl rfl rfl rfl ?_
            refine fill (n' + 1) 0 _ X2 h (by omega) (by omega) hR hIn2 hF2 (fun j hj => absurd hj (Nat.not_lt_zero j)) (fun X3 h hR hIn3 hF3 _ => ?_)
            have m25 : X3.1 25 = n' := hIn3.1
            have hnd : okD F' = false := by
              rcases e : okD F' with _ | _
              · rfl
              · exact absurd (hb.mp hc457) ((okD_Cy hU' hl40).mp e k (by omega))
            refine z_iload 505 rfl rfl rfl ?_
            refine z_aload 506 rfl rfl rfl ?_
            refine y_gi 509 _ hR rfl rfl rfl rfl rfl (by repeat (first | with_reducible exact gI_eq _ _ _ | (with_reducible apply gI_ne; decide) | with_reducible apply gI_A | with_reducible apply gI_O | with_reducible exact m25 | with_reducible rfl)) ?_
            refine z_nge 512 rfl rfl (by omega) (by omega) (fun h9 => absurd h9 (by omega)) (fun _ => ?_)
            refine z_iload 514 rfl rfl rfl ?_
            refine z_jne 517 rfl rfl (fun _ => ?_) (fun h9 => absurd h9 (by decide))
            exact finx (-11) X3 h _ (by decide) hR hIn3 (q1 hnd)
          · refine z_iload 448 rfl rfl rfl ?_
            refine z_jne 451 rfl rfl (fun _ => ?_) (fun h9 => absurd h9 (by decide))
            refine z_push 475 (nI 0) rfl rfl rfl ?_
            refine z_istore 477 rfl rfl rfl rfl ?_
            refine fill (n' + 1) 0 _ X2 h (by omega) (by omega) hR hIn2 hF2 (fun j hj => absurd hj (Nat.not_lt_zero j)) (fun X3 h hR hIn3 hF3 _ => ?_)
            have m25 : X3.1 25 = n' := hIn3.1
            have hnd : okD F' = false := by
              rcases e : okD F' with _ | _
              · rfl
              · exact absurd (hb.mp hc457) ((okD_Cy hU' hl40).mp e k (by omega))
            refine z_iload 505 rfl rfl rfl ?_
            refine z_aload 506 rfl rfl rfl ?_
            refine y_gi 509 _ hR rfl rfl rfl rfl rfl (by repeat (first | with_reducible exact gI_eq _ _ _ | (with_reducible apply gI_ne; decide) | with_reducible apply gI_A | with_reducible apply gI_O | with_reducible exact m25 | with_reducible rfl)) ?_
            refine z_nge 512 rfl rfl (by omega) (by omega) (fun h9 => absurd h9 (by omega)) (fun _ => ?_)
            refine z_iload 514 rfl rfl rfl ?_
            refine z_jne 517 rfl rfl (fun _ => ?_) (fun h9 => absurd h9 (by decide))
            exact finx (-11) X3 h _ (by decide) hR hIn3 (q1 hnd)
  refine z_push 435 (nI 0) rfl rfl rfl ?_
  refine z_istore 437 rfl rfl rfl rfl ?_
  exact cyc (n' + 1) 0 X h (by omega) (by omega) (fun j hj => absurd hj (Nat.not_lt_zero j)) hR hIn hF
