theorem getD_apl {l : List Nat} {x : Nat} : (l ++ [x]).getD l.length 0 = x := by
  rw [List.getD_eq_getElem?_getD, List.getElem?_append_right (Nat.le_refl _), Nat.sub_self]; rfl
theorem getD_apf {l m : List Nat} {j : Nat} (h : j < l.length) : (l ++ m).getD j 0 = l.getD j 0 := by
  rw [List.getD_eq_getElem?_getD, List.getD_eq_getElem?_getD, List.getElem?_append_left h]
set_option maxRecDepth 100000 in
theorem r_fallback {d r : Nat} {h h0 : mH} {s : rS} {A : Ab} {p : Int32} {Q : mP} (hR : Rf r h0 s h) (hI : RInv s A) (hA : AbW A) (hFU : FbU A.fbs)  (q : ∀ h' s', Rf r h0 s' h' → RInv s' (sp_fallback A p).2 → Q (some (.int (sp_fallback A p).1)) h') : mWP (d + 42) 236 [.ref r, .int p] h Q := by
  have f0 : s.1 0 = A.pgs.length := hI.1.1
  have f14 : s.1 14 = A.bys.length := hI.2.1.1
  have f16 : s.1 16 = A.uns.length := hI.2.2.1.1
  have f18 : s.1 18 = A.res.2.length := hI.2.2.2.1.1
  have f19 : s.1 19 = A.res.1 := hI.2.2.2.1.2.2.1
  have f22 : s.1 22 = A.plc := hI.2.2.2.2.2.2.2.1
  have f24 : s.1 24 = A.fnd := hI.2.2.2.2.2.2.2.2.2.1
  have f25 : s.1 25 = A.fbs.length := hI.2.2.2.2.2.1.1
  have f48 : s.1 48 = 0 := hI.2.2.2.2.2.2.2.2.2.2
  have l0 : A.pgs.length ≤ 10 := hI.1.2.1
  have l14 : A.bys.length ≤ 1000 := hI.2.1.2.1
  have l16 : A.uns.length ≤ 1000 := hI.2.2.1.2.1
  have l18 : A.res.2.length ≤ 6000 := hI.2.2.2.1.2.1
  have l25 : A.fbs.length ≤ 40 := hI.2.2.2.2.2.1.2.1
  have hFb := hI.2.2.2.2.2.1
  have hFW := hA.2.2.2.2.2.2.2.1
  have hub := hA.2.2.2.2.1
  refine z_in [some (.ref r), some (.int p), none, none, none, none, none, none, none] (by rfl) rfl rfl rfl ?_
  refine z_iload 1 rfl rfl rfl ?_
  refine z_cs1 4 rfl rfl rfl (Nat.le_refl _) (Nat.le_refl _) ?_
  refine r_isPoint ?_
  generalize hjp0 : jPoint _ = jp
  first | refine z_bne 7 rfl rfl (fun hc4 => ?_) (fun hc4 => ?_)
  · obtain ⟨pt, hpt, rfl, ht2⟩ := jPoint_n (hjp0.trans hc4)
    have hjp : jPoint (nI pt) = true := hjp0.trans hc4
    have hptl := nPt_lt hpt
    have rem : ∀ m9 i f a ps Y h, 4 < i + m9 → i ≤ 4 → f < A.fbs.length → Rf r h0 Y h → RmT s Y f A.fbs.length i → (∀ h' s', Rf r h0 s' h' → RInv s' (A.wFbs (fbR9 A.fbs f)) → Q (some (.int (nI (A.fbs.length - 1)))) h') → mZ (d + 41) tk_236 0 0 Q 231 [some (.ref r), some (.int (nI pt)), some (.int (nI (ps : List Nat).length)), some (.int (nI a)), some (.int (nI f)), some (.int (nI i)), none, none, none] [] h 0 0 := by
      intro m9
      induction m9 with
      | zero => intro i f a ps Y h h1 h2; omega
      | succ m9 ih =>
        intro i f a ps Y h h1 h2 hf hR hV q
        have k25 : Y.1 25 = A.fbs.length - 1 := hV.1
        have k28 : i < 4 → Y.2.2 28 (4 * (A.fbs.length - 1) + i) = s.2.2 28 (4 * (A.fbs.length - 1) + i) := fun h9 => hV.rd h9 hf
        refine z_iload 233 rfl rfl rfl ?_
        refine z_push 234 (nI 4) rfl rfl rfl ?_
        refine z_nge 237 rfl rfl (by omega) (by omega) (fun hc234 => ?_) (fun hc234 => ?_)
        · refine z_aload 270 rfl rfl rfl ?_
          refine y_gi 273 _ hR rfl rfl rfl rfl rfl (by repeat (first | with_reducible exact gI_eq _ _ _ | (with_reducible apply gI_ne; decide) | with_reducible apply gI_A | with_reducible apply gI_O | with_reducible exact k25 | with_reducible exact k28 (by omega) | with_reducible rfl)) ?_
          refine z_ireti rfl (Nat.le_refl _) (Nat.le_refl _) ?_
          obtain rfl : i = 4 := by omega
          exact q h _ hR (RmT.inv hI hFW hf hV)
        · refine z_aload 238 rfl rfl rfl ?_
          refine y_ga 241 hR rfl rfl rfl ?_
          refine z_push 242 (nI 4) rfl rfl rfl ?_
          refine z_iload 244 rfl rfl rfl ?_
          refine z_bop 245 _ rfl rfl (by first | with_reducible exact zb_2 _ _ | exact zd_2 _ _) ?_
          refine z_iload 247 rfl rfl rfl ?_
          refine z_bop 248 _ rfl rfl (by first | with_reducible exact zb_0 _ _ | exact zd_0 _ _) ?_
          refine z_aload 249 rfl rfl rfl ?_
          refine y_ga 252 hR rfl rfl rfl ?_
          refine z_push 253 (nI 4) rfl rfl rfl ?_
          refine z_aload 254 rfl rfl rfl ?_
          refine y_gi 257 _ hR rfl rfl rfl rfl rfl (by repeat (first | with_reducible exact gI_eq _ _ _ | (with_reducible apply gI_ne; decide) | with_reducible apply gI_A | with_reducible apply gI_O | with_reducible exact k25 | with_reducible exact k28 (by omega) | with_reducible rfl)) ?_
          refine z_bop 258 _ rfl rfl (by first | with_reducible exact zb_2 _ _ | exact zd_2 _ _) ?_
          refine z_iload 260 rfl rfl rfl ?_
          refine z_bop 261 _ rfl rfl (by first | with_reducible exact zb_0 _ _ | exact zd_0 _ _) ?_
          refine y_al (f := 28) 262 _ hR rfl rfl rfl rfl (by omega) (by repeat (first | with_reducible exact k25 | with_reducible exact k28 (by omega) | with_reducible exact gA_eq _ _ _ _ | (with_reducible apply gA_ne; decide) | with_reducible apply gA_I | with_reducible apply gA_O | (with_reducible apply gA_nj; omega) | with_reducible rfl)) ?_
          refine y_as (f := 28) 263 hR rfl rfl rfl rfl (by omega) ?_
          intro h hR
          refine z_iinc 266 _ rfl rfl rfl rfl (by first | with_reducible exact zi_1 _ | rfl) ?_
          refine z_goto rfl ?_
          exact ih (i + 1) f a ps _ h (by omega) (by omega) hf hR hV.st q
    have putN : ∀ m9 i a to wm ps Y h o8, ps.length < i + m9 → i ≤ ps.length → Rf r h0 Y h → InsI s Y pt to (A.fbs.length + 1) ps i → (hfi : fbI A.fbs pt = none) → ps.length ≤ 4 → 1 ≤ ps.length → (∀ x, x ∈ ps → nPt x = true) → A.fbs.length < 40 → to = A.fbs.length → (okD (A.fbs ++ [(pt, ps)]) = true → okL (A.fbs ++ [(pt, ps)]) = true → ∀ h' s', Rf r h0 s' h' → RInv s' ((A.wFbs (A.fbs ++ [(pt, ps)])).wUns []) → Q (some (.int (nI (A.fbs.length + 1)))) h') → (okD (A.fbs ++ [(pt, ps)]) = false → ∀ h' s', Rf r h0 s' h' → RInv s' A.tell → Q (some (.int (-11))) h') → (okD (A.fbs ++ [(pt, ps)]) = true → okL (A.fbs ++ [(pt, ps)]) = false → ∀ h' s', Rf r h0 s' h' → RInv s' A.tell → Q (some (.int (-12))) h') → mZ (d + 41) tk_236 0 0 Q 400 [some (.ref r), some (.int (nI pt)), some (.int (nI (ps : List Nat).length)), some (.int (nI a)), some (.int (-1)), some (.int (nI to)), some (.int (nI wm)), some (.int (nI i)), o8] [] h 0 0 := by
      intro m9
      induction m9 with
      | zero => intro i a to wm ps Y h o8 h1 h2; omega
      | succ m9 ih =>
        intro i a to wm ps Y h o8 h1 h2 hR hV hfi hp4 hp1 hps hl40 hto q0 q1 q2
        have hto40 : to < 40 := by omega
        have k49 : i < ps.length → Y.2.2 49 i = ps.getD i 0 := fun h9 => hV.2.2.2.2.2.2.2 i h9
        refine z_iload 402 rfl rfl rfl ?_
        refine z_iload 403 rfl rfl rfl ?_
        refine z_nge 406 rfl rfl (by omega) (by omega) (fun hc403 => ?_) (fun hc403 => ?_)
        · refine z_push 432 (nI 0) rfl rfl rfl ?_
          refine z_istore 434 rfl rfl rfl rfl ?_
          obtain rfl : i = ps.length := by omega
          subst hto
          exact r_fbFN hI hR hV.fin (hV.fin.app hFb hFW hl40) (hFW.app hpt hp1 hp4 hps) (hFU.app hfi) hp4 (by rw [List.length_append]; rfl) rfl rfl q0 q1 q2
        · refine z_aload 407 rfl rfl rfl ?_
          refine y_ga 410 hR rfl rfl rfl ?_
          refine z_push 411 (nI 4) rfl rfl rfl ?_
          refine z_iload 413 rfl rfl rfl ?_
          refine z_bop 414 _ rfl rfl (by first | with_reducible exact zb_2 _ _ | exact zd_2 _ _) ?_
          refine z_iload 416 rfl rfl rfl ?_
          refine z_bop 417 _ rfl rfl (by first | with_reducible exact zb_0 _ _ | exact zd_0 _ _) ?_
          refine z_aload 418 rfl rfl rfl ?_
          refine y_ga 421 hR rfl rfl rfl ?_
          refine z_iload 423 rfl rfl rfl ?_
          refine y_al (f := 49) 424 _ hR rfl rfl rfl rfl (by omega) (by repeat (first | with_reducible exact k49 (by omega) | with_reducible exact gA_eq _ _ _ _ | (with_reducible apply gA_ne; decide) | with_reducible apply gA_I | with_reducible apply gA_O | (with_reducible apply gA_nj; omega) | with_reducible rfl)) ?_
          refine y_as (f := 28) 425 hR rfl rfl rfl rfl (by omega) ?_
          intro h hR
          refine z_iinc 428 _ rfl rfl rfl rfl (by first | with_reducible exact zi_1 _ | rfl) ?_
          refine z_goto rfl ?_
          exact ih (i + 1) a to wm ps _ h o8 (by omega) (by omega) hR hV.st hfi hp4 hp1 hps hl40 hto q0 q1 q2
    have saveN : ∀ m9 i a to wm ps Y h o8, 4 < i + m9 → i ≤ 4 → Rf r h0 Y h → On [49] s Y → (∀ j, j < i → Y.2.2 49 (10 + j) = s.2.2 28 (4 * to + j)) → (∀ j, j < ps.length → Y.2.2 49 j = ps.getD j 0) → (hfi : fbI A.fbs pt = none) → ps.length ≤ 4 → 1 ≤ ps.length → (∀ x, x ∈ ps → nPt x = true) → A.fbs.length < 40 → to = A.fbs.length → (okD (A.fbs ++ [(pt, ps)]) = true → okL (A.fbs ++ [(pt, ps)]) = true → ∀ h' s', Rf r h0 s' h' → RInv s' ((A.wFbs (A.fbs ++ [(pt, ps)])).wUns []) → Q (some (.int (nI (A.fbs.length + 1)))) h') → (okD (A.fbs ++ [(pt, ps)]) = false → ∀ h' s', Rf r h0 s' h' → RInv s' A.tell → Q (some (.int (-11))) h') → (okD (A.fbs ++ [(pt, ps)]) = true → okL (A.fbs ++ [(pt, ps)]) = false → ∀ h' s', Rf r h0 s' h' → RInv s' A.tell → Q (some (.int (-12))) h') → mZ (d + 41) tk_236 0 0 Q 332 [some (.ref r), some (.int (nI pt)), some (.int (nI (ps : List Nat).length)), some (.int (nI a)), some (.int (-1)), some (.int (nI to)), some (.int (nI wm)), some (.int (nI i)), o8] [] h 0 0 := by
      intro m9
      induction m9 with
      | zero => intro i a to wm ps Y h o8 h1 h2; omega
      | succ m9 ih =>
        intro i a to wm ps Y h o8 h1 h2 hR hO hs9 hp9 hfi hp4 hp1 hps hl40 hto q0 q1 q2
        have hto40 : to < 40 := by omega
        have k25 : Y.1 25 = A.fbs.length := (hO.1 25 (by decide)).1.trans f25
        have k28 : i < 4 → Y.2.2 28 (4 * to + i) = s.2.2 28 (4 * to + i) := fun _ => by rw [(hO.1 28 (by decide)).2]
        refine z_iload 334 rfl rfl rfl ?_
        refine z_push 335 (nI 4) rfl rfl rfl ?_
        refine z_nge 338 rfl rfl (by omega) (by omega) (fun hc335 => ?_) (fun hc335 => ?_)
        · refine z_iload 368 rfl rfl rfl ?_
          refine z_jge 371 rfl rfl (fun h9 => absurd h9 (by decide)) (fun _ => ?_)
          refine z_aload 372 rfl rfl rfl ?_
          first | refine z_dup 373 rfl rfl ?_ | refine z_dupi 373 rfl rfl ?_
          refine y_gi 376 _ hR rfl rfl rfl rfl rfl (by repeat (first | with_reducible exact gI_eq _ _ _ | (with_reducible apply gI_ne; decide) | with_reducible apply gI_A | with_reducible apply gI_O | with_reducible exact k25 | with_reducible exact k28 (by omega) | with_reducible rfl)) ?_
          refine z_push 377 (nI 1) rfl rfl rfl ?_
          refine z_bop 378 _ rfl rfl (by first | with_reducible exact zb_0 _ _ | exact zd_0 _ _) ?_
          refine y_pi 381 hR rfl rfl rfl rfl rfl (mFi rfl) ?_
          intro h hR
          refine z_aload 382 rfl rfl rfl ?_
          refine y_ga 385 hR rfl rfl rfl ?_
          refine z_iload 387 rfl rfl rfl ?_
          refine z_iload 388 rfl rfl rfl ?_
          refine y_as (f := 26) 389 hR rfl rfl rfl rfl (by omega) ?_
          intro h hR
          refine z_aload 390 rfl rfl rfl ?_
          refine y_ga 393 hR rfl rfl rfl ?_
          refine z_iload 395 rfl rfl rfl ?_
          refine z_iload 396 rfl rfl rfl ?_
          refine y_as (f := 27) 397 hR rfl rfl rfl rfl (by omega) ?_
          intro h hR
          refine z_push 398 (nI 0) rfl rfl rfl ?_
          refine z_istore 400 rfl rfl rfl rfl ?_
          exact putN (ps.length + 1) 0 a to wm ps _ h o8 (by omega) (by omega) hR (InsI.z1 hO (fun k hk => hs9 k (by omega)) hp9) hfi hp4 hp1 hps hl40 hto q0 q1 q2
        · refine z_aload 339 rfl rfl rfl ?_
          refine y_ga 342 hR rfl rfl rfl ?_
          refine z_push 344 (nI 10) rfl rfl rfl ?_
          refine z_iload 346 rfl rfl rfl ?_
          refine z_bop 347 _ rfl rfl (by first | with_reducible exact zb_0 _ _ | exact zd_0 _ _) ?_
          refine z_aload 348 rfl rfl rfl ?_
          refine y_ga 351 hR rfl rfl rfl ?_
          refine z_push 352 (nI 4) rfl rfl rfl ?_
          refine z_iload 354 rfl rfl rfl ?_
          refine z_bop 355 _ rfl rfl (by first | with_reducible exact zb_2 _ _ | exact zd_2 _ _) ?_
          refine z_iload 357 rfl rfl rfl ?_
          refine z_bop 358 _ rfl rfl (by first | with_reducible exact zb_0 _ _ | exact zd_0 _ _) ?_
          refine y_al (f := 28) 359 _ hR rfl rfl rfl rfl (by omega) (by repeat (first | with_reducible exact k25 | with_reducible exact k28 (by omega) | with_reducible exact gA_eq _ _ _ _ | (with_reducible apply gA_ne; decide) | with_reducible apply gA_I | with_reducible apply gA_O | (with_reducible apply gA_nj; omega) | with_reducible rfl)) ?_
          refine y_as (f := 49) 360 hR rfl rfl rfl rfl (by omega) ?_
          intro h hR
          refine z_iinc 363 _ rfl rfl rfl rfl (by first | with_reducible exact zi_1 _ | rfl) ?_
          refine z_goto rfl ?_
          exact ih (i + 1) a to wm ps _ h o8 (by omega) (by omega) hR (hO.A (by simp)) (lt_s9 (fun j hj => (gA_nj (by omega) rfl).trans (hs9 j hj)) (gA_eq _ _ _ _)) (fun j hj => (gA_nj (by omega) rfl).trans (hp9 j hj)) hfi hp4 hp1 hps hl40 hto q0 q1 q2
    have putS : ∀ m9 i a to wm ps Y h o8, ps.length < i + m9 → i ≤ ps.length → Rf r h0 Y h → InsI s Y pt to A.fbs.length ps i → (hfi : fbI A.fbs pt = some to) → ps.length ≤ 4 → 1 ≤ ps.length → (∀ x, x ∈ ps → nPt x = true) → wm = (fbL A.fbs to).length → (okD (A.fbs.set to (pt, ps)) = true → okL (A.fbs.set to (pt, ps)) = true → ∀ h' s', Rf r h0 s' h' → RInv s' ((A.wFbs (A.fbs.set to (pt, ps))).wUns []) → Q (some (.int (nI A.fbs.length))) h') → (okD (A.fbs.set to (pt, ps)) = false → ∀ h' s', Rf r h0 s' h' → RInv s' A.tell → Q (some (.int (-11))) h') → (okD (A.fbs.set to (pt, ps)) = true → okL (A.fbs.set to (pt, ps)) = false → ∀ h' s', Rf r h0 s' h' → RInv s' A.tell → Q (some (.int (-12))) h') → mZ (d + 41) tk_236 0 0 Q 400 [some (.ref r), some (.int (nI pt)), some (.int (nI (ps : List Nat).length)), some (.int (nI a)), some (.int (nI to)), some (.int (nI to)), some (.int (nI wm)), some (.int (nI i)), o8] [] h 0 0 := by
      intro m9
      induction m9 with
      | zero => intro i a to wm ps Y h o8 h1 h2; omega
      | succ m9 ih =>
        intro i a to wm ps Y h o8 h1 h2 hR hV hfi hp4 hp1 hps hwm q0 q1 q2
        have hto40 : to < 40 := by have := fbI_b hfi; omega
        have k49 : i < ps.length → Y.2.2 49 i = ps.getD i 0 := fun h9 => hV.2.2.2.2.2.2.2 i h9
        refine z_iload 402 rfl rfl rfl ?_
        refine z_iload 403 rfl rfl rfl ?_
        refine z_nge 406 rfl rfl (by omega) (by omega) (fun hc403 => ?_) (fun hc403 => ?_)
        · refine z_push 432 (nI 0) rfl rfl rfl ?_
          refine z_istore 434 rfl rfl rfl rfl ?_
          obtain rfl : i = ps.length := by omega
          have hf9 := fbI_b hfi
          exact r_fbFS hI hR hV.fin (hV.fin.set hFb hFW hf9 hp4) (hFW.set hf9 hpt hp1 hp4 hps) (hFU.set hfi) hp4 (by rw [List.length_set]) ⟨hf9, (fbI_p hfi).symm, hwm⟩ rfl q0 q1 q2
        · refine z_aload 407 rfl rfl rfl ?_
          refine y_ga 410 hR rfl rfl rfl ?_
          refine z_push 411 (nI 4) rfl rfl rfl ?_
          refine z_iload 413 rfl rfl rfl ?_
          refine z_bop 414 _ rfl rfl (by first | with_reducible exact zb_2 _ _ | exact zd_2 _ _) ?_
          refine z_iload 416 rfl rfl rfl ?_
          refine z_bop 417 _ rfl rfl (by first | with_reducible exact zb_0 _ _ | exact zd_0 _ _) ?_
          refine z_aload 418 rfl rfl rfl ?_
          refine y_ga 421 hR rfl rfl rfl ?_
          refine z_iload 423 rfl rfl rfl ?_
          refine y_al (f := 49) 424 _ hR rfl rfl rfl rfl (by omega) (by repeat (first | with_reducible exact k49 (by omega) | with_reducible exact gA_eq _ _ _ _ | (with_reducible apply gA_ne; decide) | with_reducible apply gA_I | with_reducible apply gA_O | (with_reducible apply gA_nj; omega) | with_reducible rfl)) ?_
          refine y_as (f := 28) 425 hR rfl rfl rfl rfl (by omega) ?_
          intro h hR
          refine z_iinc 428 _ rfl rfl rfl rfl (by first | with_reducible exact zi_1 _ | rfl) ?_
          refine z_goto rfl ?_
          exact ih (i + 1) a to wm ps _ h o8 (by omega) (by omega) hR hV.st hfi hp4 hp1 hps hwm q0 q1 q2
    have saveS : ∀ m9 i a to wm ps Y h o8, 4 < i + m9 → i ≤ 4 → Rf r h0 Y h → On [49] s Y → (∀ j, j < i → Y.2.2 49 (10 + j) = s.2.2 28 (4 * to + j)) → (∀ j, j < ps.length → Y.2.2 49 j = ps.getD j 0) → (hfi : fbI A.fbs pt = some to) → ps.length ≤ 4 → 1 ≤ ps.length → (∀ x, x ∈ ps → nPt x = true) → wm = (fbL A.fbs to).length → (okD (A.fbs.set to (pt, ps)) = true → okL (A.fbs.set to (pt, ps)) = true → ∀ h' s', Rf r h0 s' h' → RInv s' ((A.wFbs (A.fbs.set to (pt, ps))).wUns []) → Q (some (.int (nI A.fbs.length))) h') → (okD (A.fbs.set to (pt, ps)) = false → ∀ h' s', Rf r h0 s' h' → RInv s' A.tell → Q (some (.int (-11))) h') → (okD (A.fbs.set to (pt, ps)) = true → okL (A.fbs.set to (pt, ps)) = false → ∀ h' s', Rf r h0 s' h' → RInv s' A.tell → Q (some (.int (-12))) h') → mZ (d + 41) tk_236 0 0 Q 332 [some (.ref r), some (.int (nI pt)), some (.int (nI (ps : List Nat).length)), some (.int (nI a)), some (.int (nI to)), some (.int (nI to)), some (.int (nI wm)), some (.int (nI i)), o8] [] h 0 0 := by
      intro m9
      induction m9 with
      | zero => intro i a to wm ps Y h o8 h1 h2; omega
      | succ m9 ih =>
        intro i a to wm ps Y h o8 h1 h2 hR hO hs9 hp9 hfi hp4 hp1 hps hwm q0 q1 q2
        have hto40 : to < 40 := by have := fbI_b hfi; omega
        have k25 : Y.1 25 = A.fbs.length := (hO.1 25 (by decide)).1.trans f25
        have k28 : i < 4 → Y.2.2 28 (4 * to + i) = s.2.2 28 (4 * to + i) := fun _ => by rw [(hO.1 28 (by decide)).2]
        refine z_iload 334 rfl rfl rfl ?_
        refine z_push 335 (nI 4) rfl rfl rfl ?_
        refine z_nge 338 rfl rfl (by omega) (by omega) (fun hc335 => ?_) (fun hc335 => ?_)
        · refine z_iload 368 rfl rfl rfl ?_
          refine z_zge 371 rfl rfl (by omega) (fun _ => ?_) (fun h9 => absurd h9 (by omega))
          refine z_aload 382 rfl rfl rfl ?_
          refine y_ga 385 hR rfl rfl rfl ?_
          refine z_iload 387 rfl rfl rfl ?_
          refine z_iload 388 rfl rfl rfl ?_
          refine y_as (f := 26) 389 hR rfl rfl rfl rfl (by omega) ?_
          intro h hR
          refine z_aload 390 rfl rfl rfl ?_
          refine y_ga 393 hR rfl rfl rfl ?_
          refine z_iload 395 rfl rfl rfl ?_
          refine z_iload 396 rfl rfl rfl ?_
          refine y_as (f := 27) 397 hR rfl rfl rfl rfl (by omega) ?_
          intro h hR
          refine z_push 398 (nI 0) rfl rfl rfl ?_
          refine z_istore 400 rfl rfl rfl rfl ?_
          exact putS (ps.length + 1) 0 a to wm ps _ h o8 (by omega) (by omega) hR (InsI.z0 f25 hO (fun k hk => hs9 k (by omega)) hp9) hfi hp4 hp1 hps hwm q0 q1 q2
        · refine z_aload 339 rfl rfl rfl ?_
          refine y_ga 342 hR rfl rfl rfl ?_
          refine z_push 344 (nI 10) rfl rfl rfl ?_
          refine z_iload 346 rfl rfl rfl ?_
          refine z_bop 347 _ rfl rfl (by first | with_reducible exact zb_0 _ _ | exact zd_0 _ _) ?_
          refine z_aload 348 rfl rfl rfl ?_
          refine y_ga 351 hR rfl rfl rfl ?_
          refine z_push 352 (nI 4) rfl rfl rfl ?_
          refine z_iload 354 rfl rfl rfl ?_
          refine z_bop 355 _ rfl rfl (by first | with_reducible exact zb_2 _ _ | exact zd_2 _ _) ?_
          refine z_iload 357 rfl rfl rfl ?_
          refine z_bop 358 _ rfl rfl (by first | with_reducible exact zb_0 _ _ | exact zd_0 _ _) ?_
          refine y_al (f := 28) 359 _ hR rfl rfl rfl rfl (by omega) (by repeat (first | with_reducible exact k25 | with_reducible exact k28 (by omega) | with_reducible exact gA_eq _ _ _ _ | (with_reducible apply gA_ne; decide) | with_reducible apply gA_I | with_reducible apply gA_O | (with_reducible apply gA_nj; omega) | with_reducible rfl)) ?_
          refine y_as (f := 49) 360 hR rfl rfl rfl rfl (by omega) ?_
          intro h hR
          refine z_iinc 363 _ rfl rfl rfl rfl (by first | with_reducible exact zi_1 _ | rfl) ?_
          refine z_goto rfl ?_
          exact ih (i + 1) a to wm ps _ h o8 (by omega) (by omega) hR (hO.A (by simp)) (lt_s9 (fun j hj => (gA_nj (by omega) rfl).trans (hs9 j hj)) (gA_eq _ _ _ _)) (fun j hj => (gA_nj (by omega) rfl).trans (hp9 j hj)) hfi hp4 hp1 hps hwm q0 q1 q2
    have rest : ∀ ps a s1 h o4 o5, ptsU A.uns = some ps → ps.length ≤ 1000 → Rf r h0 s1 h → On [49] s s1 → (∀ j, j < ps.length → s1.2.2 49 j = ps.getD j 0) → mZ (d + 41) tk_236 0 0 Q 158 [some (.ref r), some (.int (nI pt)), some (.int (nI ps.length)), some (.int (nI a)), o4, o5, none, none, none] [] h 0 0 := by
      intro ps a s1 h o4 o5 hpu hpl hR hO hps9
      have hpp := ptA_pt hub _ _ _ ps (fun x hx => absurd hx (List.not_mem_nil)) hpu
      have hI1 := hI.k0 (hO.keep (by decide)) (hO.1 22 (by decide)).1
      have k25 : s1.1 25 = A.fbs.length := (hO.1 25 (by decide)).1.trans f25
      refine z_iload 159 rfl rfl rfl ?_
      refine z_push 160 (nI 4) rfl rfl rfl ?_
      refine z_nle 163 rfl rfl (by omega) (by omega) (fun hc160 => ?_) (fun hc160 => ?_)
      · refine z_aload 171 rfl rfl rfl ?_
        refine z_iload 172 rfl rfl rfl ?_
        refine z_cv1 175 rfl rfl hR.1 rfl (Nat.le_refl _) (Nat.le_refl _) ?_
        refine r_fallbackOf hR (hFb.k (hO.keep (by decide))) hFW (by omega) ?_
        rcases hfi : fbI A.fbs pt with _ | f
        · simp only [oI]
          refine z_istore 177 rfl rfl rfl rfl ?_
          refine z_iload 178 rfl rfl rfl ?_
          first | refine z_zne 181 rfl rfl (by omega) (fun hc178 => ?_) (fun hc178 => ?_)
          · refine z_iload 276 rfl rfl rfl ?_
            refine z_jge 279 rfl rfl (fun h9 => absurd h9 (by decide)) (fun _ => ?_)
            refine z_aload 280 rfl rfl rfl ?_
            refine y_gi 283 _ hR rfl rfl rfl rfl rfl (by repeat (first | with_reducible exact gI_eq _ _ _ | (with_reducible apply gI_ne; decide) | with_reducible apply gI_A | with_reducible apply gI_O | with_reducible exact k25 | with_reducible exact k26 | with_reducible exact k27 | with_reducible exact k27f | with_reducible exact j25 | with_reducible rfl)) ?_
            refine z_push 285 (nI 40) rfl rfl rfl ?_
            refine z_nne 288 rfl rfl (by omega) (by omega) (fun hc285 => ?_) (fun hc285 => ?_)
            · refine z_iload 297 rfl rfl rfl ?_
              refine z_jge 300 rfl rfl (fun h9 => absurd h9 (by decide)) (fun _ => ?_)
              refine z_aload 301 rfl rfl rfl ?_
              refine y_gi 304 _ hR rfl rfl rfl rfl rfl (by repeat (first | with_reducible exact gI_eq _ _ _ | (with_reducible apply gI_ne; decide) | with_reducible apply gI_A | with_reducible apply gI_O | with_reducible exact k25 | with_reducible exact k26 | with_reducible exact k27 | with_reducible exact k27f | with_reducible exact j25 | with_reducible rfl)) ?_
              refine z_goto rfl ?_
              refine z_istore 311 rfl rfl rfl rfl ?_
              refine z_iload 313 rfl rfl rfl ?_
              refine z_jge 316 rfl rfl (fun h9 => absurd h9 (by decide)) (fun _ => ?_)
              refine z_push 317 (nI 0) rfl rfl rfl ?_
              refine z_goto rfl ?_
              refine z_istore 329 rfl rfl rfl rfl ?_
              refine z_push 330 (nI 0) rfl rfl rfl ?_
              refine z_istore 332 rfl rfl rfl rfl ?_
              have e8 : fbS9 A.fbs pt ps = (A.fbs ++ [(pt, ps)]) := by rw [fbS9, hfi]
              have hlen : (A.fbs ++ [(pt, ps)]).length = (A.fbs.length + 1) := by rw [List.length_append]; rfl
              have e9 : sp_fallback A (nI pt) = if okD (A.fbs ++ [(pt, ps)]) = true then (if okL (A.fbs ++ [(pt, ps)]) = true then (nI (A.fbs.length + 1), (A.wFbs (A.fbs ++ [(pt, ps)])).wUns []) else (-12, A.tell)) else (-11, A.tell) := by
                rw [sp_fallback, if_pos hjp, hpu, ht2]
                show (if _ then _ else _) = _
                rw [if_pos hc160, if_neg hc178, e8, hlen, if_neg (by rw [hfi]; intro h9; exact absurd h9.2 (by omega))]
              rw [e9] at q
              exact saveN 5 0 a A.fbs.length 0 ps s1 h _ (by omega) (by omega) hR hO (fun j hj => absurd hj (Nat.not_lt_zero j)) hps9 hfi hc160 (by omega) hpp (by omega) rfl (fun e1 e2 h s9 hR hI9 => by rw [if_pos e1, if_pos e2] at q; exact q h s9 hR hI9) (fun e1 h s9 hR hI9 => by rw [if_neg (by rw [e1]; decide)] at q; exact q h s9 hR hI9) (fun e1 e2 h s9 hR hI9 => by rw [if_pos e1, if_neg (by rw [e2]; decide)] at q; exact q h s9 hR hI9)
            · refine z_aload 289 rfl rfl rfl ?_
              refine z_push 291 (-6) rfl rfl rfl ?_
              refine z_cv1 294 rfl rfl hR.1 rfl (Nat.le_refl _) (Nat.le_refl _) ?_
              refine r_tell hR (fun h9 => absurd h9 (by decide)) (fun _ h hR => ?_)
              refine z_ireti rfl (Nat.le_refl _) (Nat.le_refl _) ?_
              have e9 : sp_fallback A (nI pt) = (-6, A.tell) := by
                rw [sp_fallback, if_pos hjp, hpu]
                show (if _ then _ else _) = _
                rw [if_pos hc160, if_neg hc178, ht2, if_pos ⟨hfi, by omega⟩]
              rw [e9] at q
              exact q h _ hR hI1.tell
          · refine z_iload 183 rfl rfl rfl ?_
            refine z_jlt 186 rfl rfl (fun _ => ?_) (fun h9 => absurd h9 (by decide))
            refine z_aload 270 rfl rfl rfl ?_
            refine y_gi 273 _ hR rfl rfl rfl rfl rfl (by repeat (first | with_reducible exact gI_eq _ _ _ | (with_reducible apply gI_ne; decide) | with_reducible apply gI_A | with_reducible apply gI_O | with_reducible exact k25 | with_reducible exact k26 | with_reducible exact k27 | with_reducible exact k27f | with_reducible exact j25 | with_reducible rfl)) ?_
            refine z_ireti rfl (Nat.le_refl _) (Nat.le_refl _) ?_
            have e9 : sp_fallback A (nI pt) = (nI A.fbs.length, A) := by
              rw [sp_fallback, if_pos hjp, hpu]
              show (if _ then _ else _) = _
              rw [if_pos hc160, if_pos hc178, ht2, hfi]
            rw [e9] at q
            exact q h _ hR hI1
        · simp only [oI]
          have hfl := fbI_b hfi
          have k26 : s1.2.2 26 (A.fbs.length - 1) = s.2.2 26 (A.fbs.length - 1) := by rw [(hO.1 26 (by decide)).2]
          have k27 : s1.2.2 27 (A.fbs.length - 1) = s.2.2 27 (A.fbs.length - 1) := by rw [(hO.1 27 (by decide)).2]
          have k27f : s1.2.2 27 f = (fbL A.fbs f).length := by rw [(hO.1 27 (by decide)).2]; exact (hFb.2.2 f hfl).2.1
          refine z_istore 177 rfl rfl rfl rfl ?_
          refine z_iload 178 rfl rfl rfl ?_
          first | refine z_zne 181 rfl rfl (by omega) (fun hc178 => ?_) (fun hc178 => ?_)
          · refine z_iload 276 rfl rfl rfl ?_
            refine z_zge 279 rfl rfl (by omega) (fun _ => ?_) (fun h9 => absurd h9 (by omega))
            refine z_iload 297 rfl rfl rfl ?_
            refine z_zge 300 rfl rfl (by omega) (fun _ => ?_) (fun h9 => absurd h9 (by omega))
            refine z_iload 309 rfl rfl rfl ?_
            refine z_istore 311 rfl rfl rfl rfl ?_
            refine z_iload 313 rfl rfl rfl ?_
            refine z_zge 316 rfl rfl (by omega) (fun _ => ?_) (fun h9 => absurd h9 (by omega))
            refine z_aload 321 rfl rfl rfl ?_
            refine y_ga 324 hR rfl rfl rfl ?_
            refine z_iload 326 rfl rfl rfl ?_
            refine y_al (f := 27) 327 _ hR rfl rfl rfl rfl (by omega) (by repeat (first | with_reducible exact k25 | with_reducible exact k26 | with_reducible exact k27 | with_reducible exact k27f | with_reducible exact j25 | with_reducible exact gA_eq _ _ _ _ | (with_reducible apply gA_ne; decide) | with_reducible apply gA_I | with_reducible apply gA_O | (with_reducible apply gA_nj; omega) | with_reducible rfl)) ?_
            refine z_istore 329 rfl rfl rfl rfl ?_
            refine z_push 330 (nI 0) rfl rfl rfl ?_
            refine z_istore 332 rfl rfl rfl rfl ?_
            have e8 : fbS9 A.fbs pt ps = (A.fbs.set f (pt, ps)) := by rw [fbS9, hfi]
            have hlen : (A.fbs.set f (pt, ps)).length = A.fbs.length := by rw [List.length_set]
            have e9 : sp_fallback A (nI pt) = if okD (A.fbs.set f (pt, ps)) = true then (if okL (A.fbs.set f (pt, ps)) = true then (nI A.fbs.length, (A.wFbs (A.fbs.set f (pt, ps))).wUns []) else (-12, A.tell)) else (-11, A.tell) := by
              rw [sp_fallback, if_pos hjp, hpu, ht2]
              show (if _ then _ else _) = _
              rw [if_pos hc160, if_neg hc178, e8, hlen, if_neg (by rw [hfi]; intro h9; cases h9.1)]
            rw [e9] at q
            exact saveS 5 0 a f (fbL A.fbs f).length ps s1 h _ (by omega) (by omega) hR hO (fun j hj => absurd hj (Nat.not_lt_zero j)) hps9 hfi hc160 (by omega) hpp rfl (fun e1 e2 h s9 hR hI9 => by rw [if_pos e1, if_pos e2] at q; exact q h s9 hR hI9) (fun e1 h s9 hR hI9 => by rw [if_neg (by rw [e1]; decide)] at q; exact q h s9 hR hI9) (fun e1 e2 h s9 hR hI9 => by rw [if_pos e1, if_neg (by rw [e2]; decide)] at q; exact q h s9 hR hI9)
          · refine z_iload 183 rfl rfl rfl ?_
            refine z_zlt 186 rfl rfl (by omega) (fun h9 => absurd h9 (by omega)) (fun _ => ?_)
            refine z_aload 187 rfl rfl rfl ?_
            first | refine z_dup 188 rfl rfl ?_ | refine z_dupi 188 rfl rfl ?_
            refine y_gi 191 _ hR rfl rfl rfl rfl rfl (by repeat (first | with_reducible exact gI_eq _ _ _ | (with_reducible apply gI_ne; decide) | with_reducible apply gI_A | with_reducible apply gI_O | with_reducible exact k25 | with_reducible exact k26 | with_reducible exact k27 | with_reducible exact k27f | with_reducible exact j25 | with_reducible rfl)) ?_
            refine z_push 192 (nI 1) rfl rfl rfl ?_
            refine z_bop 193 _ rfl rfl (by first | with_reducible exact zb_1 (by omega) | exact zd_1 _ _) ?_
            refine y_pi 196 hR rfl rfl rfl rfl rfl (mFi rfl) ?_
            intro h hR
            refine z_aload 197 rfl rfl rfl ?_
            refine y_ga 200 hR rfl rfl rfl ?_
            refine z_iload 202 rfl rfl rfl ?_
            refine z_aload 203 rfl rfl rfl ?_
            refine y_ga 206 hR rfl rfl rfl ?_
            refine z_aload 207 rfl rfl rfl ?_
            refine y_gi 210 _ hR rfl rfl rfl rfl rfl (by repeat (first | with_reducible exact gI_eq _ _ _ | (with_reducible apply gI_ne; decide) | with_reducible apply gI_A | with_reducible apply gI_O | with_reducible exact k25 | with_reducible exact k26 | with_reducible exact k27 | with_reducible exact k27f | with_reducible exact j25 | with_reducible rfl)) ?_
            refine y_al (f := 26) 211 _ hR rfl rfl rfl rfl (by omega) (by repeat (first | with_reducible exact k25 | with_reducible exact k26 | with_reducible exact k27 | with_reducible exact k27f | with_reducible exact j25 | with_reducible exact gA_eq _ _ _ _ | (with_reducible apply gA_ne; decide) | with_reducible apply gA_I | with_reducible apply gA_O | (with_reducible apply gA_nj; omega) | with_reducible rfl)) ?_
            refine y_as (f := 26) 212 hR rfl rfl rfl rfl (by omega) ?_
            intro h hR
            refine z_aload 213 rfl rfl rfl ?_
            refine y_ga 216 hR rfl rfl rfl ?_
            refine z_iload 218 rfl rfl rfl ?_
            refine z_aload 219 rfl rfl rfl ?_
            refine y_ga 222 hR rfl rfl rfl ?_
            refine z_aload 223 rfl rfl rfl ?_
            refine y_gi 226 _ hR rfl rfl rfl rfl rfl (by repeat (first | with_reducible exact gI_eq _ _ _ | (with_reducible apply gI_ne; decide) | with_reducible apply gI_A | with_reducible apply gI_O | with_reducible exact k25 | with_reducible exact k26 | with_reducible exact k27 | with_reducible exact k27f | with_reducible exact j25 | with_reducible rfl)) ?_
            refine y_al (f := 27) 227 _ hR rfl rfl rfl rfl (by omega) (by repeat (first | with_reducible exact k25 | with_reducible exact k26 | with_reducible exact k27 | with_reducible exact k27f | with_reducible exact j25 | with_reducible exact gA_eq _ _ _ _ | (with_reducible apply gA_ne; decide) | with_reducible apply gA_I | with_reducible apply gA_O | (with_reducible apply gA_nj; omega) | with_reducible rfl)) ?_
            refine y_as (f := 27) 228 hR rfl rfl rfl rfl (by omega) ?_
            intro h hR
            refine z_push 229 (nI 0) rfl rfl rfl ?_
            refine z_istore 231 rfl rfl rfl rfl ?_
            have e9 : sp_fallback A (nI pt) = (nI (A.fbs.length - 1), A.wFbs (fbR9 A.fbs f)) := by
              rw [sp_fallback, if_pos hjp, hpu]
              show (if _ then _ else _) = _
              rw [if_pos hc160, if_pos hc178, ht2, hfi]
            rw [e9] at q
            exact rem 5 0 f a ps _ h (by omega) (by omega) hfl hR (RmT.z hO) (fun h9 s9 => q h9 s9)
      · refine z_aload 164 rfl rfl rfl ?_
        refine z_push 166 (-8) rfl rfl rfl ?_
        refine z_cv1 169 rfl rfl hR.1 rfl (Nat.le_refl _) (Nat.le_refl _) ?_
        refine r_tell hR (fun h9 => absurd h9 (by decide)) (fun _ h hR => ?_)
        refine z_ireti rfl (Nat.le_refl _) (Nat.le_refl _) ?_
        have e9 : sp_fallback A (nI pt) = (-8, A.tell) := by
          rw [sp_fallback, if_pos hjp, hpu]
          show (if _ then _ else _) = _
          rw [if_neg (by omega)]
        rw [e9] at q
        exact q h _ hR hI1.tell
    have units : ∀ k9 a acc s1 h o4 o5, A.uns.length < a + k9 → a ≤ A.uns.length → acc.length ≤ a → ptsU A.uns = ptA A.uns k9 a acc → Rf r h0 s1 h → On [49] s s1 → (∀ j, j < acc.length → s1.2.2 49 j = acc.getD j 0) → mZ (d + 41) tk_236 0 0 Q 17 [some (.ref r), some (.int (nI pt)), some (.int (nI (acc : List Nat).length)), some (.int (nI a)), o4, o5, none, none, none] [] h 0 0 := by
      intro k9
      induction k9 with
      | zero => intro a acc s1 h o4 o5 h1 h2; omega
      | succ k9 ih =>
        intro a acc s1 h o4 o5 h1 h2 hal9 hpa hR hO hacc
        have hI1 := hI.k0 (hO.keep (by decide)) (hO.1 22 (by decide)).1
        have k16 : s1.1 16 = A.uns.length := (hO.1 16 (by decide)).1.trans f16
        have ksr : ∀ j, j < A.uns.length → s1.2.2 17 j = A.uns.getD j 0 := fun j hj => by
          rw [(hO.1 17 (by decide)).2]
          have := hI.2.2.1.2.2 j hj
          rw [Nat.zero_add] at this
          exact this
        have hu := hub a
        have hu1 := hub (a + 1)
        refine z_iload 18 rfl rfl rfl ?_
        refine z_aload 19 rfl rfl rfl ?_
        refine y_gi 22 _ hR rfl rfl rfl rfl rfl (by repeat (first | with_reducible exact gI_eq _ _ _ | (with_reducible apply gI_ne; decide) | with_reducible apply gI_A | with_reducible apply gI_O | with_reducible exact k16 | with_reducible exact ksr a (by omega) | with_reducible exact ksr (a + 1) (by omega) | with_reducible rfl)) ?_
        refine z_nge 25 rfl rfl (by omega) (by omega) (fun hc22 => ?_) (fun hc22 => ?_)
        · exact rest acc a s1 h _ _ (by rw [hpa, ptA, if_pos (by omega)]) (by omega) hR hO hacc
        · refine z_aload 26 rfl rfl rfl ?_
          refine y_ga 29 hR rfl rfl rfl ?_
          refine z_iload 30 rfl rfl rfl ?_
          refine y_al (f := 17) 31 _ hR rfl rfl rfl rfl (by omega) (by repeat (first | with_reducible exact k16 | with_reducible exact ksr a (by omega) | with_reducible exact ksr (a + 1) (by omega) | with_reducible exact gA_eq _ _ _ _ | (with_reducible apply gA_ne; decide) | with_reducible apply gA_I | with_reducible apply gA_O | (with_reducible apply gA_nj; omega) | with_reducible rfl)) ?_
          refine z_istore 33 rfl rfl rfl rfl ?_
          refine z_iload 35 rfl rfl rfl ?_
          refine z_cs1 38 rfl rfl rfl (Nat.le_refl _) (Nat.le_refl _) ?_
          refine r_isHigh ?_
          rw [jHigh_n (by omega)]
          first | refine z_deq 41 rfl rfl (fun hc38 => ?_) (fun hc38 => ?_)
          · refine z_push 70 (nI 0) rfl rfl rfl ?_
            refine z_istore 72 rfl rfl rfl rfl ?_
            refine z_iload 74 rfl rfl rfl ?_
            refine z_zne 77 rfl rfl (by omega) (fun h9 => absurd h9 (by omega)) (fun _ => ?_)
            refine z_iload 79 rfl rfl rfl ?_
            refine z_cs1 82 rfl rfl rfl (Nat.le_refl _) (Nat.le_refl _) ?_
            refine r_isHigh ?_
            rw [jHigh_n (by omega)]
            first | refine z_dne 85 rfl rfl (fun hc82 => ?_) (fun hc82 => ?_)
            · refine z_aload 94 rfl rfl rfl ?_
              refine z_push 96 (-8) rfl rfl rfl ?_
              refine z_cv1 99 rfl rfl hR.1 rfl (Nat.le_refl _) (Nat.le_refl _) ?_
              refine r_tell hR (fun h9 => absurd h9 (by decide)) (fun _ h hR => ?_)
              refine z_ireti rfl (Nat.le_refl _) (Nat.le_refl _) ?_
              have hun : unA A.uns a = (0, A.uns.getD a 0) := by rw [unA, if_neg (by omega), if_pos (by omega)]
              have hpu : ptsU A.uns = none := by
                rw [hpa, ptA, if_neg (by omega), hun]
                exact if_pos rfl
              have e9 : sp_fallback A (nI pt) = (-8, A.tell) := by rw [sp_fallback, if_pos hjp, hpu]
              rw [e9] at q
              exact q h _ hR hI1.tell
            · refine z_iload 87 rfl rfl rfl ?_
              refine z_cs1 90 rfl rfl rfl (Nat.le_refl _) (Nat.le_refl _) ?_
              refine r_isLow ?_
              rw [jLow_n (by omega)]
              first | refine z_deq 93 rfl rfl (fun hc90 => ?_) (fun hc90 => ?_)
              · refine z_aload 101 rfl rfl rfl ?_
                refine y_ga 104 hR rfl rfl rfl ?_
                refine z_iload 105 rfl rfl rfl ?_
                refine z_iload 107 rfl rfl rfl ?_
                refine z_zeq 110 rfl rfl (by omega) (fun _ => ?_) (fun h9 => absurd h9 (by omega))
                refine z_iload 138 rfl rfl rfl ?_
                refine y_as (f := 49) 139 hR rfl rfl rfl rfl (by omega) ?_
                intro h hR
                refine z_iinc 142 _ rfl rfl rfl rfl (by first | with_reducible exact zi_1 _ | rfl) ?_
                refine z_iload 143 rfl rfl rfl ?_
                refine z_iload 145 rfl rfl rfl ?_
                refine z_zeq 148 rfl rfl (by omega) (fun _ => ?_) (fun h9 => absurd h9 (by omega))
                refine z_push 153 (nI 1) rfl rfl rfl ?_
                refine z_bop 154 _ rfl rfl (by first | with_reducible exact zb_0 _ _ | exact zd_0 _ _) ?_
                refine z_istore 155 rfl rfl rfl rfl ?_
                refine z_goto rfl ?_
                have hun : unA A.uns a = (1, A.uns.getD a 0) := by rw [unA, if_neg (by omega), if_neg (by omega)]
                have hal : (acc ++ [(A.uns.getD a 0)]).length = acc.length + 1 := by rw [List.length_append]; rfl
                rw [← hal]
                refine ih (a + 1) (acc ++ [(A.uns.getD a 0)]) _ h _ _ (by omega) (by omega) (by omega) ?_ hR (hO.A (by simp)) (fun j hj => ?_)
                · rw [hpa, ptA, if_neg (by omega), hun]
                  show (if _ then _ else _) = _
                  rw [if_neg (show ¬ (1 : Nat) = 0 by decide)]
                · rw [hal] at hj
                  by_cases e : j = acc.length
                  · subst e; rw [gA_eq, getD_apl]
                  · rw [gA_nj e rfl, hacc j (by omega), getD_apf (by omega)]
              · refine z_aload 94 rfl rfl rfl ?_
                refine z_push 96 (-8) rfl rfl rfl ?_
                refine z_cv1 99 rfl rfl hR.1 rfl (Nat.le_refl _) (Nat.le_refl _) ?_
                refine r_tell hR (fun h9 => absurd h9 (by decide)) (fun _ h hR => ?_)
                refine z_ireti rfl (Nat.le_refl _) (Nat.le_refl _) ?_
                have hun : unA A.uns a = (0, A.uns.getD a 0) := by rw [unA, if_neg (by omega), if_pos (by omega)]
                have hpu : ptsU A.uns = none := by
                  rw [hpa, ptA, if_neg (by omega), hun]
                  exact if_pos rfl
                have e9 : sp_fallback A (nI pt) = (-8, A.tell) := by rw [sp_fallback, if_pos hjp, hpu]
                rw [e9] at q
                exact q h _ hR hI1.tell
          · refine z_iload 42 rfl rfl rfl ?_
            refine z_push 43 (nI 1) rfl rfl rfl ?_
            refine z_bop 44 _ rfl rfl (by first | with_reducible exact zb_0 _ _ | exact zd_0 _ _) ?_
            refine z_aload 45 rfl rfl rfl ?_
            refine y_gi 48 _ hR rfl rfl rfl rfl rfl (by repeat (first | with_reducible exact gI_eq _ _ _ | (with_reducible apply gI_ne; decide) | with_reducible apply gI_A | with_reducible apply gI_O | with_reducible exact k16 | with_reducible exact ksr a (by omega) | with_reducible exact ksr (a + 1) (by omega) | with_reducible rfl)) ?_
            refine z_nge 51 rfl rfl (by omega) (by omega) (fun hc48 => ?_) (fun hc48 => ?_)
            · refine z_push 70 (nI 0) rfl rfl rfl ?_
              refine z_istore 72 rfl rfl rfl rfl ?_
              refine z_iload 74 rfl rfl rfl ?_
              refine z_zne 77 rfl rfl (by omega) (fun h9 => absurd h9 (by omega)) (fun _ => ?_)
              refine z_iload 79 rfl rfl rfl ?_
              refine z_cs1 82 rfl rfl rfl (Nat.le_refl _) (Nat.le_refl _) ?_
              refine r_isHigh ?_
              rw [jHigh_n (by omega)]
              first | refine z_dne 85 rfl rfl (fun hc82 => ?_) (fun hc82 => ?_)
              · refine z_aload 94 rfl rfl rfl ?_
                refine z_push 96 (-8) rfl rfl rfl ?_
                refine z_cv1 99 rfl rfl hR.1 rfl (Nat.le_refl _) (Nat.le_refl _) ?_
                refine r_tell hR (fun h9 => absurd h9 (by decide)) (fun _ h hR => ?_)
                refine z_ireti rfl (Nat.le_refl _) (Nat.le_refl _) ?_
                have hun : unA A.uns a = (0, A.uns.getD a 0) := by rw [unA, if_neg (by omega), if_pos (by omega)]
                have hpu : ptsU A.uns = none := by
                  rw [hpa, ptA, if_neg (by omega), hun]
                  exact if_pos rfl
                have e9 : sp_fallback A (nI pt) = (-8, A.tell) := by rw [sp_fallback, if_pos hjp, hpu]
                rw [e9] at q
                exact q h _ hR hI1.tell
              · refine z_iload 87 rfl rfl rfl ?_
                refine z_cs1 90 rfl rfl rfl (Nat.le_refl _) (Nat.le_refl _) ?_
                refine r_isLow ?_
                rw [jLow_n (by omega)]
                first | refine z_deq 93 rfl rfl (fun hc90 => ?_) (fun hc90 => ?_)
                · refine z_aload 101 rfl rfl rfl ?_
                  refine y_ga 104 hR rfl rfl rfl ?_
                  refine z_iload 105 rfl rfl rfl ?_
                  refine z_iload 107 rfl rfl rfl ?_
                  refine z_zeq 110 rfl rfl (by omega) (fun _ => ?_) (fun h9 => absurd h9 (by omega))
                  refine z_iload 138 rfl rfl rfl ?_
                  refine y_as (f := 49) 139 hR rfl rfl rfl rfl (by omega) ?_
                  intro h hR
                  refine z_iinc 142 _ rfl rfl rfl rfl (by first | with_reducible exact zi_1 _ | rfl) ?_
                  refine z_iload 143 rfl rfl rfl ?_
                  refine z_iload 145 rfl rfl rfl ?_
                  refine z_zeq 148 rfl rfl (by omega) (fun _ => ?_) (fun h9 => absurd h9 (by omega))
                  refine z_push 153 (nI 1) rfl rfl rfl ?_
                  refine z_bop 154 _ rfl rfl (by first | with_reducible exact zb_0 _ _ | exact zd_0 _ _) ?_
                  refine z_istore 155 rfl rfl rfl rfl ?_
                  refine z_goto rfl ?_
                  have hun : unA A.uns a = (1, A.uns.getD a 0) := by rw [unA, if_neg (by omega), if_neg (by omega)]
                  have hal : (acc ++ [(A.uns.getD a 0)]).length = acc.length + 1 := by rw [List.length_append]; rfl
                  rw [← hal]
                  refine ih (a + 1) (acc ++ [(A.uns.getD a 0)]) _ h _ _ (by omega) (by omega) (by omega) ?_ hR (hO.A (by simp)) (fun j hj => ?_)
                  · rw [hpa, ptA, if_neg (by omega), hun]
                    show (if _ then _ else _) = _
                    rw [if_neg (show ¬ (1 : Nat) = 0 by decide)]
                  · rw [hal] at hj
                    by_cases e : j = acc.length
                    · subst e; rw [gA_eq, getD_apl]
                    · rw [gA_nj e rfl, hacc j (by omega), getD_apf (by omega)]
                · refine z_aload 94 rfl rfl rfl ?_
                  refine z_push 96 (-8) rfl rfl rfl ?_
                  refine z_cv1 99 rfl rfl hR.1 rfl (Nat.le_refl _) (Nat.le_refl _) ?_
                  refine r_tell hR (fun h9 => absurd h9 (by decide)) (fun _ h hR => ?_)
                  refine z_ireti rfl (Nat.le_refl _) (Nat.le_refl _) ?_
                  have hun : unA A.uns a = (0, A.uns.getD a 0) := by rw [unA, if_neg (by omega), if_pos (by omega)]
                  have hpu : ptsU A.uns = none := by
                    rw [hpa, ptA, if_neg (by omega), hun]
                    exact if_pos rfl
                  have e9 : sp_fallback A (nI pt) = (-8, A.tell) := by rw [sp_fallback, if_pos hjp, hpu]
                  rw [e9] at q
                  exact q h _ hR hI1.tell
            · refine z_aload 52 rfl rfl rfl ?_
              refine y_ga 55 hR rfl rfl rfl ?_
              refine z_iload 56 rfl rfl rfl ?_
              refine z_push 57 (nI 1) rfl rfl rfl ?_
              refine z_bop 58 _ rfl rfl (by first | with_reducible exact zb_0 _ _ | exact zd_0 _ _) ?_
              refine y_al (f := 17) 59 _ hR rfl rfl rfl rfl (by omega) (by repeat (first | with_reducible exact k16 | with_reducible exact ksr a (by omega) | with_reducible exact ksr (a + 1) (by omega) | with_reducible exact gA_eq _ _ _ _ | (with_reducible apply gA_ne; decide) | with_reducible apply gA_I | with_reducible apply gA_O | (with_reducible apply gA_nj; omega) | with_reducible rfl)) ?_
              refine z_cs1 62 rfl rfl rfl (Nat.le_refl _) (Nat.le_refl _) ?_
              refine r_isLow ?_
              rw [jLow_n (by omega)]
              first | refine z_deq 65 rfl rfl (fun hc62 => ?_) (fun hc62 => ?_)
              · refine z_push 70 (nI 0) rfl rfl rfl ?_
                refine z_istore 72 rfl rfl rfl rfl ?_
                refine z_iload 74 rfl rfl rfl ?_
                refine z_zne 77 rfl rfl (by omega) (fun h9 => absurd h9 (by omega)) (fun _ => ?_)
                refine z_iload 79 rfl rfl rfl ?_
                refine z_cs1 82 rfl rfl rfl (Nat.le_refl _) (Nat.le_refl _) ?_
                refine r_isHigh ?_
                rw [jHigh_n (by omega)]
                first | refine z_dne 85 rfl rfl (fun hc82 => ?_) (fun hc82 => ?_)
                · refine z_aload 94 rfl rfl rfl ?_
                  refine z_push 96 (-8) rfl rfl rfl ?_
                  refine z_cv1 99 rfl rfl hR.1 rfl (Nat.le_refl _) (Nat.le_refl _) ?_
                  refine r_tell hR (fun h9 => absurd h9 (by decide)) (fun _ h hR => ?_)
                  refine z_ireti rfl (Nat.le_refl _) (Nat.le_refl _) ?_
                  have hun : unA A.uns a = (0, A.uns.getD a 0) := by rw [unA, if_neg (by omega), if_pos (by omega)]
                  have hpu : ptsU A.uns = none := by
                    rw [hpa, ptA, if_neg (by omega), hun]
                    exact if_pos rfl
                  have e9 : sp_fallback A (nI pt) = (-8, A.tell) := by rw [sp_fallback, if_pos hjp, hpu]
                  rw [e9] at q
                  exact q h _ hR hI1.tell
                · refine z_iload 87 rfl rfl rfl ?_
                  refine z_cs1 90 rfl rfl rfl (Nat.le_refl _) (Nat.le_refl _) ?_
                  refine r_isLow ?_
                  rw [jLow_n (by omega)]
                  first | refine z_deq 93 rfl rfl (fun hc90 => ?_) (fun hc90 => ?_)
                  · refine z_aload 101 rfl rfl rfl ?_
                    refine y_ga 104 hR rfl rfl rfl ?_
                    refine z_iload 105 rfl rfl rfl ?_
                    refine z_iload 107 rfl rfl rfl ?_
                    refine z_zeq 110 rfl rfl (by omega) (fun _ => ?_) (fun h9 => absurd h9 (by omega))
                    refine z_iload 138 rfl rfl rfl ?_
                    refine y_as (f := 49) 139 hR rfl rfl rfl rfl (by omega) ?_
                    intro h hR
                    refine z_iinc 142 _ rfl rfl rfl rfl (by first | with_reducible exact zi_1 _ | rfl) ?_
                    refine z_iload 143 rfl rfl rfl ?_
                    refine z_iload 145 rfl rfl rfl ?_
                    refine z_zeq 148 rfl rfl (by omega) (fun _ => ?_) (fun h9 => absurd h9 (by omega))
                    refine z_push 153 (nI 1) rfl rfl rfl ?_
                    refine z_bop 154 _ rfl rfl (by first | with_reducible exact zb_0 _ _ | exact zd_0 _ _) ?_
                    refine z_istore 155 rfl rfl rfl rfl ?_
                    refine z_goto rfl ?_
                    have hun : unA A.uns a = (1, A.uns.getD a 0) := by rw [unA, if_neg (by omega), if_neg (by omega)]
                    have hal : (acc ++ [(A.uns.getD a 0)]).length = acc.length + 1 := by rw [List.length_append]; rfl
                    rw [← hal]
                    refine ih (a + 1) (acc ++ [(A.uns.getD a 0)]) _ h _ _ (by omega) (by omega) (by omega) ?_ hR (hO.A (by simp)) (fun j hj => ?_)
                    · rw [hpa, ptA, if_neg (by omega), hun]
                      show (if _ then _ else _) = _
                      rw [if_neg (show ¬ (1 : Nat) = 0 by decide)]
                    · rw [hal] at hj
                      by_cases e : j = acc.length
                      · subst e; rw [gA_eq, getD_apl]
                      · rw [gA_nj e rfl, hacc j (by omega), getD_apf (by omega)]
                  · refine z_aload 94 rfl rfl rfl ?_
                    refine z_push 96 (-8) rfl rfl rfl ?_
                    refine z_cv1 99 rfl rfl hR.1 rfl (Nat.le_refl _) (Nat.le_refl _) ?_
                    refine r_tell hR (fun h9 => absurd h9 (by decide)) (fun _ h hR => ?_)
                    refine z_ireti rfl (Nat.le_refl _) (Nat.le_refl _) ?_
                    have hun : unA A.uns a = (0, A.uns.getD a 0) := by rw [unA, if_neg (by omega), if_pos (by omega)]
                    have hpu : ptsU A.uns = none := by
                      rw [hpa, ptA, if_neg (by omega), hun]
                      exact if_pos rfl
                    have e9 : sp_fallback A (nI pt) = (-8, A.tell) := by rw [sp_fallback, if_pos hjp, hpu]
                    rw [e9] at q
                    exact q h _ hR hI1.tell
              · refine z_push 66 (nI 1) rfl rfl rfl ?_
                refine z_goto rfl ?_
                refine z_istore 72 rfl rfl rfl rfl ?_
                refine z_iload 74 rfl rfl rfl ?_
                refine z_zne 77 rfl rfl (by omega) (fun _ => ?_) (fun h9 => absurd h9 (by omega))
                refine z_aload 101 rfl rfl rfl ?_
                refine y_ga 104 hR rfl rfl rfl ?_
                refine z_iload 105 rfl rfl rfl ?_
                refine z_iload 107 rfl rfl rfl ?_
                refine z_zeq 110 rfl rfl (by omega) (fun h9 => absurd h9 (by omega)) (fun _ => ?_)
                refine z_push 112 (nI 65536) rfl rfl rfl ?_
                refine z_iload 114 rfl rfl rfl ?_
                refine z_push 116 (nI 55296) rfl rfl rfl ?_
                refine z_bop 117 _ rfl rfl (by first | with_reducible exact zb_1 (by omega) | exact zd_1 _ _) ?_
                refine z_push 119 (nI 10) rfl rfl rfl ?_
                refine z_bop 120 _ rfl rfl (shl_n 10 (by decide) (by omega)) ?_
                refine z_bop 121 _ rfl rfl (by first | with_reducible exact zb_0 _ _ | exact zd_0 _ _) ?_
                refine z_aload 122 rfl rfl rfl ?_
                refine y_ga 125 hR rfl rfl rfl ?_
                refine z_iload 126 rfl rfl rfl ?_
                refine z_push 127 (nI 1) rfl rfl rfl ?_
                refine z_bop 128 _ rfl rfl (by first | with_reducible exact zb_0 _ _ | exact zd_0 _ _) ?_
                refine y_al (f := 17) 129 _ hR rfl rfl rfl rfl (by omega) (by repeat (first | with_reducible exact k16 | with_reducible exact ksr a (by omega) | with_reducible exact ksr (a + 1) (by omega) | with_reducible exact gA_eq _ _ _ _ | (with_reducible apply gA_ne; decide) | with_reducible apply gA_I | with_reducible apply gA_O | (with_reducible apply gA_nj; omega) | with_reducible rfl)) ?_
                refine z_bop 130 _ rfl rfl (by first | with_reducible exact zb_0 _ _ | exact zd_0 _ _) ?_
                refine z_push 132 (nI 56320) rfl rfl rfl ?_
                refine z_bop 133 _ rfl rfl (by first | with_reducible exact zb_1 (by omega) | exact zd_1 _ _) ?_
                refine z_goto rfl ?_
                refine y_as (f := 49) 139 hR rfl rfl rfl rfl (by omega) ?_
                intro h hR
                refine z_iinc 142 _ rfl rfl rfl rfl (by first | with_reducible exact zi_1 _ | rfl) ?_
                refine z_iload 143 rfl rfl rfl ?_
                refine z_iload 145 rfl rfl rfl ?_
                refine z_zeq 148 rfl rfl (by omega) (fun h9 => absurd h9 (by omega)) (fun _ => ?_)
                refine z_push 149 (nI 2) rfl rfl rfl ?_
                refine z_goto rfl ?_
                refine z_bop 154 _ rfl rfl (by first | with_reducible exact zb_0 _ _ | exact zd_0 _ _) ?_
                refine z_istore 155 rfl rfl rfl rfl ?_
                refine z_goto rfl ?_
                have hun : unA A.uns a = (2, 65536 + (A.uns.getD a 0 - 55296) * 2 ^ 10 + A.uns.getD (a + 1) 0 - 56320) := if_pos ⟨hc38, by omega, hc62⟩
                have hal : (acc ++ [(65536 + (A.uns.getD a 0 - 55296) * 2 ^ 10 + A.uns.getD (a + 1) 0 - 56320)]).length = acc.length + 1 := by rw [List.length_append]; rfl
                rw [← hal]
                refine ih (a + 2) (acc ++ [(65536 + (A.uns.getD a 0 - 55296) * 2 ^ 10 + A.uns.getD (a + 1) 0 - 56320)]) _ h _ _ (by omega) (by omega) (by omega) ?_ hR (hO.A (by simp)) (fun j hj => ?_)
                · rw [hpa, ptA, if_neg (by omega), hun]
                  show (if _ then _ else _) = _
                  rw [if_neg (show ¬ (2 : Nat) = 0 by decide)]
                · rw [hal] at hj
                  by_cases e : j = acc.length
                  · subst e; rw [gA_eq, getD_apl]
                  · rw [gA_nj e rfl, hacc j (by omega), getD_apf (by omega)]
    refine z_push 14 (nI 0) rfl rfl rfl ?_
    refine z_istore 15 rfl rfl rfl rfl ?_
    refine z_push 16 (nI 0) rfl rfl rfl ?_
    refine z_istore 17 rfl rfl rfl rfl ?_
    exact units (A.uns.length + 1) 0 [] s h _ _ (by omega) (by omega) (by simp) rfl hR On.rfl (fun j hj => absurd hj (Nat.not_lt_zero j))
  · refine z_aload 8 rfl rfl rfl ?_
    refine z_push 9 (-1) rfl rfl rfl ?_
    refine z_cv1 12 rfl rfl hR.1 rfl (Nat.le_refl _) (Nat.le_refl _) ?_
    refine r_tell hR (fun h9 => absurd h9 (by decide)) (fun _ h hR => ?_)
    refine z_ireti rfl (Nat.le_refl _) (Nat.le_refl _) ?_
    have e9 : sp_fallback A p = (-1, A.tell) := if_neg (by rw [hjp0, hc4]; decide)
    rw [e9] at q
    exact q h _ hR hI.tell
