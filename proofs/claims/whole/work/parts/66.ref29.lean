/-! the reference: take, load, store -/
theorem ErI.sQ {b i : Nat} {s0 s : rS} (h : ErI 63 63 b s0 s 0 i) : ErI 63 63 b s0 (stA 63 (b + i) (s.2.2 63 (b + i + 1)) s) 0 (i + 1) := by
  refine ⟨h.1, h.2.1, fun f hf => ?_, fun f h1 h2 j => ?_⟩
  · rw [gAf (by omega)]; exact h.2.2.1 f hf
  · obtain rfl : f = 63 := by omega
    by_cases hj : j = b + i
    · subst hj
      rw [gA_eq, if_pos (by omega), h.2.2.2 63 (by omega) (by omega), if_neg (by omega)]
    · rw [gA_nj hj rfl, h.2.2.2 63 (by omega) (by omega)]
      by_cases h3 : b + 0 ≤ j ∧ j < b + i
      · rw [if_pos h3, if_pos (by omega)]
      · rw [if_neg h3, if_neg (by omega)]
theorem RInv.tak {s s' : rS} {A : Ab} {D v : Nat} {l : List Nat} {m : Mc} (hI : RInv s A) (hB : McB A.mcs) (hD : D < 4) (hm : A.mcs D = some m) (hq : m.2.2.2.2.2.2.2.2 = v :: l) (he : ErI 63 63 (1200 * D) (stA 62 D l.length s) s' 0 l.length) : RInv s' (A.wMcs (setM A.mcs D (m.1, m.2.1, m.2.2.1, m.2.2.2.1, m.2.2.2.2.1, m.2.2.2.2.2.1, m.2.2.2.2.2.2.1, m.2.2.2.2.2.2.2.1, l))) := by
  obtain ⟨e1, e2, e3, e4⟩ := he
  obtain ⟨a1, a2, a3, a4, a5, a6, a7, a8, a9, a10, a11, a12⟩ := (hI.2.2.2.2.2.2.1 D hD).2 m hm
  have hb := (hB D m hm).2
  rw [hq, List.length_cons] at hb
  have n : ∀ f, f ≠ 63 → f ≠ 62 → s'.2.2 f = s.2.2 f := fun f h1 h2 => by rw [e3 f (by omega), gAf h2]
  have h := hI.mc (s' := s') (d := D) (m := (m.1, m.2.1, m.2.2.1, m.2.2.2.1, m.2.2.2.2.1, m.2.2.2.2.2.1, m.2.2.2.2.2.2.1, m.2.2.2.2.2.2.2.1, l)) hB (fun c hc hr => ⟨by rw [e1]; rfl, n c (by omega) (by omega)⟩)
    ⟨by rw [n 52 (by decide) (by decide)]; exact a1, by rw [n 53 (by decide) (by decide)]; exact a2, by rw [n 54 (by decide) (by decide)]; exact a3, by rw [n 55 (by decide) (by decide)]; exact a4, by rw [n 56 (by decide) (by decide)]; exact a5, by rw [n 57 (by decide) (by decide)]; exact a6, by rw [n 58 (by decide) (by decide)]; exact a7, by rw [n 59 (by decide) (by decide)]; exact a8, by rw [n 60 (by decide) (by decide)]; exact a9, by rw [n 61 (by decide) (by decide)]; exact a10, by rw [e3 62 (by decide)]; exact gA_eq _ _ _ _, fun j hj => ?_⟩
    (fun i hi hd => ⟨by rw [n 52 (by decide) (by decide)], by rw [n 53 (by decide) (by decide)], by rw [n 54 (by decide) (by decide)], by rw [n 55 (by decide) (by decide)], by rw [n 56 (by decide) (by decide)], by rw [n 57 (by decide) (by decide)], by rw [n 58 (by decide) (by decide)], by rw [n 60 (by decide) (by decide)], by rw [n 61 (by decide) (by decide)], by rw [e3 62 (by decide)]; exact gA_nj hd rfl, fun j hj => by rw [n 59 (by decide) (by decide)], fun j hj => ?_⟩)
  · rw [show s'.1 22 = A.plc from by rw [e1]; exact hI.2.2.2.2.2.2.2.1, wPlc_id] at h
    exact h
  · have hj' : j < l.length := hj
    rw [e4 63 (by decide) (by decide), if_pos (by omega), gAf (by decide)]
    have := a12 (j + 1) (by rw [hq, List.length_cons]; omega)
    rw [hq] at this
    rw [show 1200 * D + j + 1 = 1200 * D + (j + 1) by omega, this]
    simp
  · rw [e4 63 (by decide) (by decide), if_neg (by omega), gAf (by decide)]
set_option maxRecDepth 10000 in
theorem r_take {d r : Nat} {h h0 : mH} {s : rS} {A : Ab} {d0 : Int32} {Q : mP} (hR : Rf r h0 s h) (hI : RInv s A) (hB : McB A.mcs)  (q : ∀ h' s', Rf r h0 s' h' → RInv s' (sp_take A d0).2 → Q (some (.int (sp_take A d0).1)) h') : mWP (d + 2) 244 [.ref r, .int d0] h Q := by
  refine z_in [some (.ref r), some (.int d0), none, none] (by rfl) rfl rfl rfl ?_
  refine z_iload 1 rfl rfl rfl ?_
  refine z_push 2 (nI 0) rfl rfl rfl ?_
  refine z_push 3 (nI 3) rfl rfl rfl ?_
  refine z_cs3 6 rfl rfl rfl (Nat.le_refl _) (Nat.le_refl _) ?_
  refine r_in ?_
  rw [jIn_l (by omega) (by omega)]
  first | refine z_bne 9 rfl rfl (fun hc6 => ?_) (fun hc6 => ?_)
  · rw [decide_eq_true_eq] at hc6
    obtain ⟨D, hD, rfl, hd1, hd2⟩ := ix_of (x := d0) (n := 4) (by omega)
    have h52 := mc_52 hI hD
    refine z_aload 16 rfl rfl rfl ?_
    refine y_ga 19 hR rfl rfl rfl ?_
    refine z_iload 20 rfl rfl rfl ?_
    refine y_bb (f := 52) 21 _ hR rfl rfl rfl rfl (by omega) (by repeat (first | with_reducible exact h52 | with_reducible exact a11 | with_reducible exact hq0 | with_reducible exact gA_eq _ _ _ _ | (with_reducible apply gA_ne; decide) | with_reducible apply gA_I | with_reducible apply gA_O | (with_reducible apply gA_nj; omega) | with_reducible rfl)) ?_
    first | refine z_beq 24 rfl rfl (fun hc21 => ?_) (fun hc21 => ?_)
    · refine z_aload 34 rfl rfl rfl ?_
      refine z_push 36 (-2) rfl rfl rfl ?_
      refine z_cv1 39 rfl rfl hR.1 rfl (Nat.le_refl _) (Nat.le_refl _) ?_
      refine r_tell hR (fun h9 => absurd h9 (by decide)) (fun _ h hR => ?_)
      refine z_ireti rfl (Nat.le_refl _) (Nat.le_refl _) ?_
      have hm : A.mcs D = none := by simpa using hc21
      have e9 : sp_take A (nI D) = (-2, A.tell) := by rw [sp_take, if_pos (by omega), hd2, hm]
      rw [e9] at q
      exact q h _ hR hI.tell
    · obtain ⟨m, hm⟩ := Option.isSome_iff_exists.mp hc21
      obtain ⟨a1, a2, a3, a4, a5, a6, a7, a8, a9, a10, a11, a12⟩ := (hI.2.2.2.2.2.2.1 D hD).2 m hm
      have hb := (hB D m hm).2
      refine z_aload 25 rfl rfl rfl ?_
      refine y_ga 28 hR rfl rfl rfl ?_
      refine z_iload 29 rfl rfl rfl ?_
      refine y_al (f := 62) 30 _ hR rfl rfl rfl rfl (by omega) (by repeat (first | with_reducible exact h52 | with_reducible exact a11 | with_reducible exact hq0 | with_reducible exact gA_eq _ _ _ _ | (with_reducible apply gA_ne; decide) | with_reducible apply gA_I | with_reducible apply gA_O | (with_reducible apply gA_nj; omega) | with_reducible rfl)) ?_
      first | refine z_zne 33 rfl rfl (by omega) (fun hc30 => ?_) (fun hc30 => ?_)
      · obtain ⟨v, l, hq⟩ : ∃ v l, m.2.2.2.2.2.2.2.2 = v :: l := by
          cases hx : m.2.2.2.2.2.2.2.2 with
          | nil => rw [hx] at hc30; exact absurd rfl hc30
          | cons v l => exact ⟨v, l, rfl⟩
        rw [hq, List.length_cons] at hb a11
        have hq0 : s.2.2 63 (1200 * D) = v := by have := a12 0 (by rw [hq, List.length_cons]; omega); rw [hq] at this; exact this
        have e9 : sp_take A (nI D) = (nI v, A.wMcs (setM A.mcs D (m.1, m.2.1, m.2.2.1, m.2.2.2.1, m.2.2.2.2.1, m.2.2.2.2.2.1, m.2.2.2.2.2.2.1, m.2.2.2.2.2.2.2.1, l))) := by
          rw [sp_take, if_pos (by omega), hd2, hm]
          simp only [hq]
        have loop : ∀ m9 i s1 h, l.length < i + m9 → i ≤ l.length → Rf r h0 s1 h → ErI 63 63 (1200 * D) (stA 62 D l.length s) s1 0 i → mZ (d + 1) tk_244 0 0 Q 63 [some (.ref r), some (.int (nI D)), some (.int (nI v)), some (.int (nI i))] [] h 0 0 := by
          intro m9
          induction m9 with
          | zero => intro i s1 h h1 h2; omega
          | succ m9 ih =>
            intro i s1 h h1 h2 hR he
            have k62 : s1.2.2 62 D = l.length := by rw [he.2.2.1 62 (by decide)]; exact gA_eq _ _ _ _
            refine z_iload 64 rfl rfl rfl ?_
            refine z_aload 65 rfl rfl rfl ?_
            refine y_ga 68 hR rfl rfl rfl ?_
            refine z_iload 69 rfl rfl rfl ?_
            refine y_al (f := 62) 70 _ hR rfl rfl rfl rfl (by omega) (by repeat (first | with_reducible exact k62 | with_reducible exact gA_eq _ _ _ _ | (with_reducible apply gA_ne; decide) | with_reducible apply gA_I | with_reducible apply gA_O | (with_reducible apply gA_nj; omega) | with_reducible rfl)) ?_
            refine z_nge 73 rfl rfl (by omega) (by omega) (fun hc70 => ?_) (fun hc70 => ?_)
            · refine z_iload 106 rfl rfl rfl ?_
              refine z_ireti rfl (Nat.le_refl _) (Nat.le_refl _) ?_
              obtain rfl : i = l.length := by omega
              rw [e9] at q
              exact q h s1 hR (hI.tak hB hD hm hq he)
            · refine z_aload 74 rfl rfl rfl ?_
              refine y_ga 77 hR rfl rfl rfl ?_
              refine z_push 80 (nI 1200) rfl rfl rfl ?_
              refine z_iload 81 rfl rfl rfl ?_
              refine z_bop 82 _ rfl rfl (by first | with_reducible exact zb_2 _ _ | exact zd_2 _ _) ?_
              refine z_iload 83 rfl rfl rfl ?_
              refine z_bop 84 _ rfl rfl (by first | with_reducible exact zb_0 _ _ | exact zd_0 _ _) ?_
              refine z_aload 85 rfl rfl rfl ?_
              refine y_ga 88 hR rfl rfl rfl ?_
              refine z_push 91 (nI 1200) rfl rfl rfl ?_
              refine z_iload 92 rfl rfl rfl ?_
              refine z_bop 93 _ rfl rfl (by first | with_reducible exact zb_2 _ _ | exact zd_2 _ _) ?_
              refine z_iload 94 rfl rfl rfl ?_
              refine z_bop 95 _ rfl rfl (by first | with_reducible exact zb_0 _ _ | exact zd_0 _ _) ?_
              refine z_push 96 (nI 1) rfl rfl rfl ?_
              refine z_bop 97 _ rfl rfl (by first | with_reducible exact zb_0 _ _ | exact zd_0 _ _) ?_
              refine y_al (f := 63) 98 _ hR rfl rfl rfl rfl (by omega) (by repeat (first | with_reducible exact k62 | with_reducible exact gA_eq _ _ _ _ | (with_reducible apply gA_ne; decide) | with_reducible apply gA_I | with_reducible apply gA_O | (with_reducible apply gA_nj; omega) | with_reducible rfl)) ?_
              refine y_as (f := 63) 99 hR rfl rfl rfl rfl (by omega) ?_
              intro h hR
              refine z_iinc 102 _ rfl rfl rfl rfl (by first | with_reducible exact zi_1 _ | rfl) ?_
              refine z_goto rfl ?_
              exact ih (i + 1) _ h (by omega) (by omega) hR he.sQ
        refine z_aload 41 rfl rfl rfl ?_
        refine y_ga 44 hR rfl rfl rfl ?_
        refine z_push 47 (nI 1200) rfl rfl rfl ?_
        refine z_iload 48 rfl rfl rfl ?_
        refine z_bop 49 _ rfl rfl (by first | with_reducible exact zb_2 _ _ | exact zd_2 _ _) ?_
        refine y_al (f := 63) 50 _ hR rfl rfl rfl rfl (by omega) (by repeat (first | with_reducible exact h52 | with_reducible exact a11 | with_reducible exact hq0 | with_reducible exact gA_eq _ _ _ _ | (with_reducible apply gA_ne; decide) | with_reducible apply gA_I | with_reducible apply gA_O | (with_reducible apply gA_nj; omega) | with_reducible rfl)) ?_
        refine z_istore 51 rfl rfl rfl rfl ?_
        refine z_aload 52 rfl rfl rfl ?_
        refine y_ga 55 hR rfl rfl rfl ?_
        refine z_iload 56 rfl rfl rfl ?_
        refine z_dup2 57 rfl rfl ?_
        refine y_al (f := 62) 58 _ hR rfl rfl rfl rfl (by omega) (by repeat (first | with_reducible exact h52 | with_reducible exact a11 | with_reducible exact hq0 | with_reducible exact gA_eq _ _ _ _ | (with_reducible apply gA_ne; decide) | with_reducible apply gA_I | with_reducible apply gA_O | (with_reducible apply gA_nj; omega) | with_reducible rfl)) ?_
        refine z_push 59 (nI 1) rfl rfl rfl ?_
        refine z_bop 60 _ rfl rfl (by first | with_reducible exact zb_1 (by omega) | exact zd_1 _ _) ?_
        refine y_as (f := 62) 61 hR rfl rfl rfl rfl (by omega) ?_
        intro h hR
        refine z_push 62 (nI 0) rfl rfl rfl ?_
        refine z_istore 63 rfl rfl rfl rfl ?_
        exact loop (l.length + 1) 0 _ h (by omega) (by omega) hR ErI.z
      · refine z_aload 34 rfl rfl rfl ?_
        refine z_push 36 (-2) rfl rfl rfl ?_
        refine z_cv1 39 rfl rfl hR.1 rfl (Nat.le_refl _) (Nat.le_refl _) ?_
        refine r_tell hR (fun h9 => absurd h9 (by decide)) (fun _ h hR => ?_)
        refine z_ireti rfl (Nat.le_refl _) (Nat.le_refl _) ?_
        have hn : m.2.2.2.2.2.2.2.2 = [] := List.length_eq_zero_iff.mp hc30
        have e9 : sp_take A (nI D) = (-2, A.tell) := by
          rw [sp_take, if_pos (by omega), hd2, hm]
          simp only [hn]
        rw [e9] at q
        exact q h _ hR hI.tell
  · refine z_aload 10 rfl rfl rfl ?_
    refine z_push 11 (-1) rfl rfl rfl ?_
    refine z_cv1 14 rfl rfl hR.1 rfl (Nat.le_refl _) (Nat.le_refl _) ?_
    refine r_tell hR (fun h9 => absurd h9 (by decide)) (fun _ h hR => ?_)
    refine z_ireti rfl (Nat.le_refl _) (Nat.le_refl _) ?_
    rw [decide_eq_false_iff_not] at hc6
    have e9 : sp_take A d0 = (-1, A.tell) := if_neg (by omega)
    rw [e9] at q
    exact q h _ hR hI.tell
set_option maxRecDepth 10000 in
theorem r_load {d r : Nat} {h h0 : mH} {s : rS} {D st pn : Nat} {ks : List Nat} {Q : mP} (hR : Rf r h0 s h) (hD : D < 4) (h56 : s.2.2 56 D = st) (h57 : s.2.2 57 D = pn) (h58 : s.2.2 58 D = ks.length) (h59 : Seg (s.2.2 59) (8 * D) ks) (hk8 : ks.length ≤ 8)  (q : ∀ h' s', Rf r h0 s' h' → Keep s s' → (∀ f, f ∉ [34, 35, 37, 38, 64] → s'.2.2 f = s.2.2 f) → s'.2.1 = 65 → s'.1 22 = s.1 22 → s'.1 34 = st → s'.1 35 = pn → s'.1 37 = 0 → s'.1 38 = 1200 → Seg (s'.2.2 64) 0 ks → Q none h') : mWP (d + 1) 238 [.ref r, .int (nI D)] h Q := by
  have loop : ∀ m9 i s1 h, ks.length < i + m9 → i ≤ ks.length → Rf r h0 s1 h → Keep s s1 → (∀ f, f ∉ [34, 35, 37, 38, 64] → s1.2.2 f = s.2.2 f) → s1.2.1 = 65 → s1.1 22 = s.1 22 → s1.1 34 = st → s1.1 35 = pn → s1.1 37 = 0 → s1.1 38 = 1200 → (∀ j, j < i → s1.2.2 64 j = ks.getD j 0) → mZ d tk_238 0 0 Q 42 [some (.ref r), some (.int (nI D)), some (.int (nI i))] [] h 0 0 := by
    intro m9
    induction m9 with
    | zero => intro i s1 h h1 h2; omega
    | succ m9 ih =>
      intro i s1 h h1 h2 hR hK hfa ho h22 h34 h35 h37 h38 hks
      have k58 : s1.2.2 58 D = ks.length := by rw [(hK 58 rfl).2]; exact h58
      have k59 : ∀ j, j < ks.length → s1.2.2 59 (8 * D + j) = ks.getD j 0 := fun j hj => by rw [(hK 59 rfl).2]; exact h59 j hj
      refine z_iload 43 rfl rfl rfl ?_
      refine z_aload 44 rfl rfl rfl ?_
      refine y_ga 47 hR rfl rfl rfl ?_
      refine z_iload 48 rfl rfl rfl ?_
      refine y_al (f := 58) 49 _ hR rfl rfl rfl rfl (by omega) (by repeat (first | with_reducible exact k58 | with_reducible exact k59 i (by omega) | with_reducible exact gA_eq _ _ _ _ | (with_reducible apply gA_ne; decide) | with_reducible apply gA_I | with_reducible apply gA_O | (with_reducible apply gA_nj; omega) | with_reducible rfl)) ?_
      refine z_nge 52 rfl rfl (by omega) (by omega) (fun hc49 => ?_) (fun hc49 => ?_)
      · refine z_vret rfl (Nat.le_refl _) (Nat.le_refl _) ?_
        obtain rfl : i = ks.length := by omega
        exact q h s1 hR hK hfa ho h22 h34 h35 h37 h38 (fun j hj => by rw [Nat.zero_add]; exact hks j hj)
      · refine z_aload 53 rfl rfl rfl ?_
        refine y_ga 56 hR rfl rfl rfl ?_
        refine z_iload 57 rfl rfl rfl ?_
        refine z_aload 58 rfl rfl rfl ?_
        refine y_ga 61 hR rfl rfl rfl ?_
        refine z_push 63 (nI 8) rfl rfl rfl ?_
        refine z_iload 64 rfl rfl rfl ?_
        refine z_bop 65 _ rfl rfl (by first | with_reducible exact zb_2 _ _ | exact zd_2 _ _) ?_
        refine z_iload 66 rfl rfl rfl ?_
        refine z_bop 67 _ rfl rfl (by first | with_reducible exact zb_0 _ _ | exact zd_0 _ _) ?_
        refine y_al (f := 59) 68 _ hR rfl rfl rfl rfl (by omega) (by repeat (first | with_reducible exact k58 | with_reducible exact k59 i (by omega) | with_reducible exact gA_eq _ _ _ _ | (with_reducible apply gA_ne; decide) | with_reducible apply gA_I | with_reducible apply gA_O | (with_reducible apply gA_nj; omega) | with_reducible rfl)) ?_
        refine y_as (f := 64) 69 hR rfl rfl rfl rfl (by omega) ?_
        intro h hR
        refine z_iinc 72 _ rfl rfl rfl rfl (by first | with_reducible exact zi_1 _ | rfl) ?_
        refine z_goto rfl ?_
        refine ih (i + 1) _ h (by omega) (by omega) hR (hK.A rfl) (fun f hf => (gAf (fun e => hf (by simp [e]))).trans (hfa f hf)) ho h22 h34 h35 h37 h38 (fun j hj => ?_)
        by_cases e : j = i
        · subst e; exact gA_eq _ _ _ _
        · exact (gA_nj e rfl).trans (hks j (by omega))
  refine z_in [some (.ref r), some (.int (nI D)), none] (by rfl) rfl rfl rfl ?_
  refine z_aload 1 rfl rfl rfl ?_
  refine z_aload 2 rfl rfl rfl ?_
  refine y_ga 5 hR rfl rfl rfl ?_
  refine z_iload 6 rfl rfl rfl ?_
  refine y_al (f := 56) 7 _ hR rfl rfl rfl rfl (by omega) (by repeat (first | with_reducible exact h56 | with_reducible exact h57 | with_reducible exact gA_eq _ _ _ _ | (with_reducible apply gA_ne; decide) | with_reducible apply gA_I | with_reducible apply gA_O | (with_reducible apply gA_nj; omega) | with_reducible rfl)) ?_
  refine y_pi 10 hR rfl rfl rfl rfl rfl (mFi rfl) ?_
  intro h hR
  refine z_aload 11 rfl rfl rfl ?_
  refine z_aload 12 rfl rfl rfl ?_
  refine y_ga 15 hR rfl rfl rfl ?_
  refine z_iload 16 rfl rfl rfl ?_
  refine y_al (f := 57) 17 _ hR rfl rfl rfl rfl (by omega) (by repeat (first | with_reducible exact h56 | with_reducible exact h57 | with_reducible exact gA_eq _ _ _ _ | (with_reducible apply gA_ne; decide) | with_reducible apply gA_I | with_reducible apply gA_O | (with_reducible apply gA_nj; omega) | with_reducible rfl)) ?_
  refine y_pi 20 hR rfl rfl rfl rfl rfl (mFi rfl) ?_
  intro h hR
  refine z_aload 21 rfl rfl rfl ?_
  refine z_aload 22 rfl rfl rfl ?_
  refine y_ga 25 hR rfl rfl rfl ?_
  refine y_po 28 (f := 65) hR rfl rfl rfl ?_
  intro h hR
  refine z_aload 29 rfl rfl rfl ?_
  refine z_push 30 (nI 0) rfl rfl rfl ?_
  refine y_pi 33 hR rfl rfl rfl rfl rfl (mFi rfl) ?_
  intro h hR
  refine z_aload 34 rfl rfl rfl ?_
  refine z_push 37 (nI 1200) rfl rfl rfl ?_
  refine y_pi 40 hR rfl rfl rfl rfl rfl (mFi rfl) ?_
  intro h hR
  refine z_push 41 (nI 0) rfl rfl rfl ?_
  refine z_istore 42 rfl rfl rfl rfl ?_
  exact loop (ks.length + 1) 0 _ h (by omega) (by omega) hR (((((Keep.rfl.I rfl).I rfl).O).I rfl).I rfl) (fun f hf => rfl) rfl rfl (by repeat (first | with_reducible exact gI_eq _ _ _ | (with_reducible apply gI_ne; decide) | with_reducible apply gI_A | with_reducible apply gI_O | with_reducible rfl | exact gI_eq _ _ _)) (by repeat (first | with_reducible exact gI_eq _ _ _ | (with_reducible apply gI_ne; decide) | with_reducible apply gI_A | with_reducible apply gI_O | with_reducible rfl | exact gI_eq _ _ _)) (by repeat (first | with_reducible exact gI_eq _ _ _ | (with_reducible apply gI_ne; decide) | with_reducible apply gI_A | with_reducible apply gI_O | with_reducible rfl | exact gI_eq _ _ _)) (by repeat (first | with_reducible exact gI_eq _ _ _ | (with_reducible apply gI_ne; decide) | with_reducible apply gI_A | with_reducible apply gI_O | with_reducible rfl | exact gI_eq _ _ _)) (fun j hj => absurd hj (by omega))
