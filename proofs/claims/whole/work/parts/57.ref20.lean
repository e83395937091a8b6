/-! the reference: go, putPoint, goHome -/
theorem r_leads2 {r p to many D fr : Nat} {h h0 : mH} {s : rS} {E : List En} {H : List Sh} {sg : Bool} {Q : mP} (hW : TbW E H) (hto : to < 4) (hm : many < 8) (hD : many + 2 ≤ D) (hR : Rf r h0 s h) (hT : TbR s p E H) (hfr : fr < 4) (q : ∀ h' s', Rf r h0 s' h' → On [46] s s' → (∀ l, ldW H to sg many fr = some l → l.length = many ∧ ∀ j, j < many → s'.2.2 46 (many - 1 - j) = 10 * p + l.getD j 0) → Q (some (.int (bI (ldW H to sg many fr).isSome))) h') : mWP D 217 [.ref r, .int (nI p), .int (nI fr), .int (nI to), .int (nI many), .int (bI sg)] h Q := by
  obtain ⟨d, rfl⟩ : ∃ d, D = d + many + 2 := ⟨D - many - 2, by omega⟩
  exact r_leads hW hto many hm hR hT hfr q
def gw (H : List Sh) (to : Nat) (sg : Bool) (s : Nat) : Nat → Nat → Option (List Nat)
  | 0, _ => none
  | m + 1, n => match ldW H to sg n s with
    | some l => some l
    | none => gw H to sg s m (n + 1)
/-- the shifts from a state to another one -/
def gP (H : List Sh) (to : Nat) (sg : Bool) (s : Nat) : Option (List Nat) := gw H to sg s 7 0
def gS (H : List Sh) : List Nat → Nat → Nat
  | [], s => s
  | k :: l, s => gS H l (if shK H k = true then shG H k else s)
theorem gw_s {H : List Sh} {to s n : Nat} {sg : Bool} (h : n < 7) : gw H to sg s (7 - n) n = match ldW H to sg n s with
    | some l => some l
    | none => gw H to sg s (7 - (n + 1)) (n + 1) := by
  rw [show 7 - n = 7 - (n + 1) + 1 by omega]; rfl
def wL (o : Nat) : List Nat := [31, 32, 33, 34, 37, 46, 47, o]
def gL (o : Nat) : List Nat := [34, 37, 46, 47, o]
theorem gL_w (o : Nat) : ∀ x, x ∈ gL o → x ∈ wL o := by intro x hx; simp only [gL, List.mem_cons, List.not_mem_nil, or_false] at hx; rcases hx with rfl | rfl | rfl | rfl | rfl <;> simp [wL]
/-- what becomes of bytes that are put -/
def wQ (L : List Nat) (r : Nat) (h0 : mH) (s : rS) (o : Nat) (c : Bool) (m : Nat) (l ws : List Nat) (st : Nat) (Q : mP) : Prop := (l.length + ws.length ≤ m → ∀ h' s', Rf r h0 s' h' → On L s s' → WOut s' o c m (l ++ ws) → s'.1 34 = st → Q (some (.int (nI 0))) h') ∧ (m < l.length + ws.length → ∀ h' s', Rf r h0 s' h' → On L s s' → Q (some (.int (-6))) h')
/-- an array that bytes are put into -/
def wO (o kk nn m : Nat) (c : Bool) : Prop := rArr o = some (kk, 0, nn) ∧ (c = false → m ≤ nn) ∧ m < 2 ^ 31 ∧ (o = 45 ∨ o = 65)
theorem wO.ne {o kk nn m : Nat} {c : Bool} (h : wO o kk nn m c) : 48 ≠ o ∧ 38 ≠ o ∧ ∀ c, c ∈ wL o → rPers c = false := by
  rcases h.2.2.2 with rfl | rfl <;> exact ⟨by decide, by decide, by decide⟩
theorem wO.n2 {o kk nn m : Nat} {c : Bool} (h : wO o kk nn m c) : ∀ x, x ∈ wL o → 13 < x := by
  rcases h.2.2.2 with rfl | rfl <;> decide
theorem wO.g2 {o kk nn m : Nat} {c : Bool} (h : wO o kk nn m c) : ∀ x, x ∈ gL o → 13 < x := by
  rcases h.2.2.2 with rfl | rfl <;> decide
theorem wO.g3 {o kk nn m : Nat} {c : Bool} (h : wO o kk nn m c) : ∀ x, x ∈ [31, 32, 33] → x ∉ gL o := by
  rcases h.2.2.2 with rfl | rfl <;> decide
theorem wO.n3 {o kk nn m : Nat} {c : Bool} (h : wO o kk nn m c) : ∀ x, x ∈ [31, 32, 33, 34, 46, 47] → x ∉ [37, o] := by
  rcases h.2.2.2 with rfl | rfl <;> decide
theorem wO.n4 {o kk nn m : Nat} {c : Bool} (h : wO o kk nn m c) : o ∉ [46] ∧ o ∉ [31, 32, 33] := by
  rcases h.2.2.2 with rfl | rfl <;> decide
theorem WOut.on {s s' : rS} {o kk nn m : Nat} {c : Bool} {l : List Nat} {L : List Nat} (h : WOut s o c m l) (hO : On L s s') (h1 : 48 ∉ L) (h2 : 38 ∉ L) (h3 : 37 ∉ L) (h4 : o ∉ L) : WOut s' o c m l :=
  ⟨hO.2.trans h.1, (hO.1 48 h1).1.trans h.2.1, (hO.1 38 h2).1.trans h.2.2.1, (hO.1 37 h3).1.trans h.2.2.2.1, h.2.2.2.2.1, fun hc => by rw [(hO.1 o h4).2]; exact h.2.2.2.2.2 hc⟩
theorem WOut.I {s : rS} {o m : Nat} {c : Bool} {l : List Nat} {f x : Nat} (h : WOut s o c m l) (h1 : f ≠ 48) (h2 : f ≠ 38) (h3 : f ≠ 37) : WOut (stI f x s) o c m l :=
  ⟨h.1, (gI_ne (Ne.symm h1) rfl).trans h.2.1, (gI_ne (Ne.symm h2) rfl).trans h.2.2.1, (gI_ne (Ne.symm h3) rfl).trans h.2.2.2.1, h.2.2.2.2.1, h.2.2.2.2.2⟩
set_option maxRecDepth 100000 in
theorem r_go {d r : Nat} {h h0 : mH} {s : rS} {p to st o kk nn m : Nat} {sg c : Bool} {l0 l : List Nat} {E : List En} {H : List Sh} {Q : mP} (hR : Rf r h0 s h) (hT : TbR s p E H) (hW : TbW E H) (hto : to < 4) (hst : st < 4) (h34 : s.1 34 = st) (hA : wO o kk nn m c) (hw : WOut s o c m l0) (hg : gP H to sg st = some l)  (q : wQ (gL o) r h0 s o c m l0 (l.map (shV H)) (gS H l st) Q) : mWP (d + 10) 219 [.ref r, .int (nI p), .int (nI to), .int (bI sg)] h Q := by
  have second : ∀ rest l1 st1 s1 h o5, (∀ j, j < rest.length → s1.2.2 46 (rest.length - 1 - j) = 10 * p + rest.getD j 0) → (∀ x, x ∈ rest → x < H.length) → rest.length ≤ 7 → Rf r h0 s1 h → On (gL o) s s1 → WOut s1 o c m l1 → s1.1 34 = st1 → (l1.length + rest.length ≤ m → ∀ h' s', Rf r h0 s' h' → On (gL o) s s' → WOut s' o c m (l1 ++ rest.map (shV H)) → s'.1 34 = gS H rest st1 → Q (some (.int (nI 0))) h') → (m < l1.length + rest.length → ∀ h' s', Rf r h0 s' h' → On (gL o) s s' → Q (some (.int (-6))) h') → mZ (d + 9) tk_219 0 0 Q 53 [some (.ref r), some (.int (nI p)), some (.int (nI to)), some (.int (bI sg)), some (.int (dnI rest.length)), o5] [] h 0 0 := by
    intro rest
    induction rest with
    | nil =>
      intro l1 st1 s1 h o5 hway hin h7 hR hO hw h34 qa qb
      rw [show dnI ([] : List Nat).length = -1 from rfl]
      refine z_iload 55 rfl rfl rfl ?_
      refine z_jlt 58 rfl rfl (fun _ => ?_) (fun h9 => absurd h9 (by decide))
      refine z_push 122 (nI 0) rfl rfl rfl ?_
      refine z_ireti rfl (Nat.le_refl _) (Nat.le_refl _) ?_
      have := hw.2.2.2.2.1
      exact qa (by simpa using this) h s1 hR hO (by simpa using hw) h34
    | cons k rest ih =>
      intro l1 st1 s1 h o5 hway hin h7 hR hO hw h34 qa qb
      rw [show dnI (k :: rest).length = nI rest.length from rfl]
      have hkH := hin k (by simp)
      have hl2 := hW.2.1
      rw [List.length_cons] at h7 qa qb
      have hwk : s1.2.2 46 rest.length = 10 * p + k := hway 0 (by simp)
      obtain ⟨hp, hT3, hT4, hTe, hTs⟩ := hO.tb hA.g2 hT
      obtain ⟨ht1, ht2, ht3, ht4⟩ := hTs k hkH
      have hlm := hw.2.2.2.2.1
      refine z_iload 55 rfl rfl rfl ?_
      refine z_zlt 58 rfl rfl (by omega) (fun h9 => absurd h9 (by omega)) (fun _ => ?_)
      refine z_aload 59 rfl rfl rfl ?_
      refine z_aload 60 rfl rfl rfl ?_
      refine y_ga 63 hR rfl rfl rfl ?_
      refine z_aload 64 rfl rfl rfl ?_
      refine y_ga 67 hR rfl rfl rfl ?_
      refine z_iload 69 rfl rfl rfl ?_
      refine y_al (f := 46) 70 _ hR rfl rfl rfl rfl (by omega) (by repeat (first | with_reducible exact hwk | with_reducible exact ht2 | with_reducible exact k46 | with_reducible exact k13 | with_reducible exact k12 | with_reducible exact gA_eq _ _ _ _ | (with_reducible apply gA_ne; decide) | with_reducible apply gA_I | with_reducible apply gA_O | (with_reducible apply gA_nj; omega) | with_reducible rfl)) ?_
      refine y_al (f := 11) 71 _ hR rfl rfl rfl rfl (by omega) (by repeat (first | with_reducible exact hwk | with_reducible exact ht2 | with_reducible exact k46 | with_reducible exact k13 | with_reducible exact k12 | with_reducible exact gA_eq _ _ _ _ | (with_reducible apply gA_ne; decide) | with_reducible apply gA_I | with_reducible apply gA_O | (with_reducible apply gA_nj; omega) | with_reducible rfl)) ?_
      refine z_cv1 74 rfl rfl hR.1 rfl (Nat.le_refl _) (Nat.le_refl _) ?_
      refine r_putByte (b := shV H k) hR hw hA.1 hA.2.1 hA.2.2.1 hA.ne.1 hA.ne.2.1 (fun hlt h s2 hR hO2 hw2 => ?_) (fun hfull => ?_)
      · have k46 : s2.2.2 46 rest.length = 10 * p + k := by rw [(hO2.1 46 (hA.n3 46 (by decide))).2]; exact hwk
        have hO3 := hO.trans (hO2.mono (show ∀ x, x ∈ [37, o] → x ∈ gL o from by intro x hx; simp only [List.mem_cons, List.not_mem_nil, or_false] at hx; rcases hx with rfl | rfl <;> simp [gL]))
        obtain ⟨hp2, hU3, hU4, hUe, hUs⟩ := hO3.tb hA.g2 hT
        have k13 : s2.2.2 13 (10 * p + k) = b2 (shK H k) := (hUs k hkH).2.2.2
        have k12 : s2.2.2 12 (10 * p + k) = shG H k := (hUs k hkH).2.2.1
        have k34 : s2.1 34 = st1 := (hO2.1 34 (hA.n3 34 (by decide))).1.trans h34
        refine z_istore 76 rfl rfl rfl rfl ?_
        refine z_iload 78 rfl rfl rfl ?_
        refine z_zeq 81 rfl rfl (by omega) (fun _ => ?_) (fun h9 => absurd h9 (by omega))
        refine z_aload 85 rfl rfl rfl ?_
        refine y_ga 88 hR rfl rfl rfl ?_
        refine z_aload 89 rfl rfl rfl ?_
        refine y_ga 92 hR rfl rfl rfl ?_
        refine z_iload 94 rfl rfl rfl ?_
        refine y_al (f := 46) 95 _ hR rfl rfl rfl rfl (by omega) (by repeat (first | with_reducible exact hwk | with_reducible exact ht2 | with_reducible exact k46 | with_reducible exact k13 | with_reducible exact k12 | with_reducible exact gA_eq _ _ _ _ | (with_reducible apply gA_ne; decide) | with_reducible apply gA_I | with_reducible apply gA_O | (with_reducible apply gA_nj; omega) | with_reducible rfl)) ?_
        refine y_bb (f := 13) 96 _ hR rfl rfl rfl rfl (by omega) (by repeat (first | with_reducible exact hwk | with_reducible exact ht2 | with_reducible exact k46 | with_reducible exact k13 | with_reducible exact k12 | with_reducible exact gA_eq _ _ _ _ | (with_reducible apply gA_ne; decide) | with_reducible apply gA_I | with_reducible apply gA_O | (with_reducible apply gA_nj; omega) | with_reducible rfl)) ?_
        first | refine z_beq 99 rfl rfl (fun hc96 => ?_) (fun hc96 => ?_)
        · refine z_iinc 118 _ rfl rfl rfl rfl (show nI rest.length + Int32.ofInt (-1) = dnI rest.length from by cases rest.length with | zero => rfl | succ m => exact pk_m1 m) ?_
          refine z_goto rfl ?_
          refine ih (l1 ++ [shV H k]) _ s2 h _ (fun j hj => ?_) (fun x hx => hin x (by simp [hx])) (by omega) hR hO3 hw2 k34 (fun hle h' s' hR' hO' hw' hg' => ?_) (fun hlt => qb (by rw [List.length_append, List.length_singleton] at hlt; omega))
          · have := hway (j + 1) (by simp; omega)
            rw [List.length_cons, show rest.length + 1 - 1 - (j + 1) = rest.length - 1 - j by omega] at this
            rw [(hO2.1 46 (hA.n3 46 (by decide))).2]
            exact this.trans (by simp)
          · rw [List.length_append, List.length_singleton] at hle
            refine qa (by omega) h' s' hR' hO' (by rw [List.map_cons]; rw [List.append_assoc] at hw'; exact hw') ?_
            rw [hg', gS, if_neg (by rw [hc96]; decide)]
        · refine z_aload 100 rfl rfl rfl ?_
          refine z_aload 101 rfl rfl rfl ?_
          refine y_ga 104 hR rfl rfl rfl ?_
          refine z_aload 105 rfl rfl rfl ?_
          refine y_ga 108 hR rfl rfl rfl ?_
          refine z_iload 110 rfl rfl rfl ?_
          refine y_al (f := 46) 111 _ hR rfl rfl rfl rfl (by omega) (by repeat (first | with_reducible exact hwk | with_reducible exact ht2 | with_reducible exact k46 | with_reducible exact k13 | with_reducible exact k12 | with_reducible exact gA_eq _ _ _ _ | (with_reducible apply gA_ne; decide) | with_reducible apply gA_I | with_reducible apply gA_O | (with_reducible apply gA_nj; omega) | with_reducible rfl)) ?_
          refine y_al (f := 12) 112 _ hR rfl rfl rfl rfl (by omega) (by repeat (first | with_reducible exact hwk | with_reducible exact ht2 | with_reducible exact k46 | with_reducible exact k13 | with_reducible exact k12 | with_reducible exact gA_eq _ _ _ _ | (with_reducible apply gA_ne; decide) | with_reducible apply gA_I | with_reducible apply gA_O | (with_reducible apply gA_nj; omega) | with_reducible rfl)) ?_
          refine y_pi 115 hR rfl rfl rfl rfl rfl (mFi rfl) ?_
          intro h hR
          refine z_iinc 118 _ rfl rfl rfl rfl (show nI rest.length + Int32.ofInt (-1) = dnI rest.length from by cases rest.length with | zero => rfl | succ m => exact pk_m1 m) ?_
          refine z_goto rfl ?_
          refine ih (l1 ++ [shV H k]) _ _ h _ (fun j hj => ?_) (fun x hx => hin x (by simp [hx])) (by omega) hR (hO3.I (by simp [gL])) (hw2.I (by decide) (by decide) (by decide)) (gI_eq _ _ _) (fun hle h' s' hR' hO' hw' hg' => ?_) (fun hlt => qb (by rw [List.length_append, List.length_singleton] at hlt; omega))
          · have := hway (j + 1) (by simp; omega)
            rw [List.length_cons, show rest.length + 1 - 1 - (j + 1) = rest.length - 1 - j by omega] at this
            rw [show (stI 34 (shG H k) s2).2.2 46 = s2.2.2 46 from rfl, (hO2.1 46 (hA.n3 46 (by decide))).2]
            exact this.trans (by simp)
          · rw [List.length_append, List.length_singleton] at hle
            refine qa (by omega) h' s' hR' hO' (by rw [List.map_cons]; rw [List.append_assoc] at hw'; exact hw') ?_
            rw [hg', gS, if_pos hc96]
      · 
        refine z_istore 76 rfl rfl rfl rfl ?_
        refine z_iload 78 rfl rfl rfl ?_
        refine z_jeq 81 rfl rfl (fun h9 => absurd h9 (by decide)) (fun _ => ?_)
        refine z_iload 83 rfl rfl rfl ?_
        refine z_ireti rfl (Nat.le_refl _) (Nat.le_refl _) ?_
        exact qb (by omega) h s1 hR hO
  have first : ∀ m9 w s1 h, 7 < w + m9 → w ≤ 7 → Rf r h0 s1 h → On (gL o) s s1 → WOut s1 o c m l0 → s1.1 34 = st → s1.1 47 = w → some l = gw H to sg st (7 - w) w → mZ (d + 9) tk_219 0 0 Q 5 [some (.ref r), some (.int (nI p)), some (.int (nI to)), some (.int (bI sg)), none, none] [] h 0 0 := by
    intro m9
    induction m9 with
    | zero => intro w s1 h h1 h2; omega
    | succ m9 ih =>
      intro w s1 h h1 h2 hR hO hw h34 h47 hg
      have hT1 := hO.tb hA.g2 hT
      have hw7 : w < 7 := by
        refine Decidable.byContradiction fun h9 => ?_
        rw [show 7 - w = 0 by omega] at hg
        cases hg
      refine z_aload 6 rfl rfl rfl ?_
      refine y_gi 9 _ hR rfl rfl rfl rfl rfl (by repeat (first | with_reducible exact gI_eq _ _ _ | (with_reducible apply gI_ne; decide) | with_reducible apply gI_A | with_reducible apply gI_O | with_reducible exact h47 | with_reducible exact h34 | with_reducible exact k47 | with_reducible rfl)) ?_
      refine z_push 11 (nI 7) rfl rfl rfl ?_
      refine z_nge 14 rfl rfl (by omega) (by omega) (fun h9 => absurd h9 (by omega)) (fun _ => ?_)
      refine z_aload 15 rfl rfl rfl ?_
      refine z_iload 16 rfl rfl rfl ?_
      refine z_aload 17 rfl rfl rfl ?_
      refine y_gi 20 _ hR rfl rfl rfl rfl rfl (by repeat (first | with_reducible exact gI_eq _ _ _ | (with_reducible apply gI_ne; decide) | with_reducible apply gI_A | with_reducible apply gI_O | with_reducible exact h47 | with_reducible exact h34 | with_reducible exact k47 | with_reducible rfl)) ?_
      refine z_iload 21 rfl rfl rfl ?_
      refine z_aload 22 rfl rfl rfl ?_
      refine y_gi 25 _ hR rfl rfl rfl rfl rfl (by repeat (first | with_reducible exact gI_eq _ _ _ | (with_reducible apply gI_ne; decide) | with_reducible apply gI_A | with_reducible apply gI_O | with_reducible exact h47 | with_reducible exact h34 | with_reducible exact k47 | with_reducible rfl)) ?_
      refine z_iload 26 rfl rfl rfl ?_
      refine z_cv5 29 rfl rfl hR.1 rfl (Nat.le_refl _) (Nat.le_refl _) ?_
      refine r_leads2 hW hto (by omega) (by omega) hR hT1 hst (fun h s2 hR hO2 hL => ?_)
      have k47 : s2.1 47 = w := (hO2.1 47 (by decide)).1.trans h47
      have k34 : s2.1 34 = st := (hO2.1 34 (by decide)).1.trans h34
      have hO3 := hO.trans (hO2.mono (by simp [gL]))
      have hw2 : WOut s2 o c m l0 := hw.on (kk := kk) (nn := nn) hO2 (by decide) (by decide) (by decide) hA.n4.1
      rcases hld : ldW H to sg w st with _ | l9
      · simp only [Option.isSome]
        refine z_bne 32 rfl rfl (fun h9 => absurd h9 (by decide)) (fun _ => ?_)
        refine z_aload 33 rfl rfl rfl ?_
        first | refine z_dup 34 rfl rfl ?_ | refine z_dupi 34 rfl rfl ?_
        refine y_gi 37 _ hR rfl rfl rfl rfl rfl (by repeat (first | with_reducible exact gI_eq _ _ _ | (with_reducible apply gI_ne; decide) | with_reducible apply gI_A | with_reducible apply gI_O | with_reducible exact h47 | with_reducible exact h34 | with_reducible exact k47 | with_reducible rfl)) ?_
        refine z_push 38 (nI 1) rfl rfl rfl ?_
        refine z_bop 39 _ rfl rfl (by first | with_reducible exact zb_0 _ _ | exact zd_0 _ _) ?_
        refine y_pi 42 hR rfl rfl rfl rfl rfl (mFi rfl) ?_
        intro h hR
        refine z_goto rfl ?_
        refine ih (w + 1) _ h (by omega) (by omega) hR (hO3.I (by simp [gL])) (hw2.I (by decide) (by decide) (by decide)) k34 (gI_eq _ _ _) ?_
        rw [hg, gw_s (by omega), hld]
      · simp only [Option.isSome]
        obtain ⟨hl1, hl2⟩ := hL l9 hld
        have hll : l = l9 := by
          rw [gw_s (by omega), hld] at hg
          cases hg
          rfl
        subst hll
        refine z_bne 32 rfl rfl (fun _ => ?_) (fun h9 => absurd h9 (by decide))
        refine z_aload 46 rfl rfl rfl ?_
        refine y_gi 49 _ hR rfl rfl rfl rfl rfl (by repeat (first | with_reducible exact gI_eq _ _ _ | (with_reducible apply gI_ne; decide) | with_reducible apply gI_A | with_reducible apply gI_O | with_reducible exact h47 | with_reducible exact h34 | with_reducible exact k47 | with_reducible rfl)) ?_
        refine z_push 50 (nI 1) rfl rfl rfl ?_
        refine z_bop 51 _ rfl rfl (zd_1 _ _) ?_
        refine z_istore 53 rfl rfl rfl rfl ?_
        obtain rfl : w = l.length := by omega
        rw [show nI l.length - nI 1 = dnI l.length from by cases l.length with | zero => rfl | succ m => exact pk_sub (by omega)]
        exact second l l0 st s2 h _ hl2 (fun x hx => ldW_b _ _ l hld x hx) (by omega) hR hO3 hw2 k34 (by have := q.1; rw [List.length_map] at this; exact this) (by have := q.2; rw [List.length_map] at this; exact this)
  refine z_in [some (.ref r), some (.int (nI p)), some (.int (nI to)), some (.int (bI sg)), none, none] (by rfl) rfl rfl rfl ?_
  refine z_aload 1 rfl rfl rfl ?_
  refine z_push 2 (nI 0) rfl rfl rfl ?_
  refine y_pi 5 hR rfl rfl rfl rfl rfl (mFi rfl) ?_
  intro h hR
  exact first 8 0 _ h (by omega) (by omega) hR (On.rfl.I (by simp [gL])) (hw.I (by decide) (by decide) (by decide)) h34 (gI_eq _ _ _) hg.symm
