/-! the reference: ways between states, bytes put -/
def ldB (H : List Sh) (s : Nat) (f : Nat → Option (List Nat)) : Nat → Nat → Option (List Nat)
  | 0, _ => none
  | m + 1, b => match ffd (sQ H s b) H.length 0 with
    | none => ldB H s f m (b + 1)
    | some k => match f k with
      | some l => some (k :: l)
      | none => ldB H s f m (b + 1)
/-- the least way of many shifts to a state -/
def ldW (H : List Sh) (to : Nat) (sg : Bool) : Nat → Nat → Option (List Nat)
  | 0, s => if s = to then some [] else none
  | n + 1, s => ldB H s (fun k => if n = 0 then (if shG H k = to ∧ (shK H k = true ∨ sg = true) then some [] else none) else if shK H k = true then ldW H to sg n (shG H k) else none) 256 0
def ldT (H : List Sh) (to : Nat) (sg : Bool) (n k : Nat) : Option (List Nat) := if n = 0 then (if shG H k = to ∧ (shK H k = true ∨ sg = true) then some [] else none) else if shK H k = true then ldW H to sg n (shG H k) else none
theorem ldB_s {H : List Sh} {s b : Nat} {f : Nat → Option (List Nat)} (h : b < 256) : ldB H s f (256 - b) b = match ffd (sQ H s b) H.length 0 with
    | none => ldB H s f (256 - (b + 1)) (b + 1)
    | some k => match f k with
      | some l => some (k :: l)
      | none => ldB H s f (256 - (b + 1)) (b + 1) := by
  rw [show 256 - b = 256 - (b + 1) + 1 by omega]; rfl
theorem ldB_b {H : List Sh} {s : Nat} {f : Nat → Option (List Nat)} (hf : ∀ k l, k < H.length → f k = some l → ∀ x, x ∈ l → x < H.length) : ∀ (m b : Nat) (l : List Nat), ldB H s f m b = some l → ∀ x, x ∈ l → x < H.length
  | 0, b, l, h => by cases h
  | m + 1, b, l, h => by
    unfold ldB at h
    split at h
    · exact ldB_b hf m (b + 1) l h
    · rename_i k hk
      have h2 := ffd_lt hk
      split at h
      · rename_i l' hl
        cases h
        intro x hx
        rcases List.mem_cons.mp hx with rfl | hx
        · omega
        · exact hf k l' (by omega) hl x hx
      · exact ldB_b hf m (b + 1) l h
theorem ldW_b {H : List Sh} {to : Nat} {sg : Bool} : ∀ (n s : Nat) (l : List Nat), ldW H to sg n s = some l → ∀ x, x ∈ l → x < H.length
  | 0, s, l, h => by
    unfold ldW at h
    split at h
    · cases h; intro x hx; cases hx
    · cases h
  | n + 1, s, l, h => by
    unfold ldW at h
    refine ldB_b (fun k l' hk hl => ?_) _ _ l h
    split at hl
    · split at hl
      · cases hl; intro x hx; cases hx
      · cases hl
    · split at hl
      · exact ldW_b n _ l' hl
      · cases hl
set_option maxRecDepth 100000 in
theorem r_leads {r p to : Nat} {h0 : mH} {E : List En} {H : List Sh} {sg : Bool} (hW : TbW E H) (hto : to < 4) : ∀ (many : Nat), many < 8 → ∀ {d fr : Nat} {h : mH} {s : rS} {Q : mP}, Rf r h0 s h → TbR s p E H → fr < 4 → (∀ h' s', Rf r h0 s' h' → On [46] s s' → (∀ l, ldW H to sg many fr = some l → l.length = many ∧ ∀ j, j < many → s'.2.2 46 (many - 1 - j) = 10 * p + l.getD j 0) → Q (some (.int (bI (ldW H to sg many fr).isSome))) h') → mWP (d + many + 2) 217 [.ref r, .int (nI p), .int (nI fr), .int (nI to), .int (nI many), .int (bI sg)] h Q := by
  intro many
  induction many with
  | zero =>
    intro hn d fr h s Q hR hT hfr q
    refine z_in [some (.ref r), some (.int (nI p)), some (.int (nI fr)), some (.int (nI to)), some (.int (nI 0)), some (.int (bI sg)), none, none, none] (by rfl) rfl rfl rfl ?_
    refine z_iload 2 rfl rfl rfl ?_
    refine z_zne 5 rfl rfl (by omega) (fun h9 => absurd h9 (by omega)) (fun _ => ?_)
    refine z_iload 6 rfl rfl rfl ?_
    refine z_iload 7 rfl rfl rfl ?_
    refine z_nne 10 rfl rfl (by omega) (by omega) (fun hc7 => ?_) (fun hc7 => ?_)
    · refine z_push 15 (nI 0) rfl rfl rfl ?_
      refine z_iretb rfl (Nat.le_refl _) (Nat.le_refl _) (by first | decide | exact bI_01 _) ?_
      have e9 : ldW H to sg 0 fr = none := if_neg hc7
      rw [e9] at q
      exact q h s hR On.rfl (fun l hl => by cases hl)
    · refine z_push 11 (nI 1) rfl rfl rfl ?_
      refine z_goto rfl ?_
      refine z_iretb rfl (Nat.le_refl _) (Nat.le_refl _) (by first | decide | exact bI_01 _) ?_
      have e9 : ldW H to sg 0 fr = some [] := if_pos hc7
      rw [e9] at q
      exact q h s hR On.rfl (fun l hl => by cases hl; exact ⟨rfl, fun j hj => absurd hj (Nat.not_lt_zero j)⟩)
  | succ n IH =>
    intro hn d fr h s Q hR hT hfr q
    have loop : ∀ m b s1 h o7 o8, 256 < b + m → b ≤ 256 → ldW H to sg (n + 1) fr = ldB H fr (ldT H to sg n) (256 - b) b → Rf r h0 s1 h → On [46] s s1 → mZ (d + (n + 1) + 1) tk_217 0 0 Q 19 [some (.ref r), some (.int (nI p)), some (.int (nI fr)), some (.int (nI to)), some (.int (nI (n + 1))), some (.int (bI sg)), some (.int (nI b)), o7, o8] [] h 0 0 := by
      intro m
      induction m with
      | zero => intro b s1 h o7 o8 h1 h2; omega
      | succ m ih =>
        intro b s1 h o7 o8 h1 h2 hLd hR hO
        have hT1 := hO.tb (by decide) hT
        obtain ⟨hp, hT3, hT4, hTe, hTs⟩ := id hT1
        have hl2 := hW.2.1
        refine z_iload 21 rfl rfl rfl ?_
        refine z_push 24 (nI 256) rfl rfl rfl ?_
        refine z_nge 27 rfl rfl (by omega) (by omega) (fun hc24 => ?_) (fun hc24 => ?_)
        · refine z_push 152 (nI 0) rfl rfl rfl ?_
          refine z_iretb rfl (Nat.le_refl _) (Nat.le_refl _) (by first | decide | exact bI_01 _) ?_
          have e9 : ldW H to sg (n + 1) fr = none := by rw [hLd, show 256 - b = 0 by omega]; rfl
          rw [e9] at q
          exact q h s1 hR hO (fun l hl => by cases hl)
        · refine z_aload 28 rfl rfl rfl ?_
          refine z_iload 29 rfl rfl rfl ?_
          refine z_iload 30 rfl rfl rfl ?_
          refine z_iload 32 rfl rfl rfl ?_
          refine z_cv3 35 rfl rfl hR.1 rfl (Nat.le_refl _) (Nat.le_refl _) ?_
          refine r_shiftOf hR hT1 hW (by omega) (by omega) ?_
          rcases hfs : ffd (sQ H fr b) H.length 0 with _ | k
          · simp only [oIb]
            refine z_istore 37 rfl rfl rfl rfl ?_
            refine z_iload 39 rfl rfl rfl ?_
            refine z_jge 42 rfl rfl (fun h9 => absurd h9 (by decide)) (fun _ => ?_)
            refine z_goto rfl ?_
            refine z_iinc 148 _ rfl rfl rfl rfl (by first | with_reducible exact zi_1 _ | rfl) ?_
            refine z_goto rfl ?_
            refine ih (b + 1) s1 h _ _ (by omega) (by omega) ?_ hR hO
            rw [hLd, ldB_s (by omega), hfs]
          · simp only [oIb]
            have hk9 := ffd_lt hfs
            have hWk := hW.2.2.2 k (by omega)
            refine z_istore 37 rfl rfl rfl rfl ?_
            refine z_iload 39 rfl rfl rfl ?_
            refine z_zge 42 rfl rfl (by omega) (fun _ => ?_) (fun h9 => absurd h9 (by omega))
            refine z_iload 47 rfl rfl rfl ?_
            refine z_push 48 (nI 1) rfl rfl rfl ?_
            refine z_nne 51 rfl rfl (by omega) (by omega) (fun hc48 => ?_) (fun hc48 => ?_)
            · refine z_aload 86 rfl rfl rfl ?_
              refine y_ga 89 hR rfl rfl rfl ?_
              refine z_iload 91 rfl rfl rfl ?_
              refine y_bb (f := 13) 92 _ hR rfl rfl rfl rfl (by omega) (by repeat (first | with_reducible exact (hTs k (by omega)).2.2.1 | with_reducible exact (hTs k (by omega)).2.2.2 | with_reducible exact gA_eq _ _ _ _ | (with_reducible apply gA_ne; decide) | with_reducible apply gA_I | with_reducible apply gA_O | (with_reducible apply gA_nj; omega) | with_reducible rfl)) ?_
              first | refine z_beq 95 rfl rfl (fun hc92 => ?_) (fun hc92 => ?_)
              · refine z_push 122 (nI 0) rfl rfl rfl ?_
                refine z_istore 124 rfl rfl rfl rfl ?_
                refine z_iload 126 rfl rfl rfl ?_
                refine z_zne 129 rfl rfl (by omega) (fun h9 => absurd h9 (by omega)) (fun _ => ?_)
                refine z_goto rfl ?_
                refine z_iinc 148 _ rfl rfl rfl rfl (by first | with_reducible exact zi_1 _ | rfl) ?_
                refine z_goto rfl ?_
                have eT : ldT H to sg n k = none := by rw [ldT, if_neg (by omega), if_neg (by rw [hc92]; decide)]
                refine ih (b + 1) s1 h _ _ (by omega) (by omega) ?_ hR hO
                rw [hLd, ldB_s (by omega), hfs]
                simp only [eT]
              · refine z_aload 96 rfl rfl rfl ?_
                refine z_iload 97 rfl rfl rfl ?_
                refine z_aload 98 rfl rfl rfl ?_
                refine y_ga 101 hR rfl rfl rfl ?_
                refine z_iload 103 rfl rfl rfl ?_
                refine y_al (f := 12) 104 _ hR rfl rfl rfl rfl (by omega) (by repeat (first | with_reducible exact (hTs k (by omega)).2.2.1 | with_reducible exact (hTs k (by omega)).2.2.2 | with_reducible exact gA_eq _ _ _ _ | (with_reducible apply gA_ne; decide) | with_reducible apply gA_I | with_reducible apply gA_O | (with_reducible apply gA_nj; omega) | with_reducible rfl)) ?_
                refine z_iload 105 rfl rfl rfl ?_
                refine z_iload 107 rfl rfl rfl ?_
                refine z_push 108 (nI 1) rfl rfl rfl ?_
                refine z_bop 109 _ rfl rfl (by first | with_reducible exact zb_1 (by omega) | exact zd_1 _ _) ?_
                refine z_iload 111 rfl rfl rfl ?_
                refine z_cv5 114 rfl rfl hR.1 rfl (Nat.le_refl _) (Nat.le_refl _) ?_
                rw [show n + 1 - 1 = n from rfl]
                refine IH (by omega) (d := d) hR hT1 (by omega) (fun h s2 hR hO2 hL => ?_)
                rcases hld : ldW H to sg n (shG H k) with _ | l
                · simp only [Option.isSome]
                  refine z_beq 117 rfl rfl (fun _ => ?_) (fun h9 => absurd h9 (by decide))
                  refine z_push 122 (nI 0) rfl rfl rfl ?_
                  refine z_istore 124 rfl rfl rfl rfl ?_
                  refine z_iload 126 rfl rfl rfl ?_
                  refine z_zne 129 rfl rfl (by omega) (fun h9 => absurd h9 (by omega)) (fun _ => ?_)
                  refine z_goto rfl ?_
                  refine z_iinc 148 _ rfl rfl rfl rfl (by first | with_reducible exact zi_1 _ | rfl) ?_
                  refine z_goto rfl ?_
                  have eT : ldT H to sg n k = none := by rw [ldT, if_neg (by omega), if_pos hc92]; exact hld
                  refine ih (b + 1) s2 h _ _ (by omega) (by omega) ?_ hR (hO.trans hO2)
                  rw [hLd, ldB_s (by omega), hfs]
                  simp only [eT]
                · simp only [Option.isSome]
                  refine z_beq 117 rfl rfl (fun h9 => absurd h9 (by decide)) (fun _ => ?_)
                  refine z_push 118 (nI 1) rfl rfl rfl ?_
                  refine z_goto rfl ?_
                  refine z_istore 124 rfl rfl rfl rfl ?_
                  refine z_iload 126 rfl rfl rfl ?_
                  refine z_zne 129 rfl rfl (by omega) (fun _ => ?_) (fun h9 => absurd h9 (by omega))
                  refine z_aload 133 rfl rfl rfl ?_
                  refine y_ga 136 hR rfl rfl rfl ?_
                  refine z_iload 138 rfl rfl rfl ?_
                  refine z_push 139 (nI 1) rfl rfl rfl ?_
                  refine z_bop 140 _ rfl rfl (by first | with_reducible exact zb_1 (by omega) | exact zd_1 _ _) ?_
                  refine z_iload 142 rfl rfl rfl ?_
                  refine y_as (f := 46) 143 hR rfl rfl rfl rfl (by omega) ?_
                  intro h hR
                  refine z_push 144 (nI 1) rfl rfl rfl ?_
                  refine z_iretb rfl (Nat.le_refl _) (Nat.le_refl _) (by first | decide | exact bI_01 _) ?_
                  have eT : ldT H to sg n k = some l := by rw [ldT, if_neg (by omega), if_pos hc92]; exact hld
                  have e9 : ldW H to sg (n + 1) fr = some (k :: l) := by
                    rw [hLd, ldB_s (by omega), hfs]
                    simp only [eT]
                  rw [show (ldW H to sg (n + 1) fr).isSome = true from by rw [e9]; rfl] at q
                  obtain ⟨hl1, hl2⟩ := hL l hld
                  refine q h _ hR ((hO.trans hO2).A (by decide)) (fun l' hl => ?_)
                  rw [e9] at hl
                  cases hl
                  refine ⟨by rw [List.length_cons, hl1], fun j hj => ?_⟩
                  cases j with
                  | zero => exact gA_eq _ _ _ _
                  | succ j =>
                    rw [show n + 1 - 1 - (j + 1) = n - 1 - j by omega]
                    refine (gA_nj (by omega) rfl).trans ?_
                    rw [hl2 j (by omega)]
                    rfl
            · refine z_aload 52 rfl rfl rfl ?_
              refine y_ga 55 hR rfl rfl rfl ?_
              refine z_iload 57 rfl rfl rfl ?_
              refine y_al (f := 12) 58 _ hR rfl rfl rfl rfl (by omega) (by repeat (first | with_reducible exact (hTs k (by omega)).2.2.1 | with_reducible exact (hTs k (by omega)).2.2.2 | with_reducible exact gA_eq _ _ _ _ | (with_reducible apply gA_ne; decide) | with_reducible apply gA_I | with_reducible apply gA_O | (with_reducible apply gA_nj; omega) | with_reducible rfl)) ?_
              refine z_iload 59 rfl rfl rfl ?_
              refine z_nne 62 rfl rfl (by omega) (by omega) (fun hc59 => ?_) (fun hc59 => ?_)
              · refine z_push 82 (nI 0) rfl rfl rfl ?_
                refine z_goto rfl ?_
                refine z_istore 124 rfl rfl rfl rfl ?_
                refine z_iload 126 rfl rfl rfl ?_
                refine z_zne 129 rfl rfl (by omega) (fun h9 => absurd h9 (by omega)) (fun _ => ?_)
                refine z_goto rfl ?_
                refine z_iinc 148 _ rfl rfl rfl rfl (by first | with_reducible exact zi_1 _ | rfl) ?_
                refine z_goto rfl ?_
                have eT : ldT H to sg n k = none := by rw [ldT, if_pos (by omega), if_neg (fun h9 => by
                    first | exact hc59 h9.1 | (rcases h9.2 with h9 | h9 <;> simp_all))]
                refine ih (b + 1) s1 h _ _ (by omega) (by omega) ?_ hR hO
                rw [hLd, ldB_s (by omega), hfs]
                simp only [eT]
              · refine z_aload 63 rfl rfl rfl ?_
                refine y_ga 66 hR rfl rfl rfl ?_
                refine z_iload 68 rfl rfl rfl ?_
                refine y_bb (f := 13) 69 _ hR rfl rfl rfl rfl (by omega) (by repeat (first | with_reducible exact (hTs k (by omega)).2.2.1 | with_reducible exact (hTs k (by omega)).2.2.2 | with_reducible exact gA_eq _ _ _ _ | (with_reducible apply gA_ne; decide) | with_reducible apply gA_I | with_reducible apply gA_O | (with_reducible apply gA_nj; omega) | with_reducible rfl)) ?_
                first | refine z_bne 72 rfl rfl (fun hc69 => ?_) (fun hc69 => ?_)
                · refine z_push 78 (nI 1) rfl rfl rfl ?_
                  refine z_goto rfl ?_
                  refine z_istore 124 rfl rfl rfl rfl ?_
                  refine z_iload 126 rfl rfl rfl ?_
                  refine z_zne 129 rfl rfl (by omega) (fun _ => ?_) (fun h9 => absurd h9 (by omega))
                  refine z_aload 133 rfl rfl rfl ?_
                  refine y_ga 136 hR rfl rfl rfl ?_
                  refine z_iload 138 rfl rfl rfl ?_
                  refine z_push 139 (nI 1) rfl rfl rfl ?_
                  refine z_bop 140 _ rfl rfl (by first | with_reducible exact zb_1 (by omega) | exact zd_1 _ _) ?_
                  refine z_iload 142 rfl rfl rfl ?_
                  refine y_as (f := 46) 143 hR rfl rfl rfl rfl (by omega) ?_
                  intro h hR
                  refine z_push 144 (nI 1) rfl rfl rfl ?_
                  refine z_iretb rfl (Nat.le_refl _) (Nat.le_refl _) (by first | decide | exact bI_01 _) ?_
                  have eT : ldT H to sg n k = some [] := by rw [ldT, if_pos (by omega), if_pos ⟨hc59, Or.inl hc69⟩]
                  have e9 : ldW H to sg (n + 1) fr = some (k :: []) := by
                    rw [hLd, ldB_s (by omega), hfs]
                    simp only [eT]
                  rw [show (ldW H to sg (n + 1) fr).isSome = true from by rw [e9]; rfl] at q
                  refine q h _ hR (hO.A (by decide)) (fun l hl => ?_)
                  rw [e9] at hl
                  cases hl
                  obtain rfl : n = 0 := by omega
                  refine ⟨rfl, fun j hj => ?_⟩
                  obtain rfl : j = 0 := by omega
                  exact gA_eq _ _ _ _
                · refine z_iload 74 rfl rfl rfl ?_
                  first | refine z_beq 77 rfl rfl (fun hc74 => ?_) (fun hc74 => ?_)
                  · refine z_push 82 (nI 0) rfl rfl rfl ?_
                    refine z_goto rfl ?_
                    refine z_istore 124 rfl rfl rfl rfl ?_
                    refine z_iload 126 rfl rfl rfl ?_
                    refine z_zne 129 rfl rfl (by omega) (fun h9 => absurd h9 (by omega)) (fun _ => ?_)
                    refine z_goto rfl ?_
                    refine z_iinc 148 _ rfl rfl rfl rfl (by first | with_reducible exact zi_1 _ | rfl) ?_
                    refine z_goto rfl ?_
                    have eT : ldT H to sg n k = none := by rw [ldT, if_pos (by omega), if_neg (fun h9 => by
                        first | exact hc59 h9.1 | (rcases h9.2 with h9 | h9 <;> simp_all))]
                    refine ih (b + 1) s1 h _ _ (by omega) (by omega) ?_ hR hO
                    rw [hLd, ldB_s (by omega), hfs]
                    simp only [eT]
                  · refine z_push 78 (nI 1) rfl rfl rfl ?_
                    refine z_goto rfl ?_
                    refine z_istore 124 rfl rfl rfl rfl ?_
                    refine z_iload 126 rfl rfl rfl ?_
                    refine z_zne 129 rfl rfl (by omega) (fun _ => ?_) (fun h9 => absurd h9 (by omega))
                    refine z_aload 133 rfl rfl rfl ?_
                    refine y_ga 136 hR rfl rfl rfl ?_
                    refine z_iload 138 rfl rfl rfl ?_
                    refine z_push 139 (nI 1) rfl rfl rfl ?_
                    refine z_bop 140 _ rfl rfl (by first | with_reducible exact zb_1 (by omega) | exact zd_1 _ _) ?_
                    refine z_iload 142 rfl rfl rfl ?_
                    refine y_as (f := 46) 143 hR rfl rfl rfl rfl (by omega) ?_
                    intro h hR
                    refine z_push 144 (nI 1) rfl rfl rfl ?_
                    refine z_iretb rfl (Nat.le_refl _) (Nat.le_refl _) (by first | decide | exact bI_01 _) ?_
                    have eT : ldT H to sg n k = some [] := by rw [ldT, if_pos (by omega), if_pos ⟨hc59, Or.inr hc74⟩]
                    have e9 : ldW H to sg (n + 1) fr = some (k :: []) := by
                      rw [hLd, ldB_s (by omega), hfs]
                      simp only [eT]
                    rw [show (ldW H to sg (n + 1) fr).isSome = true from by rw [e9]; rfl] at q
                    refine q h _ hR (hO.A (by decide)) (fun l hl => ?_)
                    rw [e9] at hl
                    cases hl
                    obtain rfl : n = 0 := by omega
                    refine ⟨rfl, fun j hj => ?_⟩
                    obtain rfl : j = 0 := by omega
                    exact gA_eq _ _ _ _
    refine z_in [some (.ref r), some (.int (nI p)), some (.int (nI fr)), some (.int (nI to)), some (.int (nI (n + 1))), some (.int (bI sg)), none, none, none] (by rfl) rfl rfl rfl ?_
    refine z_iload 2 rfl rfl rfl ?_
    refine z_zne 5 rfl rfl (by omega) (fun _ => ?_) (fun h9 => absurd h9 (by omega))
    refine z_push 17 (nI 0) rfl rfl rfl ?_
    refine z_istore 19 rfl rfl rfl rfl ?_
    exact loop 257 0 s h _ _ (by omega) (by omega) rfl hR On.rfl
/-- what is written so far: array o, counted only (c), at most m -/
def WOut (s : rS) (o : Nat) (c : Bool) (m : Nat) (l : List Nat) : Prop := s.2.1 = o ∧ s.1 48 = b2 c ∧ s.1 38 = m ∧ s.1 37 = l.length ∧ l.length ≤ m ∧ (c = false → Seg (s.2.2 o) 0 l)
set_option maxRecDepth 10000 in
theorem r_putByte {d r : Nat} {h h0 : mH} {s : rS} {o kk nn m b : Nat} {c : Bool} {l : List Nat} {Q : mP} (hR : Rf r h0 s h) (ho : WOut s o c m l) (ha : rArr o = some (kk, 0, nn)) (hm : c = false → m ≤ nn) (hm31 : m < 2 ^ 31) (ho48 : 48 ≠ o) (ho38 : 38 ≠ o)  (q1 : l.length < m → ∀ h' s', Rf r h0 s' h' → On [37, o] s s' → WOut s' o c m (l ++ [b]) → Q (some (.int (nI 0))) h') (q0 : l.length = m → Q (some (.int (-6))) h) : mWP (d + 3) 218 [.ref r, .int (nI b)] h Q := by
  have h37 : s.1 37 = l.length := ho.2.2.2.1
  have h38 : s.1 38 = m := ho.2.2.1
  have h48 : s.1 48 = b2 c := ho.2.1
  have h48' := h48
  have hll := ho.2.2.2.2.1
  refine z_in [some (.ref r), some (.int (nI b))] (by rfl) rfl rfl rfl ?_
  refine z_aload 1 rfl rfl rfl ?_
  refine y_gi 4 _ hR rfl rfl rfl rfl rfl (by repeat (first | with_reducible exact gI_eq _ _ _ | (with_reducible apply gI_ne; decide) | with_reducible apply gI_A | with_reducible apply gI_O | with_reducible exact h37 | with_reducible exact h38 | with_reducible exact h48 | with_reducible rfl)) ?_
  refine z_aload 5 rfl rfl rfl ?_
  refine y_gi 8 _ hR rfl rfl rfl rfl rfl (by repeat (first | with_reducible exact gI_eq _ _ _ | (with_reducible apply gI_ne; decide) | with_reducible apply gI_A | with_reducible apply gI_O | with_reducible exact h37 | with_reducible exact h38 | with_reducible exact h48 | with_reducible rfl)) ?_
  refine z_nne 11 rfl rfl (by omega) (by omega) (fun hc8 => ?_) (fun hc8 => ?_)
  · refine z_aload 15 rfl rfl rfl ?_
    cases c
    · rw [show b2 false = 0 from rfl] at h48
      refine y_gi 18 _ hR rfl rfl rfl rfl rfl (by repeat (first | with_reducible exact gI_eq _ _ _ | (with_reducible apply gI_ne; decide) | with_reducible apply gI_A | with_reducible apply gI_O | with_reducible exact h37 | with_reducible exact h38 | with_reducible exact h48 | with_reducible rfl)) ?_
      refine z_zeq 21 rfl rfl (by omega) (fun _ => ?_) (fun h9 => absurd h9 (by omega))
      refine z_aload 35 rfl rfl rfl ?_
      refine z_iload 36 rfl rfl rfl ?_
      refine z_cv1 39 rfl rfl hR.1 rfl (Nat.le_refl _) (Nat.le_refl _) ?_
      refine r_put1 (o := o) (l := l) hR ⟨ho.1, h37, ho.2.2.2.2.2 rfl⟩ ha (by have := hm rfl; omega) (fun h s1 hR hO ho1 => ?_)
      refine z_push 40 (nI 0) rfl rfl rfl ?_
      refine z_ireti rfl (Nat.le_refl _) (Nat.le_refl _) ?_
      refine q1 (by omega) h s1 hR hO ⟨ho1.1, (hO.1 48 (by simp [ho48])).1.trans h48', (hO.1 38 (by simp [ho38])).1.trans h38, ho1.2.1, by rw [List.length_append, List.length_singleton]; omega, fun _ => ho1.2.2⟩
    · rw [show b2 true = 1 from rfl] at h48
      refine y_gi 18 _ hR rfl rfl rfl rfl rfl (by repeat (first | with_reducible exact gI_eq _ _ _ | (with_reducible apply gI_ne; decide) | with_reducible apply gI_A | with_reducible apply gI_O | with_reducible exact h37 | with_reducible exact h38 | with_reducible exact h48 | with_reducible rfl)) ?_
      refine z_zeq 21 rfl rfl (by omega) (fun h9 => absurd h9 (by omega)) (fun _ => ?_)
      refine z_aload 22 rfl rfl rfl ?_
      first | refine z_dup 23 rfl rfl ?_ | refine z_dupi 23 rfl rfl ?_
      refine y_gi 26 _ hR rfl rfl rfl rfl rfl (by repeat (first | with_reducible exact gI_eq _ _ _ | (with_reducible apply gI_ne; decide) | with_reducible apply gI_A | with_reducible apply gI_O | with_reducible exact h37 | with_reducible exact h38 | with_reducible exact h48 | with_reducible rfl)) ?_
      refine z_push 27 (nI 1) rfl rfl rfl ?_
      refine z_bop 28 _ rfl rfl (by first | with_reducible exact zb_0 _ _ | exact zd_0 _ _) ?_
      refine y_pi 31 hR rfl rfl rfl rfl rfl (mFi rfl) ?_
      intro h hR
      refine z_goto rfl ?_
      refine z_push 40 (nI 0) rfl rfl rfl ?_
      refine z_ireti rfl (Nat.le_refl _) (Nat.le_refl _) ?_
      refine q1 (by omega) h _ hR (On.rfl.I (by simp)) ⟨ho.1, h48', h38, ?_, by rw [List.length_append, List.length_singleton]; omega, fun h9 => by cases h9⟩
      rw [gI_eq, List.length_append]; rfl
  · refine z_push 13 (-6) rfl rfl rfl ?_
    refine z_ireti rfl (Nat.le_refl _) (Nat.le_refl _) ?_
    exact q0 (by omega)
