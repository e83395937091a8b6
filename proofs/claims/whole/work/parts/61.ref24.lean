/-! the reference: writing all units -/
/-- how a row of units goes on at a place: 2 a point of two units, 1 a point of one, 0 a lone half; the point or half -/
def unA (us : List Nat) (a : Nat) : Nat × Nat :=
  if (55296 ≤ us.getD a 0 ∧ us.getD a 0 ≤ 56319) ∧ a + 1 < us.length ∧ (56320 ≤ us.getD (a + 1) 0 ∧ us.getD (a + 1) 0 ≤ 57343) then (2, 65536 + (us.getD a 0 - 55296) * 2 ^ 10 + us.getD (a + 1) 0 - 56320)
  else if (55296 ≤ us.getD a 0 ∧ us.getD a 0 ≤ 56319) ∨ (56320 ≤ us.getD a 0 ∧ us.getD a 0 ≤ 57343) then (0, us.getD a 0) else (1, us.getD a 0)
def wr1 (F : List Fb) (K : Nat) (E : List En) (H : List Sh) (rule sg : Nat) (us : List Nat) (a st : Nat) : Option (List Nat × Nat) :=
  if (unA us a).1 = 0 then wl1 K E H rule sg (unA us a).2 st else wp1 F K E H rule sg (unA us a).2 st
/-- all units are written: 0 done (bytes), 1 missing (place), 2 too many -/
def wrA (F : List Fb) (K : Nat) (E : List En) (H : List Sh) (rule sg : Nat) (us : List Nat) (m : Nat) : Nat → Nat → Nat → List Nat → Nat × Nat × List Nat
  | 0, _, _, _ => (0, 0, [])
  | k + 1, a, st, l => if us.length ≤ a then (if l.length + (ghW K H st).1.length ≤ m then (0, 0, l ++ (ghW K H st).1) else (2, 0, [])) else
    match wr1 F K E H rule sg us a st with
    | none => (1, a, [])
    | some x => if l.length + x.1.length ≤ m then wrA F K E H rule sg us m k (a + (if (unA us a).1 = 2 then 2 else 1)) x.2 (l ++ x.1) else (2, 0, [])
def wrAll (F : List Fb) (K : Nat) (E : List En) (H : List Sh) (rule sg : Nat) (us : List Nat) (m st : Nat) : Nat × Nat × List Nat := wrA F K E H rule sg us m (us.length + 1) 0 st []
def wrI (x : Nat × Nat × List Nat) : Int32 := if x.1 = 0 then nI x.2.2.length else if x.1 = 1 then -10 else -6
theorem wr1_ok {F : List Fb} {K rule sg a st : Nat} {us : List Nat} {E : List En} {H : List Sh} (hG : Gd K E H) (hs : SOk K H st) : ∀ y, wr1 F K E H rule sg us a st = some y → SOk K H y.2 := by
  unfold wr1
  split
  · exact wl1_ok hG hs
  · exact wp1_ok hG hs
theorem gh_g {K st : Nat} {E : List En} {H : List Sh} (hG : Gd K E H) (hs : SOk K H st) : K = 0 → ∃ l, gP H 0 false st = some l := fun hK => by
  obtain ⟨l, hl, _⟩ := (hG hK).2 st (hs.2 hK)
  exact ⟨l, hl⟩
set_option maxRecDepth 100000 in
theorem r_writeAll {d r : Nat} {h h0 : mH} {s : rS} {p K rule sg fr m f rk rn kk nn : Nat} {c : Bool} {us : List Nat} {E : List En} {H : List Sh} {F : List Fb} {Q : mP} (hR : Rf r h0 s h) (hp11 : p < 11) (hk : s.2.2 1 p = K) (hK : K < 4) (hT : TbR s p E H) (hW : TbW E H) (hG : Gd K E H) (hs : SOk K H fr) (hA : wO 45 kk nn m c) (hru : rule < 5) (hsg : s.2.2 21 1 = sg) (hsgb : sg < 1114112) (hFB : RFb s F) (hFW : FbW F) (hFd : ∀ x, Fdp F 40 x) (h48 : s.1 48 = b2 c) (ha : rArr f = some (rk, 0, rn)) (hrn : us.length ≤ rn) (hrb : us.length < 2 ^ 30) (hfL : f ∉ wL 45) (hrow : Seg (s.2.2 f) 0 us) (hub : ∀ j, us.getD j 0 < 65536)  (q : ∀ h' s', Rf r h0 s' h' → Keep s s' → s'.1 22 = (if (wrAll F K E H rule sg us m fr).1 = 1 then (wrAll F K E H rule sg us m fr).2.1 else s.1 22) → (∀ g, g ∉ wL 45 → s'.2.2 g = s.2.2 g) → ((wrAll F K E H rule sg us m fr).1 = 0 → s'.1 37 = (wrAll F K E H rule sg us m fr).2.2.length ∧ (wrAll F K E H rule sg us m fr).2.2.length ≤ m ∧ (c = false → Seg (s'.2.2 45) 0 (wrAll F K E H rule sg us m fr).2.2)) → Q (some (.int (wrI (wrAll F K E H rule sg us m fr)))) h') : mWP (d + 54) 227 [.ref r, .int (nI p), .int (nI rule), .ref (r + rk), .int (nI us.length), .int (nI fr), .int (nI m)] h Q := by
  have loop : ∀ k9 a st1 l s1 h o8 o9 o10, us.length < a + k9 → a ≤ us.length → wrAll F K E H rule sg us m fr = wrA F K E H rule sg us m k9 a st1 l → Rf r h0 s1 h → Keep s s1 → (∀ g, g ∉ wL 45 → s1.2.2 g = s.2.2 g) → s1.1 22 = s.1 22 → s1.1 34 = st1 → SOk K H st1 → WOut s1 45 c m l → mZ (d + 53) tk_227 0 0 Q 28 [some (.ref r), some (.int (nI p)), some (.int (nI rule)), some (.ref (r + rk)), some (.int (nI us.length)), some (.int (nI fr)), some (.int (nI m)), some (.int (nI a)), o8, o9, o10] [] h 0 0 := by
    intro k9
    induction k9 with
    | zero =>
      intro a st1 l s1 h o8 o9 o10 h1 h1b hA9 hR hKp hfa h22 h34 hs1 hw
      omega
    | succ k9 ih =>
      intro a st1 l s1 h o8 o9 o10 h1 h1b hA9 hR hKp hfa h22 h34 hs1 hw
      have hu := hub a
      have hu1 := hub (a + 1)
      have ksr : ∀ j, j < us.length → s1.2.2 f j = us.getD j 0 := fun j hj => by
        rw [hfa f hfL]
        have := hrow j hj
        rw [Nat.zero_add] at this
        exact this
      have hFB1 := hFB.k hKp
      refine z_iload 30 rfl rfl rfl ?_
      refine z_iload 32 rfl rfl rfl ?_
      refine z_nge 35 rfl rfl (by omega) (by omega) (fun hc32 => ?_) (fun hc32 => ?_)
      · refine z_aload 189 rfl rfl rfl ?_
        refine z_iload 190 rfl rfl rfl ?_
        refine z_cv1 193 rfl rfl hR.1 rfl (Nat.le_refl _) (Nat.le_refl _) ?_
        refine r_goHome hR (by rw [hfa 1 (by decide)]; exact hk) hK (hT.k hKp) hW hs1.1 h34 hA hw (gh_g hG hs1) ⟨fun hle h s2 hR hO2 hw2 g34 => ?_, fun hlt h s2 hR hO2 => ?_⟩
        · have k37 : s2.1 37 = (l ++ (ghW K H st1).1).length := hw2.2.2.2.1
          refine z_istore 195 rfl rfl rfl rfl ?_
          refine z_iload 197 rfl rfl rfl ?_
          refine z_zeq 200 rfl rfl (by omega) (fun _ => ?_) (fun h9 => absurd h9 (by omega))
          refine z_aload 206 rfl rfl rfl ?_
          refine y_gi 209 _ hR rfl rfl rfl rfl rfl (by repeat (first | with_reducible exact gI_eq _ _ _ | (with_reducible apply gI_ne; decide) | with_reducible apply gI_A | with_reducible apply gI_O | with_reducible exact ksr a (by omega) | with_reducible exact ksr (a + 1) (by omega) | with_reducible exact k37 | with_reducible rfl)) ?_
          refine z_ireti rfl (Nat.le_refl _) (Nat.le_refl _) ?_
          have e9 : wrAll F K E H rule sg us m fr = (0, 0, l ++ (ghW K H st1).1) := by rw [hA9, wrA, if_pos (by omega), if_pos hle]
          rw [e9] at q
          exact q h s2 hR (hKp.trans (hO2.keep hA.ne.2.2)) ((hO2.1 22 (by decide)).1.trans h22) (fun g hg => ((hO2.1 g hg).2).trans (hfa g hg)) (fun _ => ⟨hw2.2.2.2.1, hw2.2.2.2.2.1, hw2.2.2.2.2.2⟩)
        · 
          refine z_istore 195 rfl rfl rfl rfl ?_
          refine z_iload 197 rfl rfl rfl ?_
          refine z_jeq 200 rfl rfl (fun h9 => absurd h9 (by decide)) (fun _ => ?_)
          refine z_iload 202 rfl rfl rfl ?_
          refine z_goto rfl ?_
          refine z_ireti rfl (Nat.le_refl _) (Nat.le_refl _) ?_
          have e9 : wrAll F K E H rule sg us m fr = (2, 0, []) := by rw [hA9, wrA, if_pos (by omega), if_neg (by omega)]
          rw [e9] at q
          exact q h s2 hR (hKp.trans (hO2.keep hA.ne.2.2)) ((hO2.1 22 (by decide)).1.trans h22) (fun g hg => ((hO2.1 g hg).2).trans (hfa g hg)) (fun h9 => absurd (show (2 : Nat) = 0 from h9) (by decide))
      · refine z_aload 36 rfl rfl rfl ?_
        refine z_iload 38 rfl rfl rfl ?_
        refine y_al (f := f) 39 _ hR rfl rfl ha rfl (by omega) (by repeat (first | with_reducible exact ksr a (by omega) | with_reducible exact ksr (a + 1) (by omega) | with_reducible exact k37 | with_reducible exact gA_eq _ _ _ _ | (with_reducible apply gA_ne; decide) | with_reducible apply gA_I | with_reducible apply gA_O | (with_reducible apply gA_nj; omega) | with_reducible rfl)) ?_
        refine z_istore 41 rfl rfl rfl rfl ?_
        refine z_iload 43 rfl rfl rfl ?_
        refine z_cs1 46 rfl rfl rfl (Nat.le_refl _) (Nat.le_refl _) ?_
        refine r_isHigh ?_
        rw [jHigh_n (by omega)]
        first | refine z_deq 49 rfl rfl (fun hc46 => ?_) (fun hc46 => ?_)
        · refine z_push 75 (nI 0) rfl rfl rfl ?_
          refine z_istore 77 rfl rfl rfl rfl ?_
          refine z_iload 79 rfl rfl rfl ?_
          refine z_zeq 82 rfl rfl (by omega) (fun _ => ?_) (fun h9 => absurd h9 (by omega))
          refine z_iload 114 rfl rfl rfl ?_
          refine z_cs1 117 rfl rfl rfl (Nat.le_refl _) (Nat.le_refl _) ?_
          refine r_isHigh ?_
          rw [jHigh_n (by omega)]
          first | refine z_dne 120 rfl rfl (fun hc117 => ?_) (fun hc117 => ?_)
          · refine z_aload 129 rfl rfl rfl ?_
            refine z_iload 130 rfl rfl rfl ?_
            refine z_iload 131 rfl rfl rfl ?_
            refine z_iload 133 rfl rfl rfl ?_
            refine z_cv3 136 rfl rfl hR.1 rfl (Nat.le_refl _) (Nat.le_refl _) ?_
            have hun : unA us a = (0, us.getD a 0) := by rw [unA, if_neg (by omega), if_pos (by omega)]
            refine r_writeLone hR hp11 (by rw [hfa 1 (by decide)]; exact hk) hK (hT.k hKp) hW hG hs1 h34 hA hw hru (by rw [hfa 21 (by decide)]; exact hsg) hsgb (by omega) ⟨fun y hy => ⟨fun hle h s2 hR hO2 hw2 g34 => ?_, fun hlt h s2 hR hO2 => ?_⟩, fun hnn h s2 hR hO2 hw2 g34 => ?_⟩
            · have e8 : wr1 F K E H rule sg us a st1 = some y := by rw [wr1, hun]; exact hy
              have hfa2 : ∀ g, g ∉ wL 45 → s2.2.2 g = s.2.2 g := fun g hg => ((hO2.1 g hg).2).trans (hfa g hg)
              have hKp2 := hKp.trans (hO2.keep hA.ne.2.2)
              have g22 : s2.1 22 = s.1 22 := (hO2.1 22 (by decide)).1.trans h22
              have hlm := hw2.2.2.2.2.1
              refine z_goto rfl ?_
              refine z_istore 149 rfl rfl rfl rfl ?_
              refine z_iload 151 rfl rfl rfl ?_
              refine z_push 153 (-10) rfl rfl rfl ?_
              refine z_cne 156 rfl rfl (fun _ => ?_) (fun h9 => absurd h9 (by decide))
              refine z_iload 164 rfl rfl rfl ?_
              refine z_zeq 167 rfl rfl (by omega) (fun _ => ?_) (fun h9 => absurd h9 (by omega))
              refine z_iload 172 rfl rfl rfl ?_
              refine z_iload 174 rfl rfl rfl ?_
              refine z_zeq 177 rfl rfl (by omega) (fun _ => ?_) (fun h9 => absurd h9 (by omega))
              refine z_push 182 (nI 1) rfl rfl rfl ?_
              refine z_bop 183 _ rfl rfl (by first | with_reducible exact zb_0 _ _ | exact zd_0 _ _) ?_
              refine z_istore 185 rfl rfl rfl rfl ?_
              refine z_goto rfl ?_
              refine ih (a + 1) _ _ s2 h _ _ _ (by omega) (by omega) ?_ hR hKp2 hfa2 g22 g34 (wr1_ok hG hs1 y e8) hw2
              rw [List.length_append] at hlm
              rw [hA9, wrA, if_neg (by omega), e8]
              simp only [if_pos hlm, hun]
              rfl
            · have e8 : wr1 F K E H rule sg us a st1 = some y := by rw [wr1, hun]; exact hy
              have hfa2 : ∀ g, g ∉ wL 45 → s2.2.2 g = s.2.2 g := fun g hg => ((hO2.1 g hg).2).trans (hfa g hg)
              have hKp2 := hKp.trans (hO2.keep hA.ne.2.2)
              have g22 : s2.1 22 = s.1 22 := (hO2.1 22 (by decide)).1.trans h22
              refine z_goto rfl ?_
              refine z_istore 149 rfl rfl rfl rfl ?_
              refine z_iload 151 rfl rfl rfl ?_
              refine z_push 153 (-10) rfl rfl rfl ?_
              refine z_cne 156 rfl rfl (fun _ => ?_) (fun h9 => absurd h9 (by decide))
              refine z_iload 164 rfl rfl rfl ?_
              refine z_jeq 167 rfl rfl (fun h9 => absurd h9 (by decide)) (fun _ => ?_)
              refine z_iload 169 rfl rfl rfl ?_
              refine z_ireti rfl (Nat.le_refl _) (Nat.le_refl _) ?_
              have e9 : wrAll F K E H rule sg us m fr = (2, 0, []) := by
                rw [hA9, wrA, if_neg (by omega), e8]
                exact if_neg (by omega)
              rw [e9] at q
              exact q h s2 hR hKp2 g22 hfa2 (fun h9 => absurd (show (2 : Nat) = 0 from h9) (by decide))
            · have e8 : wr1 F K E H rule sg us a st1 = none := by rw [wr1, hun]; exact hnn
              have hfa2 : ∀ g, g ∉ wL 45 → s2.2.2 g = s.2.2 g := fun g hg => ((hO2.1 g hg).2).trans (hfa g hg)
              have hKp2 := hKp.trans (hO2.keep hA.ne.2.2)
              refine z_goto rfl ?_
              refine z_istore 149 rfl rfl rfl rfl ?_
              refine z_iload 151 rfl rfl rfl ?_
              refine z_push 153 (-10) rfl rfl rfl ?_
              refine z_cne 156 rfl rfl (fun h9 => absurd h9 (by decide)) (fun _ => ?_)
              refine z_aload 157 rfl rfl rfl ?_
              refine z_iload 159 rfl rfl rfl ?_
              refine y_pi 162 hR rfl rfl rfl rfl rfl (mFi rfl) ?_
              intro h hR
              refine z_iload 164 rfl rfl rfl ?_
              refine z_jeq 167 rfl rfl (fun h9 => absurd h9 (by decide)) (fun _ => ?_)
              refine z_iload 169 rfl rfl rfl ?_
              refine z_ireti rfl (Nat.le_refl _) (Nat.le_refl _) ?_
              have e9 : wrAll F K E H rule sg us m fr = (1, a, []) := by rw [hA9, wrA, if_neg (by omega), e8]
              rw [e9] at q
              exact q h _ hR (hKp2.I rfl) (gI_eq _ _ _) hfa2 (fun h9 => absurd (show (1 : Nat) = 0 from h9) (by decide))
          · refine z_iload 122 rfl rfl rfl ?_
            refine z_cs1 125 rfl rfl rfl (Nat.le_refl _) (Nat.le_refl _) ?_
            refine r_isLow ?_
            rw [jLow_n (by omega)]
            first | refine z_deq 128 rfl rfl (fun hc125 => ?_) (fun hc125 => ?_)
            · refine z_aload 140 rfl rfl rfl ?_
              refine z_iload 141 rfl rfl rfl ?_
              refine z_iload 142 rfl rfl rfl ?_
              refine z_iload 144 rfl rfl rfl ?_
              refine z_cv3 147 rfl rfl hR.1 rfl (Nat.le_refl _) (Nat.le_refl _) ?_
              have hun : unA us a = (1, us.getD a 0) := by rw [unA, if_neg (by omega), if_neg (by omega)]
              refine r_writePoint hR hp11 (by rw [hfa 1 (by decide)]; exact hk) hK (hT.k hKp) hW hG hs1 h34 hA hw hru (by rw [hfa 21 (by decide)]; exact hsg) hsgb hFB1 hFW hFd (by omega) ⟨fun y hy => ⟨fun hle h s2 hR hO2 hw2 g34 => ?_, fun hlt h s2 hR hO2 => ?_⟩, fun hnn h s2 hR hO2 hw2 g34 => ?_⟩
              · have e8 : wr1 F K E H rule sg us a st1 = some y := by rw [wr1, hun]; exact hy
                have hfa2 : ∀ g, g ∉ wL 45 → s2.2.2 g = s.2.2 g := fun g hg => ((hO2.1 g hg).2).trans (hfa g hg)
                have hKp2 := hKp.trans (hO2.keep hA.ne.2.2)
                have g22 : s2.1 22 = s.1 22 := (hO2.1 22 (by decide)).1.trans h22
                have hlm := hw2.2.2.2.2.1
                refine z_istore 149 rfl rfl rfl rfl ?_
                refine z_iload 151 rfl rfl rfl ?_
                refine z_push 153 (-10) rfl rfl rfl ?_
                refine z_cne 156 rfl rfl (fun _ => ?_) (fun h9 => absurd h9 (by decide))
                refine z_iload 164 rfl rfl rfl ?_
                refine z_zeq 167 rfl rfl (by omega) (fun _ => ?_) (fun h9 => absurd h9 (by omega))
                refine z_iload 172 rfl rfl rfl ?_
                refine z_iload 174 rfl rfl rfl ?_
                refine z_zeq 177 rfl rfl (by omega) (fun _ => ?_) (fun h9 => absurd h9 (by omega))
                refine z_push 182 (nI 1) rfl rfl rfl ?_
                refine z_bop 183 _ rfl rfl (by first | with_reducible exact zb_0 _ _ | exact zd_0 _ _) ?_
                refine z_istore 185 rfl rfl rfl rfl ?_
                refine z_goto rfl ?_
                refine ih (a + 1) _ _ s2 h _ _ _ (by omega) (by omega) ?_ hR hKp2 hfa2 g22 g34 (wr1_ok hG hs1 y e8) hw2
                rw [List.length_append] at hlm
                rw [hA9, wrA, if_neg (by omega), e8]
                simp only [if_pos hlm, hun]
                rfl
              · have e8 : wr1 F K E H rule sg us a st1 = some y := by rw [wr1, hun]; exact hy
                have hfa2 : ∀ g, g ∉ wL 45 → s2.2.2 g = s.2.2 g := fun g hg => ((hO2.1 g hg).2).trans (hfa g hg)
                have hKp2 := hKp.trans (hO2.keep hA.ne.2.2)
                have g22 : s2.1 22 = s.1 22 := (hO2.1 22 (by decide)).1.trans h22
                refine z_istore 149 rfl rfl rfl rfl ?_
                refine z_iload 151 rfl rfl rfl ?_
                refine z_push 153 (-10) rfl rfl rfl ?_
                refine z_cne 156 rfl rfl (fun _ => ?_) (fun h9 => absurd h9 (by decide))
                refine z_iload 164 rfl rfl rfl ?_
                refine z_jeq 167 rfl rfl (fun h9 => absurd h9 (by decide)) (fun _ => ?_)
                refine z_iload 169 rfl rfl rfl ?_
                refine z_ireti rfl (Nat.le_refl _) (Nat.le_refl _) ?_
                have e9 : wrAll F K E H rule sg us m fr = (2, 0, []) := by
                  rw [hA9, wrA, if_neg (by omega), e8]
                  exact if_neg (by omega)
                rw [e9] at q
                exact q h s2 hR hKp2 g22 hfa2 (fun h9 => absurd (show (2 : Nat) = 0 from h9) (by decide))
              · have e8 : wr1 F K E H rule sg us a st1 = none := by rw [wr1, hun]; exact hnn
                have hfa2 : ∀ g, g ∉ wL 45 → s2.2.2 g = s.2.2 g := fun g hg => ((hO2.1 g hg).2).trans (hfa g hg)
                have hKp2 := hKp.trans (hO2.keep hA.ne.2.2)
                refine z_istore 149 rfl rfl rfl rfl ?_
                refine z_iload 151 rfl rfl rfl ?_
                refine z_push 153 (-10) rfl rfl rfl ?_
                refine z_cne 156 rfl rfl (fun h9 => absurd h9 (by decide)) (fun _ => ?_)
                refine z_aload 157 rfl rfl rfl ?_
                refine z_iload 159 rfl rfl rfl ?_
                refine y_pi 162 hR rfl rfl rfl rfl rfl (mFi rfl) ?_
                intro h hR
                refine z_iload 164 rfl rfl rfl ?_
                refine z_jeq 167 rfl rfl (fun h9 => absurd h9 (by decide)) (fun _ => ?_)
                refine z_iload 169 rfl rfl rfl ?_
                refine z_ireti rfl (Nat.le_refl _) (Nat.le_refl _) ?_
                have e9 : wrAll F K E H rule sg us m fr = (1, a, []) := by rw [hA9, wrA, if_neg (by omega), e8]
                rw [e9] at q
                exact q h _ hR (hKp2.I rfl) (gI_eq _ _ _) hfa2 (fun h9 => absurd (show (1 : Nat) = 0 from h9) (by decide))
            · refine z_aload 129 rfl rfl rfl ?_
              refine z_iload 130 rfl rfl rfl ?_
              refine z_iload 131 rfl rfl rfl ?_
              refine z_iload 133 rfl rfl rfl ?_
              refine z_cv3 136 rfl rfl hR.1 rfl (Nat.le_refl _) (Nat.le_refl _) ?_
              have hun : unA us a = (0, us.getD a 0) := by rw [unA, if_neg (by omega), if_pos (by omega)]
              refine r_writeLone hR hp11 (by rw [hfa 1 (by decide)]; exact hk) hK (hT.k hKp) hW hG hs1 h34 hA hw hru (by rw [hfa 21 (by decide)]; exact hsg) hsgb (by omega) ⟨fun y hy => ⟨fun hle h s2 hR hO2 hw2 g34 => ?_, fun hlt h s2 hR hO2 => ?_⟩, fun hnn h s2 hR hO2 hw2 g34 => ?_⟩
              · have e8 : wr1 F K E H rule sg us a st1 = some y := by rw [wr1, hun]; exact hy
                have hfa2 : ∀ g, g ∉ wL 45 → s2.2.2 g = s.2.2 g := fun g hg => ((hO2.1 g hg).2).trans (hfa g hg)
                have hKp2 := hKp.trans (hO2.keep hA.ne.2.2)
                have g22 : s2.1 22 = s.1 22 := (hO2.1 22 (by decide)).1.trans h22
                have hlm := hw2.2.2.2.2.1
                refine z_goto rfl ?_
                refine z_istore 149 rfl rfl rfl rfl ?_
                refine z_iload 151 rfl rfl rfl ?_
                refine z_push 153 (-10) rfl rfl rfl ?_
                refine z_cne 156 rfl rfl (fun _ => ?_) (fun h9 => absurd h9 (by decide))
                refine z_iload 164 rfl rfl rfl ?_
                refine z_zeq 167 rfl rfl (by omega) (fun _ => ?_) (fun h9 => absurd h9 (by omega))
                refine z_iload 172 rfl rfl rfl ?_
                refine z_iload 174 rfl rfl rfl ?_
                refine z_zeq 177 rfl rfl (by omega) (fun _ => ?_) (fun h9 => absurd h9 (by omega))
                refine z_push 182 (nI 1) rfl rfl rfl ?_
                refine z_bop 183 _ rfl rfl (by first | with_reducible exact zb_0 _ _ | exact zd_0 _ _) ?_
                refine z_istore 185 rfl rfl rfl rfl ?_
                refine z_goto rfl ?_
                refine ih (a + 1) _ _ s2 h _ _ _ (by omega) (by omega) ?_ hR hKp2 hfa2 g22 g34 (wr1_ok hG hs1 y e8) hw2
                rw [List.length_append] at hlm
                rw [hA9, wrA, if_neg (by omega), e8]
                simp only [if_pos hlm, hun]
                rfl
              · have e8 : wr1 F K E H rule sg us a st1 = some y := by rw [wr1, hun]; exact hy
                have hfa2 : ∀ g, g ∉ wL 45 → s2.2.2 g = s.2.2 g := fun g hg => ((hO2.1 g hg).2).trans (hfa g hg)
                have hKp2 := hKp.trans (hO2.keep hA.ne.2.2)
                have g22 : s2.1 22 = s.1 22 := (hO2.1 22 (by decide)).1.trans h22
                refine z_goto rfl ?_
                refine z_istore 149 rfl rfl rfl rfl ?_
                refine z_iload 151 rfl rfl rfl ?_
                refine z_push 153 (-10) rfl rfl rfl ?_
                refine z_cne 156 rfl rfl (fun _ => ?_) (fun h9 => absurd h9 (by decide))
                refine z_iload 164 rfl rfl rfl ?_
                refine z_jeq 167 rfl rfl (fun h9 => absurd h9 (by decide)) (fun _ => ?_)
                refine z_iload 169 rfl rfl rfl ?_
                refine z_ireti rfl (Nat.le_refl _) (Nat.le_refl _) ?_
                have e9 : wrAll F K E H rule sg us m fr = (2, 0, []) := by
                  rw [hA9, wrA, if_neg (by omega), e8]
                  exact if_neg (by omega)
                rw [e9] at q
                exact q h s2 hR hKp2 g22 hfa2 (fun h9 => absurd (show (2 : Nat) = 0 from h9) (by decide))
              · have e8 : wr1 F K E H rule sg us a st1 = none := by rw [wr1, hun]; exact hnn
                have hfa2 : ∀ g, g ∉ wL 45 → s2.2.2 g = s.2.2 g := fun g hg => ((hO2.1 g hg).2).trans (hfa g hg)
                have hKp2 := hKp.trans (hO2.keep hA.ne.2.2)
                refine z_goto rfl ?_
                refine z_istore 149 rfl rfl rfl rfl ?_
                refine z_iload 151 rfl rfl rfl ?_
                refine z_push 153 (-10) rfl rfl rfl ?_
                refine z_cne 156 rfl rfl (fun h9 => absurd h9 (by decide)) (fun _ => ?_)
                refine z_aload 157 rfl rfl rfl ?_
                refine z_iload 159 rfl rfl rfl ?_
                refine y_pi 162 hR rfl rfl rfl rfl rfl (mFi rfl) ?_
                intro h hR
                refine z_iload 164 rfl rfl rfl ?_
                refine z_jeq 167 rfl rfl (fun h9 => absurd h9 (by decide)) (fun _ => ?_)
                refine z_iload 169 rfl rfl rfl ?_
                refine z_ireti rfl (Nat.le_refl _) (Nat.le_refl _) ?_
                have e9 : wrAll F K E H rule sg us m fr = (1, a, []) := by rw [hA9, wrA, if_neg (by omega), e8]
                rw [e9] at q
                exact q h _ hR (hKp2.I rfl) (gI_eq _ _ _) hfa2 (fun h9 => absurd (show (1 : Nat) = 0 from h9) (by decide))
        · refine z_iload 51 rfl rfl rfl ?_
          refine z_push 52 (nI 1) rfl rfl rfl ?_
          refine z_bop 53 _ rfl rfl (by first | with_reducible exact zb_0 _ _ | exact zd_0 _ _) ?_
          refine z_iload 55 rfl rfl rfl ?_
          refine z_nge 58 rfl rfl (by omega) (by omega) (fun hc55 => ?_) (fun hc55 => ?_)
          · refine z_push 75 (nI 0) rfl rfl rfl ?_
            refine z_istore 77 rfl rfl rfl rfl ?_
            refine z_iload 79 rfl rfl rfl ?_
            refine z_zeq 82 rfl rfl (by omega) (fun _ => ?_) (fun h9 => absurd h9 (by omega))
            refine z_iload 114 rfl rfl rfl ?_
            refine z_cs1 117 rfl rfl rfl (Nat.le_refl _) (Nat.le_refl _) ?_
            refine r_isHigh ?_
            rw [jHigh_n (by omega)]
            first | refine z_dne 120 rfl rfl (fun hc117 => ?_) (fun hc117 => ?_)
            · refine z_aload 129 rfl rfl rfl ?_
              refine z_iload 130 rfl rfl rfl ?_
              refine z_iload 131 rfl rfl rfl ?_
              refine z_iload 133 rfl rfl rfl ?_
              refine z_cv3 136 rfl rfl hR.1 rfl (Nat.le_refl _) (Nat.le_refl _) ?_
              have hun : unA us a = (0, us.getD a 0) := by rw [unA, if_neg (by omega), if_pos (by omega)]
              refine r_writeLone hR hp11 (by rw [hfa 1 (by decide)]; exact hk) hK (hT.k hKp) hW hG hs1 h34 hA hw hru (by rw [hfa 21 (by decide)]; exact hsg) hsgb (by omega) ⟨fun y hy => ⟨fun hle h s2 hR hO2 hw2 g34 => ?_, fun hlt h s2 hR hO2 => ?_⟩, fun hnn h s2 hR hO2 hw2 g34 => ?_⟩
              · have e8 : wr1 F K E H rule sg us a st1 = some y := by rw [wr1, hun]; exact hy
                have hfa2 : ∀ g, g ∉ wL 45 → s2.2.2 g = s.2.2 g := fun g hg => ((hO2.1 g hg).2).trans (hfa g hg)
                have hKp2 := hKp.trans (hO2.keep hA.ne.2.2)
                have g22 : s2.1 22 = s.1 22 := (hO2.1 22 (by decide)).1.trans h22
                have hlm := hw2.2.2.2.2.1
                refine z_goto rfl ?_
                refine z_istore 149 rfl rfl rfl rfl ?_
                refine z_iload 151 rfl rfl rfl ?_
                refine z_push 153 (-10) rfl rfl rfl ?_
                refine z_cne 156 rfl rfl (fun _ => ?_) (fun h9 => absurd h9 (by decide))
                refine z_iload 164 rfl rfl rfl ?_
                refine z_zeq 167 rfl rfl (by omega) (fun _ => ?_) (fun h9 => absurd h9 (by omega))
                refine z_iload 172 rfl rfl rfl ?_
                refine z_iload 174 rfl rfl rfl ?_
                refine z_zeq 177 rfl rfl (by omega) (fun _ => ?_) (fun h9 => absurd h9 (by omega))
                refine z_push 182 (nI 1) rfl rfl rfl ?_
                refine z_bop 183 _ rfl rfl (by first | with_reducible exact zb_0 _ _ | exact zd_0 _ _) ?_
                refine z_istore 185 rfl rfl rfl rfl ?_
                refine z_goto rfl ?_
                refine ih (a + 1) _ _ s2 h _ _ _ (by omega) (by omega) ?_ hR hKp2 hfa2 g22 g34 (wr1_ok hG hs1 y e8) hw2
                rw [List.length_append] at hlm
                rw [hA9, wrA, if_neg (by omega), e8]
                simp only [if_pos hlm, hun]
                rfl
              · have e8 : wr1 F K E H rule sg us a st1 = some y := by rw [wr1, hun]; exact hy
                have hfa2 : ∀ g, g ∉ wL 45 → s2.2.2 g = s.2.2 g := fun g hg => ((hO2.1 g hg).2).trans (hfa g hg)
                have hKp2 := hKp.trans (hO2.keep hA.ne.2.2)
                have g22 : s2.1 22 = s.1 22 := (hO2.1 22 (by decide)).1.trans h22
                refine z_goto rfl ?_
                refine z_istore 149 rfl rfl rfl rfl ?_
                refine z_iload 151 rfl rfl rfl ?_
                refine z_push 153 (-10) rfl rfl rfl ?_
                refine z_cne 156 rfl rfl (fun _ => ?_) (fun h9 => absurd h9 (by decide))
                refine z_iload 164 rfl rfl rfl ?_
                refine z_jeq 167 rfl rfl (fun h9 => absurd h9 (by decide)) (fun _ => ?_)
                refine z_iload 169 rfl rfl rfl ?_
                refine z_ireti rfl (Nat.le_refl _) (Nat.le_refl _) ?_
                have e9 : wrAll F K E H rule sg us m fr = (2, 0, []) := by
                  rw [hA9, wrA, if_neg (by omega), e8]
                  exact if_neg (by omega)
                rw [e9] at q
                exact q h s2 hR hKp2 g22 hfa2 (fun h9 => absurd (show (2 : Nat) = 0 from h9) (by decide))
              · have e8 : wr1 F K E H rule sg us a st1 = none := by rw [wr1, hun]; exact hnn
                have hfa2 : ∀ g, g ∉ wL 45 → s2.2.2 g = s.2.2 g := fun g hg => ((hO2.1 g hg).2).trans (hfa g hg)
                have hKp2 := hKp.trans (hO2.keep hA.ne.2.2)
                refine z_goto rfl ?_
                refine z_istore 149 rfl rfl rfl rfl ?_
                refine z_iload 151 rfl rfl rfl ?_
                refine z_push 153 (-10) rfl rfl rfl ?_
                refine z_cne 156 rfl rfl (fun h9 => absurd h9 (by decide)) (fun _ => ?_)
                refine z_aload 157 rfl rfl rfl ?_
                refine z_iload 159 rfl rfl rfl ?_
                refine y_pi 162 hR rfl rfl rfl rfl rfl (mFi rfl) ?_
                intro h hR
                refine z_iload 164 rfl rfl rfl ?_
                refine z_jeq 167 rfl rfl (fun h9 => absurd h9 (by decide)) (fun _ => ?_)
                refine z_iload 169 rfl rfl rfl ?_
                refine z_ireti rfl (Nat.le_refl _) (Nat.le_refl _) ?_
                have e9 : wrAll F K E H rule sg us m fr = (1, a, []) := by rw [hA9, wrA, if_neg (by omega), e8]
                rw [e9] at q
                exact q h _ hR (hKp2.I rfl) (gI_eq _ _ _) hfa2 (fun h9 => absurd (show (1 : Nat) = 0 from h9) (by decide))
            · refine z_iload 122 rfl rfl rfl ?_
              refine z_cs1 125 rfl rfl rfl (Nat.le_refl _) (Nat.le_refl _) ?_
              refine r_isLow ?_
              rw [jLow_n (by omega)]
              first | refine z_deq 128 rfl rfl (fun hc125 => ?_) (fun hc125 => ?_)
              · refine z_aload 140 rfl rfl rfl ?_
                refine z_iload 141 rfl rfl rfl ?_
                refine z_iload 142 rfl rfl rfl ?_
                refine z_iload 144 rfl rfl rfl ?_
                refine z_cv3 147 rfl rfl hR.1 rfl (Nat.le_refl _) (Nat.le_refl _) ?_
                have hun : unA us a = (1, us.getD a 0) := by rw [unA, if_neg (by omega), if_neg (by omega)]
                refine r_writePoint hR hp11 (by rw [hfa 1 (by decide)]; exact hk) hK (hT.k hKp) hW hG hs1 h34 hA hw hru (by rw [hfa 21 (by decide)]; exact hsg) hsgb hFB1 hFW hFd (by omega) ⟨fun y hy => ⟨fun hle h s2 hR hO2 hw2 g34 => ?_, fun hlt h s2 hR hO2 => ?_⟩, fun hnn h s2 hR hO2 hw2 g34 => ?_⟩
                · have e8 : wr1 F K E H rule sg us a st1 = some y := by rw [wr1, hun]; exact hy
                  have hfa2 : ∀ g, g ∉ wL 45 → s2.2.2 g = s.2.2 g := fun g hg => ((hO2.1 g hg).2).trans (hfa g hg)
                  have hKp2 := hKp.trans (hO2.keep hA.ne.2.2)
                  have g22 : s2.1 22 = s.1 22 := (hO2.1 22 (by decide)).1.trans h22
                  have hlm := hw2.2.2.2.2.1
                  refine z_istore 149 rfl rfl rfl rfl ?_
                  refine z_iload 151 rfl rfl rfl ?_
                  refine z_push 153 (-10) rfl rfl rfl ?_
                  refine z_cne 156 rfl rfl (fun _ => ?_) (fun h9 => absurd h9 (by decide))
                  refine z_iload 164 rfl rfl rfl ?_
                  refine z_zeq 167 rfl rfl (by omega) (fun _ => ?_) (fun h9 => absurd h9 (by omega))
                  refine z_iload 172 rfl rfl rfl ?_
                  refine z_iload 174 rfl rfl rfl ?_
                  refine z_zeq 177 rfl rfl (by omega) (fun _ => ?_) (fun h9 => absurd h9 (by omega))
                  refine z_push 182 (nI 1) rfl rfl rfl ?_
                  refine z_bop 183 _ rfl rfl (by first | with_reducible exact zb_0 _ _ | exact zd_0 _ _) ?_
                  refine z_istore 185 rfl rfl rfl rfl ?_
                  refine z_goto rfl ?_
                  refine ih (a + 1) _ _ s2 h _ _ _ (by omega) (by omega) ?_ hR hKp2 hfa2 g22 g34 (wr1_ok hG hs1 y e8) hw2
                  rw [List.length_append] at hlm
                  rw [hA9, wrA, if_neg (by omega), e8]
                  simp only [if_pos hlm, hun]
                  rfl
                · have e8 : wr1 F K E H rule sg us a st1 = some y := by rw [wr1, hun]; exact hy
                  have hfa2 : ∀ g, g ∉ wL 45 → s2.2.2 g = s.2.2 g := fun g hg => ((hO2.1 g hg).2).trans (hfa g hg)
                  have hKp2 := hKp.trans (hO2.keep hA.ne.2.2)
                  have g22 : s2.1 22 = s.1 22 := (hO2.1 22 (by decide)).1.trans h22
                  refine z_istore 149 rfl rfl rfl rfl ?_
                  refine z_iload 151 rfl rfl rfl ?_
                  refine z_push 153 (-10) rfl rfl rfl ?_
                  refine z_cne 156 rfl rfl (fun _ => ?_) (fun h9 => absurd h9 (by decide))
                  refine z_iload 164 rfl rfl rfl ?_
                  refine z_jeq 167 rfl rfl (fun h9 => absurd h9 (by decide)) (fun _ => ?_)
                  refine z_iload 169 rfl rfl rfl ?_
                  refine z_ireti rfl (Nat.le_refl _) (Nat.le_refl _) ?_
                  have e9 : wrAll F K E H rule sg us m fr = (2, 0, []) := by
                    rw [hA9, wrA, if_neg (by omega), e8]
                    exact if_neg (by omega)
                  rw [e9] at q
                  exact q h s2 hR hKp2 g22 hfa2 (fun h9 => absurd (show (2 : Nat) = 0 from h9) (by decide))
                · have e8 : wr1 F K E H rule sg us a st1 = none := by rw [wr1, hun]; exact hnn
                  have hfa2 : ∀ g, g ∉ wL 45 → s2.2.2 g = s.2.2 g := fun g hg => ((hO2.1 g hg).2).trans (hfa g hg)
                  have hKp2 := hKp.trans (hO2.keep hA.ne.2.2)
                  refine z_istore 149 rfl rfl rfl rfl ?_
                  refine z_iload 151 rfl rfl rfl ?_
                  refine z_push 153 (-10) rfl rfl rfl ?_
                  refine z_cne 156 rfl rfl (fun h9 => absurd h9 (by decide)) (fun _ => ?_)
                  refine z_aload 157 rfl rfl rfl ?_
                  refine z_iload 159 rfl rfl rfl ?_
                  refine y_pi 162 hR rfl rfl rfl rfl rfl (mFi rfl) ?_
                  intro h hR
                  refine z_iload 164 rfl rfl rfl ?_
                  refine z_jeq 167 rfl rfl (fun h9 => absurd h9 (by decide)) (fun _ => ?_)
                  refine z_iload 169 rfl rfl rfl ?_
                  refine z_ireti rfl (Nat.le_refl _) (Nat.le_refl _) ?_
                  have e9 : wrAll F K E H rule sg us m fr = (1, a, []) := by rw [hA9, wrA, if_neg (by omega), e8]
                  rw [e9] at q
                  exact q h _ hR (hKp2.I rfl) (gI_eq _ _ _) hfa2 (fun h9 => absurd (show (1 : Nat) = 0 from h9) (by decide))
              · refine z_aload 129 rfl rfl rfl ?_
                refine z_iload 130 rfl rfl rfl ?_
                refine z_iload 131 rfl rfl rfl ?_
                refine z_iload 133 rfl rfl rfl ?_
                refine z_cv3 136 rfl rfl hR.1 rfl (Nat.le_refl _) (Nat.le_refl _) ?_
                have hun : unA us a = (0, us.getD a 0) := by rw [unA, if_neg (by omega), if_pos (by omega)]
                refine r_writeLone hR hp11 (by rw [hfa 1 (by decide)]; exact hk) hK (hT.k hKp) hW hG hs1 h34 hA hw hru (by rw [hfa 21 (by decide)]; exact hsg) hsgb (by omega) ⟨fun y hy => ⟨fun hle h s2 hR hO2 hw2 g34 => ?_, fun hlt h s2 hR hO2 => ?_⟩, fun hnn h s2 hR hO2 hw2 g34 => ?_⟩
                · have e8 : wr1 F K E H rule sg us a st1 = some y := by rw [wr1, hun]; exact hy
                  have hfa2 : ∀ g, g ∉ wL 45 → s2.2.2 g = s.2.2 g := fun g hg => ((hO2.1 g hg).2).trans (hfa g hg)
                  have hKp2 := hKp.trans (hO2.keep hA.ne.2.2)
                  have g22 : s2.1 22 = s.1 22 := (hO2.1 22 (by decide)).1.trans h22
                  have hlm := hw2.2.2.2.2.1
                  refine z_goto rfl ?_
                  refine z_istore 149 rfl rfl rfl rfl ?_
                  refine z_iload 151 rfl rfl rfl ?_
                  refine z_push 153 (-10) rfl rfl rfl ?_
                  refine z_cne 156 rfl rfl (fun _ => ?_) (fun h9 => absurd h9 (by decide))
                  refine z_iload 164 rfl rfl rfl ?_
                  refine z_zeq 167 rfl rfl (by omega) (fun _ => ?_) (fun h9 => absurd h9 (by omega))
                  refine z_iload 172 rfl rfl rfl ?_
                  refine z_iload 174 rfl rfl rfl ?_
                  refine z_zeq 177 rfl rfl (by omega) (fun _ => ?_) (fun h9 => absurd h9 (by omega))
                  refine z_push 182 (nI 1) rfl rfl rfl ?_
                  refine z_bop 183 _ rfl rfl (by first | with_reducible exact zb_0 _ _ | exact zd_0 _ _) ?_
                  refine z_istore 185 rfl rfl rfl rfl ?_
                  refine z_goto rfl ?_
                  refine ih (a + 1) _ _ s2 h _ _ _ (by omega) (by omega) ?_ hR hKp2 hfa2 g22 g34 (wr1_ok hG hs1 y e8) hw2
                  rw [List.length_append] at hlm
                  rw [hA9, wrA, if_neg (by omega), e8]
                  simp only [if_pos hlm, hun]
                  rfl
                · have e8 : wr1 F K E H rule sg us a st1 = some y := by rw [wr1, hun]; exact hy
                  have hfa2 : ∀ g, g ∉ wL 45 → s2.2.2 g = s.2.2 g := fun g hg => ((hO2.1 g hg).2).trans (hfa g hg)
                  have hKp2 := hKp.trans (hO2.keep hA.ne.2.2)
                  have g22 : s2.1 22 = s.1 22 := (hO2.1 22 (by decide)).1.trans h22
                  refine z_goto rfl ?_
                  refine z_istore 149 rfl rfl rfl rfl ?_
                  refine z_iload 151 rfl rfl rfl ?_
                  refine z_push 153 (-10) rfl rfl rfl ?_
                  refine z_cne 156 rfl rfl (fun _ => ?_) (fun h9 => absurd h9 (by decide))
                  refine z_iload 164 rfl rfl rfl ?_
                  refine z_jeq 167 rfl rfl (fun h9 => absurd h9 (by decide)) (fun _ => ?_)
                  refine z_iload 169 rfl rfl rfl ?_
                  refine z_ireti rfl (Nat.le_refl _) (Nat.le_refl _) ?_
                  have e9 : wrAll F K E H rule sg us m fr = (2, 0, []) := by
                    rw [hA9, wrA, if_neg (by omega), e8]
                    exact if_neg (by omega)
                  rw [e9] at q
                  exact q h s2 hR hKp2 g22 hfa2 (fun h9 => absurd (show (2 : Nat) = 0 from h9) (by decide))
                · have e8 : wr1 F K E H rule sg us a st1 = none := by rw [wr1, hun]; exact hnn
                  have hfa2 : ∀ g, g ∉ wL 45 → s2.2.2 g = s.2.2 g := fun g hg => ((hO2.1 g hg).2).trans (hfa g hg)
                  have hKp2 := hKp.trans (hO2.keep hA.ne.2.2)
                  refine z_goto rfl ?_
                  refine z_istore 149 rfl rfl rfl rfl ?_
                  refine z_iload 151 rfl rfl rfl ?_
                  refine z_push 153 (-10) rfl rfl rfl ?_
                  refine z_cne 156 rfl rfl (fun h9 => absurd h9 (by decide)) (fun _ => ?_)
                  refine z_aload 157 rfl rfl rfl ?_
                  refine z_iload 159 rfl rfl rfl ?_
                  refine y_pi 162 hR rfl rfl rfl rfl rfl (mFi rfl) ?_
                  intro h hR
                  refine z_iload 164 rfl rfl rfl ?_
                  refine z_jeq 167 rfl rfl (fun h9 => absurd h9 (by decide)) (fun _ => ?_)
                  refine z_iload 169 rfl rfl rfl ?_
                  refine z_ireti rfl (Nat.le_refl _) (Nat.le_refl _) ?_
                  have e9 : wrAll F K E H rule sg us m fr = (1, a, []) := by rw [hA9, wrA, if_neg (by omega), e8]
                  rw [e9] at q
                  exact q h _ hR (hKp2.I rfl) (gI_eq _ _ _) hfa2 (fun h9 => absurd (show (1 : Nat) = 0 from h9) (by decide))
          · refine z_aload 59 rfl rfl rfl ?_
            refine z_iload 61 rfl rfl rfl ?_
            refine z_push 62 (nI 1) rfl rfl rfl ?_
            refine z_bop 63 _ rfl rfl (by first | with_reducible exact zb_0 _ _ | exact zd_0 _ _) ?_
            refine y_al (f := f) 64 _ hR rfl rfl ha rfl (by omega) (by repeat (first | with_reducible exact ksr a (by omega) | with_reducible exact ksr (a + 1) (by omega) | with_reducible exact k37 | with_reducible exact gA_eq _ _ _ _ | (with_reducible apply gA_ne; decide) | with_reducible apply gA_I | with_reducible apply gA_O | (with_reducible apply gA_nj; omega) | with_reducible rfl)) ?_
            refine z_cs1 67 rfl rfl rfl (Nat.le_refl _) (Nat.le_refl _) ?_
            refine r_isLow ?_
            rw [jLow_n (by omega)]
            first | refine z_deq 70 rfl rfl (fun hc67 => ?_) (fun hc67 => ?_)
            · refine z_push 75 (nI 0) rfl rfl rfl ?_
              refine z_istore 77 rfl rfl rfl rfl ?_
              refine z_iload 79 rfl rfl rfl ?_
              refine z_zeq 82 rfl rfl (by omega) (fun _ => ?_) (fun h9 => absurd h9 (by omega))
              refine z_iload 114 rfl rfl rfl ?_
              refine z_cs1 117 rfl rfl rfl (Nat.le_refl _) (Nat.le_refl _) ?_
              refine r_isHigh ?_
              rw [jHigh_n (by omega)]
              first | refine z_dne 120 rfl rfl (fun hc117 => ?_) (fun hc117 => ?_)
              · refine z_aload 129 rfl rfl rfl ?_
                refine z_iload 130 rfl rfl rfl ?_
                refine z_iload 131 rfl rfl rfl ?_
                refine z_iload 133 rfl rfl rfl ?_
                refine z_cv3 136 rfl rfl hR.1 rfl (Nat.le_refl _) (Nat.le_refl _) ?_
                have hun : unA us a = (0, us.getD a 0) := by rw [unA, if_neg (by omega), if_pos (by omega)]
                refine r_writeLone hR hp11 (by rw [hfa 1 (by decide)]; exact hk) hK (hT.k hKp) hW hG hs1 h34 hA hw hru (by rw [hfa 21 (by decide)]; exact hsg) hsgb (by omega) ⟨fun y hy => ⟨fun hle h s2 hR hO2 hw2 g34 => ?_, fun hlt h s2 hR hO2 => ?_⟩, fun hnn h s2 hR hO2 hw2 g34 => ?_⟩
                · have e8 : wr1 F K E H rule sg us a st1 = some y := by rw [wr1, hun]; exact hy
                  have hfa2 : ∀ g, g ∉ wL 45 → s2.2.2 g = s.2.2 g := fun g hg => ((hO2.1 g hg).2).trans (hfa g hg)
                  have hKp2 := hKp.trans (hO2.keep hA.ne.2.2)
                  have g22 : s2.1 22 = s.1 22 := (hO2.1 22 (by decide)).1.trans h22
                  have hlm := hw2.2.2.2.2.1
                  refine z_goto rfl ?_
                  refine z_istore 149 rfl rfl rfl rfl ?_
                  refine z_iload 151 rfl rfl rfl ?_
                  refine z_push 153 (-10) rfl rfl rfl ?_
                  refine z_cne 156 rfl rfl (fun _ => ?_) (fun h9 => absurd h9 (by decide))
                  refine z_iload 164 rfl rfl rfl ?_
                  refine z_zeq 167 rfl rfl (by omega) (fun _ => ?_) (fun h9 => absurd h9 (by omega))
                  refine z_iload 172 rfl rfl rfl ?_
                  refine z_iload 174 rfl rfl rfl ?_
                  refine z_zeq 177 rfl rfl (by omega) (fun _ => ?_) (fun h9 => absurd h9 (by omega))
                  refine z_push 182 (nI 1) rfl rfl rfl ?_
                  refine z_bop 183 _ rfl rfl (by first | with_reducible exact zb_0 _ _ | exact zd_0 _ _) ?_
                  refine z_istore 185 rfl rfl rfl rfl ?_
                  refine z_goto rfl ?_
                  refine ih (a + 1) _ _ s2 h _ _ _ (by omega) (by omega) ?_ hR hKp2 hfa2 g22 g34 (wr1_ok hG hs1 y e8) hw2
                  rw [List.length_append] at hlm
                  rw [hA9, wrA, if_neg (by omega), e8]
                  simp only [if_pos hlm, hun]
                  rfl
                · have e8 : wr1 F K E H rule sg us a st1 = some y := by rw [wr1, hun]; exact hy
                  have hfa2 : ∀ g, g ∉ wL 45 → s2.2.2 g = s.2.2 g := fun g hg => ((hO2.1 g hg).2).trans (hfa g hg)
                  have hKp2 := hKp.trans (hO2.keep hA.ne.2.2)
                  have g22 : s2.1 22 = s.1 22 := (hO2.1 22 (by decide)).1.trans h22
                  refine z_goto rfl ?_
                  refine z_istore 149 rfl rfl rfl rfl ?_
                  refine z_iload 151 rfl rfl rfl ?_
                  refine z_push 153 (-10) rfl rfl rfl ?_
                  refine z_cne 156 rfl rfl (fun _ => ?_) (fun h9 => absurd h9 (by decide))
                  refine z_iload 164 rfl rfl rfl ?_
                  refine z_jeq 167 rfl rfl (fun h9 => absurd h9 (by decide)) (fun _ => ?_)
                  refine z_iload 169 rfl rfl rfl ?_
                  refine z_ireti rfl (Nat.le_refl _) (Nat.le_refl _) ?_
                  have e9 : wrAll F K E H rule sg us m fr = (2, 0, []) := by
                    rw [hA9, wrA, if_neg (by omega), e8]
                    exact if_neg (by omega)
                  rw [e9] at q
                  exact q h s2 hR hKp2 g22 hfa2 (fun h9 => absurd (show (2 : Nat) = 0 from h9) (by decide))
                · have e8 : wr1 F K E H rule sg us a st1 = none := by rw [wr1, hun]; exact hnn
                  have hfa2 : ∀ g, g ∉ wL 45 → s2.2.2 g = s.2.2 g := fun g hg => ((hO2.1 g hg).2).trans (hfa g hg)
                  have hKp2 := hKp.trans (hO2.keep hA.ne.2.2)
                  refine z_goto rfl ?_
                  refine z_istore 149 rfl rfl rfl rfl ?_
                  refine z_iload 151 rfl rfl rfl ?_
                  refine z_push 153 (-10) rfl rfl rfl ?_
                  refine z_cne 156 rfl rfl (fun h9 => absurd h9 (by decide)) (fun _ => ?_)
                  refine z_aload 157 rfl rfl rfl ?_
                  refine z_iload 159 rfl rfl rfl ?_
                  refine y_pi 162 hR rfl rfl rfl rfl rfl (mFi rfl) ?_
                  intro h hR
                  refine z_iload 164 rfl rfl rfl ?_
                  refine z_jeq 167 rfl rfl (fun h9 => absurd h9 (by decide)) (fun _ => ?_)
                  refine z_iload 169 rfl rfl rfl ?_
                  refine z_ireti rfl (Nat.le_refl _) (Nat.le_refl _) ?_
                  have e9 : wrAll F K E H rule sg us m fr = (1, a, []) := by rw [hA9, wrA, if_neg (by omega), e8]
                  rw [e9] at q
                  exact q h _ hR (hKp2.I rfl) (gI_eq _ _ _) hfa2 (fun h9 => absurd (show (1 : Nat) = 0 from h9) (by decide))
              · refine z_iload 122 rfl rfl rfl ?_
                refine z_cs1 125 rfl rfl rfl (Nat.le_refl _) (Nat.le_refl _) ?_
                refine r_isLow ?_
                rw [jLow_n (by omega)]
                first | refine z_deq 128 rfl rfl (fun hc125 => ?_) (fun hc125 => ?_)
                · refine z_aload 140 rfl rfl rfl ?_
                  refine z_iload 141 rfl rfl rfl ?_
                  refine z_iload 142 rfl rfl rfl ?_
                  refine z_iload 144 rfl rfl rfl ?_
                  refine z_cv3 147 rfl rfl hR.1 rfl (Nat.le_refl _) (Nat.le_refl _) ?_
                  have hun : unA us a = (1, us.getD a 0) := by rw [unA, if_neg (by omega), if_neg (by omega)]
                  refine r_writePoint hR hp11 (by rw [hfa 1 (by decide)]; exact hk) hK (hT.k hKp) hW hG hs1 h34 hA hw hru (by rw [hfa 21 (by decide)]; exact hsg) hsgb hFB1 hFW hFd (by omega) ⟨fun y hy => ⟨fun hle h s2 hR hO2 hw2 g34 => ?_, fun hlt h s2 hR hO2 => ?_⟩, fun hnn h s2 hR hO2 hw2 g34 => ?_⟩
                  · have e8 : wr1 F K E H rule sg us a st1 = some y := by rw [wr1, hun]; exact hy
                    have hfa2 : ∀ g, g ∉ wL 45 → s2.2.2 g = s.2.2 g := fun g hg => ((hO2.1 g hg).2).trans (hfa g hg)
                    have hKp2 := hKp.trans (hO2.keep hA.ne.2.2)
                    have g22 : s2.1 22 = s.1 22 := (hO2.1 22 (by decide)).1.trans h22
                    have hlm := hw2.2.2.2.2.1
                    refine z_istore 149 rfl rfl rfl rfl ?_
                    refine z_iload 151 rfl rfl rfl ?_
                    refine z_push 153 (-10) rfl rfl rfl ?_
                    refine z_cne 156 rfl rfl (fun _ => ?_) (fun h9 => absurd h9 (by decide))
                    refine z_iload 164 rfl rfl rfl ?_
                    refine z_zeq 167 rfl rfl (by omega) (fun _ => ?_) (fun h9 => absurd h9 (by omega))
                    refine z_iload 172 rfl rfl rfl ?_
                    refine z_iload 174 rfl rfl rfl ?_
                    refine z_zeq 177 rfl rfl (by omega) (fun _ => ?_) (fun h9 => absurd h9 (by omega))
                    refine z_push 182 (nI 1) rfl rfl rfl ?_
                    refine z_bop 183 _ rfl rfl (by first | with_reducible exact zb_0 _ _ | exact zd_0 _ _) ?_
                    refine z_istore 185 rfl rfl rfl rfl ?_
                    refine z_goto rfl ?_
                    refine ih (a + 1) _ _ s2 h _ _ _ (by omega) (by omega) ?_ hR hKp2 hfa2 g22 g34 (wr1_ok hG hs1 y e8) hw2
                    rw [List.length_append] at hlm
                    rw [hA9, wrA, if_neg (by omega), e8]
                    simp only [if_pos hlm, hun]
                    rfl
                  · have e8 : wr1 F K E H rule sg us a st1 = some y := by rw [wr1, hun]; exact hy
                    have hfa2 : ∀ g, g ∉ wL 45 → s2.2.2 g = s.2.2 g := fun g hg => ((hO2.1 g hg).2).trans (hfa g hg)
                    have hKp2 := hKp.trans (hO2.keep hA.ne.2.2)
                    have g22 : s2.1 22 = s.1 22 := (hO2.1 22 (by decide)).1.trans h22
                    refine z_istore 149 rfl rfl rfl rfl ?_
                    refine z_iload 151 rfl rfl rfl ?_
                    refine z_push 153 (-10) rfl rfl rfl ?_
                    refine z_cne 156 rfl rfl (fun _ => ?_) (fun h9 => absurd h9 (by decide))
                    refine z_iload 164 rfl rfl rfl ?_
                    refine z_jeq 167 rfl rfl (fun h9 => absurd h9 (by decide)) (fun _ => ?_)
                    refine z_iload 169 rfl rfl rfl ?_
                    refine z_ireti rfl (Nat.le_refl _) (Nat.le_refl _) ?_
                    have e9 : wrAll F K E H rule sg us m fr = (2, 0, []) := by
                      rw [hA9, wrA, if_neg (by omega), e8]
                      exact if_neg (by omega)
                    rw [e9] at q
                    exact q h s2 hR hKp2 g22 hfa2 (fun h9 => absurd (show (2 : Nat) = 0 from h9) (by decide))
                  · have e8 : wr1 F K E H rule sg us a st1 = none := by rw [wr1, hun]; exact hnn
                    have hfa2 : ∀ g, g ∉ wL 45 → s2.2.2 g = s.2.2 g := fun g hg => ((hO2.1 g hg).2).trans (hfa g hg)
                    have hKp2 := hKp.trans (hO2.keep hA.ne.2.2)
                    refine z_istore 149 rfl rfl rfl rfl ?_
                    refine z_iload 151 rfl rfl rfl ?_
                    refine z_push 153 (-10) rfl rfl rfl ?_
                    refine z_cne 156 rfl rfl (fun h9 => absurd h9 (by decide)) (fun _ => ?_)
                    refine z_aload 157 rfl rfl rfl ?_
                    refine z_iload 159 rfl rfl rfl ?_
                    refine y_pi 162 hR rfl rfl rfl rfl rfl (mFi rfl) ?_
                    intro h hR
                    refine z_iload 164 rfl rfl rfl ?_
                    refine z_jeq 167 rfl rfl (fun h9 => absurd h9 (by decide)) (fun _ => ?_)
                    refine z_iload 169 rfl rfl rfl ?_
                    refine z_ireti rfl (Nat.le_refl _) (Nat.le_refl _) ?_
                    have e9 : wrAll F K E H rule sg us m fr = (1, a, []) := by rw [hA9, wrA, if_neg (by omega), e8]
                    rw [e9] at q
                    exact q h _ hR (hKp2.I rfl) (gI_eq _ _ _) hfa2 (fun h9 => absurd (show (1 : Nat) = 0 from h9) (by decide))
                · refine z_aload 129 rfl rfl rfl ?_
                  refine z_iload 130 rfl rfl rfl ?_
                  refine z_iload 131 rfl rfl rfl ?_
                  refine z_iload 133 rfl rfl rfl ?_
                  refine z_cv3 136 rfl rfl hR.1 rfl (Nat.le_refl _) (Nat.le_refl _) ?_
                  have hun : unA us a = (0, us.getD a 0) := by rw [unA, if_neg (by omega), if_pos (by omega)]
                  refine r_writeLone hR hp11 (by rw [hfa 1 (by decide)]; exact hk) hK (hT.k hKp) hW hG hs1 h34 hA hw hru (by rw [hfa 21 (by decide)]; exact hsg) hsgb (by omega) ⟨fun y hy => ⟨fun hle h s2 hR hO2 hw2 g34 => ?_, fun hlt h s2 hR hO2 => ?_⟩, fun hnn h s2 hR hO2 hw2 g34 => ?_⟩
                  · have e8 : wr1 F K E H rule sg us a st1 = some y := by rw [wr1, hun]; exact hy
                    have hfa2 : ∀ g, g ∉ wL 45 → s2.2.2 g = s.2.2 g := fun g hg => ((hO2.1 g hg).2).trans (hfa g hg)
                    have hKp2 := hKp.trans (hO2.keep hA.ne.2.2)
                    have g22 : s2.1 22 = s.1 22 := (hO2.1 22 (by decide)).1.trans h22
                    have hlm := hw2.2.2.2.2.1
                    refine z_goto rfl ?_
                    refine z_istore 149 rfl rfl rfl rfl ?_
                    refine z_iload 151 rfl rfl rfl ?_
                    refine z_push 153 (-10) rfl rfl rfl ?_
                    refine z_cne 156 rfl rfl (fun _ => ?_) (fun h9 => absurd h9 (by decide))
                    refine z_iload 164 rfl rfl rfl ?_
                    refine z_zeq 167 rfl rfl (by omega) (fun _ => ?_) (fun h9 => absurd h9 (by omega))
                    refine z_iload 172 rfl rfl rfl ?_
                    refine z_iload 174 rfl rfl rfl ?_
                    refine z_zeq 177 rfl rfl (by omega) (fun _ => ?_) (fun h9 => absurd h9 (by omega))
                    refine z_push 182 (nI 1) rfl rfl rfl ?_
                    refine z_bop 183 _ rfl rfl (by first | with_reducible exact zb_0 _ _ | exact zd_0 _ _) ?_
                    refine z_istore 185 rfl rfl rfl rfl ?_
                    refine z_goto rfl ?_
                    refine ih (a + 1) _ _ s2 h _ _ _ (by omega) (by omega) ?_ hR hKp2 hfa2 g22 g34 (wr1_ok hG hs1 y e8) hw2
                    rw [List.length_append] at hlm
                    rw [hA9, wrA, if_neg (by omega), e8]
                    simp only [if_pos hlm, hun]
                    rfl
                  · have e8 : wr1 F K E H rule sg us a st1 = some y := by rw [wr1, hun]; exact hy
                    have hfa2 : ∀ g, g ∉ wL 45 → s2.2.2 g = s.2.2 g := fun g hg => ((hO2.1 g hg).2).trans (hfa g hg)
                    have hKp2 := hKp.trans (hO2.keep hA.ne.2.2)
                    have g22 : s2.1 22 = s.1 22 := (hO2.1 22 (by decide)).1.trans h22
                    refine z_goto rfl ?_
                    refine z_istore 149 rfl rfl rfl rfl ?_
                    refine z_iload 151 rfl rfl rfl ?_
                    refine z_push 153 (-10) rfl rfl rfl ?_
                    refine z_cne 156 rfl rfl (fun _ => ?_) (fun h9 => absurd h9 (by decide))
                    refine z_iload 164 rfl rfl rfl ?_
                    refine z_jeq 167 rfl rfl (fun h9 => absurd h9 (by decide)) (fun _ => ?_)
                    refine z_iload 169 rfl rfl rfl ?_
                    refine z_ireti rfl (Nat.le_refl _) (Nat.le_refl _) ?_
                    have e9 : wrAll F K E H rule sg us m fr = (2, 0, []) := by
                      rw [hA9, wrA, if_neg (by omega), e8]
                      exact if_neg (by omega)
                    rw [e9] at q
                    exact q h s2 hR hKp2 g22 hfa2 (fun h9 => absurd (show (2 : Nat) = 0 from h9) (by decide))
                  · have e8 : wr1 F K E H rule sg us a st1 = none := by rw [wr1, hun]; exact hnn
                    have hfa2 : ∀ g, g ∉ wL 45 → s2.2.2 g = s.2.2 g := fun g hg => ((hO2.1 g hg).2).trans (hfa g hg)
                    have hKp2 := hKp.trans (hO2.keep hA.ne.2.2)
                    refine z_goto rfl ?_
                    refine z_istore 149 rfl rfl rfl rfl ?_
                    refine z_iload 151 rfl rfl rfl ?_
                    refine z_push 153 (-10) rfl rfl rfl ?_
                    refine z_cne 156 rfl rfl (fun h9 => absurd h9 (by decide)) (fun _ => ?_)
                    refine z_aload 157 rfl rfl rfl ?_
                    refine z_iload 159 rfl rfl rfl ?_
                    refine y_pi 162 hR rfl rfl rfl rfl rfl (mFi rfl) ?_
                    intro h hR
                    refine z_iload 164 rfl rfl rfl ?_
                    refine z_jeq 167 rfl rfl (fun h9 => absurd h9 (by decide)) (fun _ => ?_)
                    refine z_iload 169 rfl rfl rfl ?_
                    refine z_ireti rfl (Nat.le_refl _) (Nat.le_refl _) ?_
                    have e9 : wrAll F K E H rule sg us m fr = (1, a, []) := by rw [hA9, wrA, if_neg (by omega), e8]
                    rw [e9] at q
                    exact q h _ hR (hKp2.I rfl) (gI_eq _ _ _) hfa2 (fun h9 => absurd (show (1 : Nat) = 0 from h9) (by decide))
            · refine z_push 71 (nI 1) rfl rfl rfl ?_
              refine z_goto rfl ?_
              refine z_istore 77 rfl rfl rfl rfl ?_
              refine z_iload 79 rfl rfl rfl ?_
              refine z_zeq 82 rfl rfl (by omega) (fun h9 => absurd h9 (by omega)) (fun _ => ?_)
              refine z_aload 83 rfl rfl rfl ?_
              refine z_iload 84 rfl rfl rfl ?_
              refine z_iload 85 rfl rfl rfl ?_
              refine z_push 87 (nI 65536) rfl rfl rfl ?_
              refine z_iload 89 rfl rfl rfl ?_
              refine z_push 91 (nI 55296) rfl rfl rfl ?_
              refine z_bop 92 _ rfl rfl (by first | with_reducible exact zb_1 (by omega) | exact zd_1 _ _) ?_
              refine z_push 94 (nI 10) rfl rfl rfl ?_
              refine z_bop 95 _ rfl rfl (shl_n 10 (by decide) (by omega)) ?_
              refine z_bop 96 _ rfl rfl (by first | with_reducible exact zb_0 _ _ | exact zd_0 _ _) ?_
              refine z_aload 97 rfl rfl rfl ?_
              refine z_iload 99 rfl rfl rfl ?_
              refine z_push 100 (nI 1) rfl rfl rfl ?_
              refine z_bop 101 _ rfl rfl (by first | with_reducible exact zb_0 _ _ | exact zd_0 _ _) ?_
              refine y_al (f := f) 102 _ hR rfl rfl ha rfl (by omega) (by repeat (first | with_reducible exact ksr a (by omega) | with_reducible exact ksr (a + 1) (by omega) | with_reducible exact k37 | with_reducible exact gA_eq _ _ _ _ | (with_reducible apply gA_ne; decide) | with_reducible apply gA_I | with_reducible apply gA_O | (with_reducible apply gA_nj; omega) | with_reducible rfl)) ?_
              refine z_bop 103 _ rfl rfl (by first | with_reducible exact zb_0 _ _ | exact zd_0 _ _) ?_
              refine z_push 105 (nI 56320) rfl rfl rfl ?_
              refine z_bop 106 _ rfl rfl (by first | with_reducible exact zb_1 (by omega) | exact zd_1 _ _) ?_
              refine z_cv3 109 rfl rfl hR.1 rfl (Nat.le_refl _) (Nat.le_refl _) ?_
              have hun : unA us a = (2, 65536 + (us.getD a 0 - 55296) * 2 ^ 10 + us.getD (a + 1) 0 - 56320) := if_pos ⟨hc46, hc55, hc67⟩
              refine r_writePoint hR hp11 (by rw [hfa 1 (by decide)]; exact hk) hK (hT.k hKp) hW hG hs1 h34 hA hw hru (by rw [hfa 21 (by decide)]; exact hsg) hsgb hFB1 hFW hFd (by omega) ⟨fun y hy => ⟨fun hle h s2 hR hO2 hw2 g34 => ?_, fun hlt h s2 hR hO2 => ?_⟩, fun hnn h s2 hR hO2 hw2 g34 => ?_⟩
              · have e8 : wr1 F K E H rule sg us a st1 = some y := by rw [wr1, hun]; exact hy
                have hfa2 : ∀ g, g ∉ wL 45 → s2.2.2 g = s.2.2 g := fun g hg => ((hO2.1 g hg).2).trans (hfa g hg)
                have hKp2 := hKp.trans (hO2.keep hA.ne.2.2)
                have g22 : s2.1 22 = s.1 22 := (hO2.1 22 (by decide)).1.trans h22
                have hlm := hw2.2.2.2.2.1
                refine z_goto rfl ?_
                refine z_istore 149 rfl rfl rfl rfl ?_
                refine z_iload 151 rfl rfl rfl ?_
                refine z_push 153 (-10) rfl rfl rfl ?_
                refine z_cne 156 rfl rfl (fun _ => ?_) (fun h9 => absurd h9 (by decide))
                refine z_iload 164 rfl rfl rfl ?_
                refine z_zeq 167 rfl rfl (by omega) (fun _ => ?_) (fun h9 => absurd h9 (by omega))
                refine z_iload 172 rfl rfl rfl ?_
                refine z_iload 174 rfl rfl rfl ?_
                refine z_zeq 177 rfl rfl (by omega) (fun h9 => absurd h9 (by omega)) (fun _ => ?_)
                refine z_push 178 (nI 2) rfl rfl rfl ?_
                refine z_goto rfl ?_
                refine z_bop 183 _ rfl rfl (by first | with_reducible exact zb_0 _ _ | exact zd_0 _ _) ?_
                refine z_istore 185 rfl rfl rfl rfl ?_
                refine z_goto rfl ?_
                refine ih (a + 2) _ _ s2 h _ _ _ (by omega) (by omega) ?_ hR hKp2 hfa2 g22 g34 (wr1_ok hG hs1 y e8) hw2
                rw [List.length_append] at hlm
                rw [hA9, wrA, if_neg (by omega), e8]
                simp only [if_pos hlm, hun]
                rfl
              · have e8 : wr1 F K E H rule sg us a st1 = some y := by rw [wr1, hun]; exact hy
                have hfa2 : ∀ g, g ∉ wL 45 → s2.2.2 g = s.2.2 g := fun g hg => ((hO2.1 g hg).2).trans (hfa g hg)
                have hKp2 := hKp.trans (hO2.keep hA.ne.2.2)
                have g22 : s2.1 22 = s.1 22 := (hO2.1 22 (by decide)).1.trans h22
                refine z_goto rfl ?_
                refine z_istore 149 rfl rfl rfl rfl ?_
                refine z_iload 151 rfl rfl rfl ?_
                refine z_push 153 (-10) rfl rfl rfl ?_
                refine z_cne 156 rfl rfl (fun _ => ?_) (fun h9 => absurd h9 (by decide))
                refine z_iload 164 rfl rfl rfl ?_
                refine z_jeq 167 rfl rfl (fun h9 => absurd h9 (by decide)) (fun _ => ?_)
                refine z_iload 169 rfl rfl rfl ?_
                refine z_ireti rfl (Nat.le_refl _) (Nat.le_refl _) ?_
                have e9 : wrAll F K E H rule sg us m fr = (2, 0, []) := by
                  rw [hA9, wrA, if_neg (by omega), e8]
                  exact if_neg (by omega)
                rw [e9] at q
                exact q h s2 hR hKp2 g22 hfa2 (fun h9 => absurd (show (2 : Nat) = 0 from h9) (by decide))
              · have e8 : wr1 F K E H rule sg us a st1 = none := by rw [wr1, hun]; exact hnn
                have hfa2 : ∀ g, g ∉ wL 45 → s2.2.2 g = s.2.2 g := fun g hg => ((hO2.1 g hg).2).trans (hfa g hg)
                have hKp2 := hKp.trans (hO2.keep hA.ne.2.2)
                refine z_goto rfl ?_
                refine z_istore 149 rfl rfl rfl rfl ?_
                refine z_iload 151 rfl rfl rfl ?_
                refine z_push 153 (-10) rfl rfl rfl ?_
                refine z_cne 156 rfl rfl (fun h9 => absurd h9 (by decide)) (fun _ => ?_)
                refine z_aload 157 rfl rfl rfl ?_
                refine z_iload 159 rfl rfl rfl ?_
                refine y_pi 162 hR rfl rfl rfl rfl rfl (mFi rfl) ?_
                intro h hR
                refine z_iload 164 rfl rfl rfl ?_
                refine z_jeq 167 rfl rfl (fun h9 => absurd h9 (by decide)) (fun _ => ?_)
                refine z_iload 169 rfl rfl rfl ?_
                refine z_ireti rfl (Nat.le_refl _) (Nat.le_refl _) ?_
                have e9 : wrAll F K E H rule sg us m fr = (1, a, []) := by rw [hA9, wrA, if_neg (by omega), e8]
                rw [e9] at q
                exact q h _ hR (hKp2.I rfl) (gI_eq _ _ _) hfa2 (fun h9 => absurd (show (1 : Nat) = 0 from h9) (by decide))
  refine z_in [some (.ref r), some (.int (nI p)), some (.int (nI rule)), some (.ref (r + rk)), some (.int (nI us.length)), some (.int (nI fr)), some (.int (nI m)), none, none, none, none] (by rfl) rfl rfl rfl ?_
  refine z_aload 1 rfl rfl rfl ?_
  refine z_iload 3 rfl rfl rfl ?_
  refine y_pi 6 hR rfl rfl rfl rfl rfl (mFi rfl) ?_
  intro h hR
  refine z_aload 7 rfl rfl rfl ?_
  refine z_aload 8 rfl rfl rfl ?_
  refine y_ga 11 hR rfl rfl rfl ?_
  refine y_po 14 (f := 45) hR rfl rfl rfl ?_
  intro h hR
  refine z_aload 15 rfl rfl rfl ?_
  refine z_push 16 (nI 0) rfl rfl rfl ?_
  refine y_pi 19 hR rfl rfl rfl rfl rfl (mFi rfl) ?_
  intro h hR
  refine z_aload 20 rfl rfl rfl ?_
  refine z_iload 22 rfl rfl rfl ?_
  refine y_pi 25 hR rfl rfl rfl rfl rfl (mFi rfl) ?_
  intro h hR
  refine z_push 26 (nI 0) rfl rfl rfl ?_
  refine z_istore 28 rfl rfl rfl rfl ?_
  exact loop (us.length + 1) 0 fr [] _ h _ _ _ (by omega) (by omega) rfl hR ((((Keep.rfl.I rfl).O).I rfl).I rfl) (fun g hg => rfl) rfl (by repeat (first | with_reducible exact gI_eq _ _ _ | (with_reducible apply gI_ne; decide) | with_reducible apply gI_A | with_reducible apply gI_O | with_reducible rfl | exact gI_eq _ _ _)) hs ⟨rfl, h48, gI_eq _ _ _, by repeat (first | with_reducible exact gI_eq _ _ _ | (with_reducible apply gI_ne; decide) | with_reducible apply gI_A | with_reducible apply gI_O | with_reducible rfl | exact gI_eq _ _ _), Nat.zero_le _, fun _ j hj => absurd hj (Nat.not_lt_zero j)⟩
