/-! the class: the finding of a staged fallback -/
def toI (F : List Fb) (pt : Nat) : Nat := match fbI F pt with
  | none => F.length
  | some f => f
def sg9 (F : List Fb) (pt s : Nat) : Nat := if s = 40 then toI F pt else s
theorem Lk1 {F : List Fb} {pt s : Nat} {ps : List Nat} (hl : F.length ≤ 40) (hs : Std F pt s) : sg9 F pt s < (fbS9 F pt ps).length ∧ fbL (fbS9 F pt ps) (sg9 F pt s) = slL F ps s := by
  unfold sg9 toI fbS9 slL fbL
  rcases hf : fbI F pt with _ | f
  · simp only
    rw [List.length_append]
    rcases hs with e | ⟨e1, e2⟩
    · rw [if_pos e, if_pos e, fb_app.2 rfl]
      exact ⟨Nat.lt_succ_self _, rfl⟩
    · rw [if_neg (by omega), if_neg (by omega), fb_app.1 e1]
      exact ⟨Nat.lt_succ_of_lt e1, rfl⟩
  · simp only
    have hf9 := ffd_lt hf
    rw [List.length_set]
    rcases hs with e | ⟨e1, e2⟩
    · rw [if_pos e, if_pos e, fb_set (by omega), if_pos rfl]
      exact ⟨by omega, rfl⟩
    · rw [if_neg (by omega), if_neg (by omega), fb_set (by omega), if_neg (fun h9 => e2 (by rw [hf, h9]))]
      exact ⟨e1, rfl⟩
theorem Lk2 {F : List Fb} {pt k : Nat} {ps : List Nat} (hl : F.length ≤ 40) (hk : k < (fbS9 F pt ps).length) : ∃ s, s ≤ 40 ∧ Std F pt s ∧ sg9 F pt s = k := by
  by_cases e : k = toI F pt
  · exact ⟨40, Nat.le_refl _, Or.inl rfl, by rw [sg9, if_pos rfl, e]⟩
  · unfold toI at e
    unfold fbS9 at hk
    rcases hf : fbI F pt with _ | f
    · rw [hf] at e hk
      simp only at e hk
      rw [List.length_append] at hk
      have hk' : k < F.length + 1 := hk
      exact ⟨k, by omega, Or.inr ⟨by omega, by rw [hf]; exact fun h9 => by cases h9⟩, by rw [sg9, if_neg (by omega)]⟩
    · rw [hf] at e hk
      simp only at e hk
      rw [List.length_set] at hk
      exact ⟨k, by omega, Or.inr ⟨hk, by rw [hf]; exact fun h9 => e (by cases h9; rfl)⟩, by rw [sg9, if_neg (by omega)]⟩
theorem fbP_to {F : List Fb} {pt : Nat} {ps : List Nat} : toI F pt < (fbS9 F pt ps).length ∧ fbP (fbS9 F pt ps) (toI F pt) = pt := by
  unfold toI fbS9 fbP
  rcases hf : fbI F pt with _ | f
  · simp only
    rw [List.length_append, fb_app.2 rfl]
    exact ⟨Nat.lt_succ_self _, rfl⟩
  · have hf9 := ffd_lt hf
    simp only
    rw [List.length_set, fb_set (by omega), if_pos rfl]
    exact ⟨by omega, rfl⟩
theorem fbP_ne {F : List Fb} {pt k : Nat} {ps : List Nat} (hk : k < F.length) (h : k ≠ toI F pt) : fbP (fbS9 F pt ps) k = fbP F k ∧ k < (fbS9 F pt ps).length := by
  unfold toI at h
  unfold fbS9 fbP
  rcases hf : fbI F pt with _ | f
  · simp only
    rw [List.length_append, fb_app.1 hk]
    exact ⟨rfl, Nat.lt_succ_of_lt hk⟩
  · have hf9 := ffd_lt hf
    rw [hf] at h
    simp only at h ⊢
    rw [List.length_set, fb_set (by omega), if_neg h]
    exact ⟨rfl, hk⟩
theorem Lk4 {F : List Fb} {pt x g : Nat} (hl : F.length ≤ 40) (h : slI F pt x = some g) : Std F pt g ∧ g ≤ 40 := by
  unfold slI at h
  by_cases e : x = pt
  · rw [if_pos e] at h; cases h; exact ⟨Or.inl rfl, Nat.le_refl _⟩
  · rw [if_neg e] at h
    have h9 := ffd_lt h
    exact ⟨Or.inr ⟨by omega, fun h8 => e (by rw [← fbI_p h, fbI_p h8])⟩, by omega⟩
theorem Lk3 {F : List Fb} {pt x : Nat} {ps : List Nat} (hl : F.length ≤ 40) (hU : FbU (fbS9 F pt ps)) : fbI (fbS9 F pt ps) x = (slI F pt x).map (sg9 F pt) := by
  unfold slI
  by_cases e : x = pt
  · subst e
    rw [if_pos rfl]
    obtain ⟨h1, h2⟩ := fbP_to (F := F) (pt := x) (ps := ps)
    have h3 := hU _ h1
    rw [h2] at h3
    rw [h3]
    simp only [Option.map, sg9, if_pos]
  · rw [if_neg e]
    rcases hf : fbI F x with _ | g
    · simp only [Option.map]
      rcases hg : fbI (fbS9 F pt ps) x with _ | k
      · rfl
      · exfalso
        have h1 := ffd_lt hg
        have h2 := fbI_p hg
        by_cases e2 : k = toI F pt
        · rw [e2, fbP_to.2] at h2; exact e h2.symm
        · have hk : k < F.length := by
            have h5 : k < (fbS9 F pt ps).length := by omega
            obtain ⟨s, h6, h7, h8⟩ := Lk2 hl h5
            unfold sg9 at h8
            by_cases e3 : s = 40
            · rw [if_pos e3] at h8; exact absurd h8.symm e2
            · rw [if_neg e3] at h8
              rcases h7 with h7 | h7
              · exact absurd h7 e3
              · have h10 := h7.1; omega
          rw [(fbP_ne hk e2).1] at h2
          exact fbI_nn hf hk h2
    · have h1 := ffd_lt hf
      have h2 := fbI_p hf
      have e2 : g ≠ toI F pt := by
        intro h9
        unfold toI at h9
        rcases hp : fbI F pt with _ | f
        · rw [hp] at h9; simp only at h9; omega
        · rw [hp] at h9; simp only at h9
          rw [h9, fbI_p hp] at h2
          exact e h2.symm
      obtain ⟨h3, h4⟩ := fbP_ne (ps := ps) (show g < F.length by omega) e2
      have h5 := hU g h4
      rw [h3, h2] at h5
      rw [h5]
      simp only [Option.map, sg9]
      rw [if_neg (by omega)]
theorem Fdp_mono {F : List Fb} : ∀ {n m x : Nat}, Fdp F n x → n ≤ m → Fdp F m x
  | 0, m, x, h, _ => Fdp_no h m
  | n + 1, 0, x, h, hm => absurd hm (by omega)
  | n + 1, m + 1, x, h, hm => fun f hf y hy => Fdp_mono (h f hf y hy) (by omega)
def KnW (F F' : List Fb) (pt : Nat) (ps : List Nat) (w : Nat → Nat) : Prop := ∀ s, Std F pt s → w s ≠ 0 → ∃ n, (∀ x, x ∈ slL F ps s → Fdp F' n x) ∧ w s = c17 (sumN (fbN F' n) (slL F ps s))
theorem KnW.com {F F' : List Fb} {pt : Nat} {ps : List Nat} {w : Nat → Nat} (hk : KnW F F' pt ps w) (hl : F.length ≤ 40) : ∀ l : List Nat, (∀ x, x ∈ l → ∀ g, slI F pt x = some g → w g ≠ 0) → ∃ n, ∀ x, x ∈ l → ∀ g, slI F pt x = some g → (∀ y, y ∈ slL F ps g → Fdp F' n y) ∧ w g = c17 (sumN (fbN F' n) (slL F ps g))
  | [], _ => ⟨0, fun x hx => absurd hx List.not_mem_nil⟩
  | x :: l, h => by
    obtain ⟨n, hn⟩ := KnW.com hk hl l (fun y hy => h y (List.mem_cons_of_mem _ hy))
    rcases hx : slI F pt x with _ | g
    · refine ⟨n, fun y hy g hg => ?_⟩
      rcases List.mem_cons.mp hy with rfl | hy
      · rw [hx] at hg; cases hg
      · exact hn y hy g hg
    · obtain ⟨m, hm1, hm2⟩ := hk g (Lk4 hl hx).1 (h x List.mem_cons_self g hx)
      refine ⟨n + m, fun y hy g' hg => ?_⟩
      rcases List.mem_cons.mp hy with rfl | hy
      · rw [hx] at hg
        cases hg
        refine ⟨fun z hz => Fdp_mono (hm1 z hz) (by omega), ?_⟩
        rw [hm2, sumN_congr (fun z hz => fbN_fuel m (n + m) z (hm1 z hz) (by omega))]
      · obtain ⟨h1, h2⟩ := hn y hy g' hg
        refine ⟨fun z hz => Fdp_mono (h1 z hz) (by omega), ?_⟩
        rw [h2, sumN_congr (fun z hz => fbN_fuel n (n + m) z (h1 z hz) (by omega))]
theorem KnW.step {F : List Fb} {pt s : Nat} {ps : List Nat} {w : Nat → Nat} (hk : KnW F (fbS9 F pt ps) pt ps w) (hl : F.length ≤ 40) (hU : FbU (fbS9 F pt ps)) (hv : whG (slI F pt) w (slL F ps s) 0 ≠ 0) : KnW F (fbS9 F pt ps) pt ps (updN w s (whG (slI F pt) w (slL F ps s) 0)) := by
  intro t ht h0
  unfold updN at h0 ⊢
  by_cases e : t = s
  · subst e
    rw [if_pos rfl]
    rcases whG_c (by9 := slI F pt) (w := w) (slL F ps t) 0 with ⟨_, h2⟩ | ⟨h1, h2⟩
    · exact absurd h2 hv
    · obtain ⟨n, hn⟩ := hk.com hl _ h1
      refine ⟨n + 1, fun x hx f hf y hy => ?_, ?_⟩
      · rw [Lk3 hl hU] at hf
        rcases hx9 : slI F pt x with _ | g
        · rw [hx9] at hf; cases hf
        · rw [hx9] at hf
          simp only [Option.map, Option.some.injEq] at hf
          subst hf
          rw [(Lk1 hl (Lk4 hl hx9).1).2] at hy
          exact (hn x hx g hx9).1 y hy
      · rw [h2, Nat.zero_add, ← c17_sum (fbN _ (n + 1))]
        rw [← c17_sum (vx9 _ _)]
        rw [sumN_congr (fun x hx => ?_)]
        rcases hx9 : slI F pt x with _ | g
        · have h5 : fbI (fbS9 F pt ps) x = none := by rw [Lk3 hl hU, hx9]; rfl
          rw [vx9, hx9, fbN_no h5]
        · have h5 : fbI (fbS9 F pt ps) x = some (sg9 F pt g) := by rw [Lk3 hl hU, hx9]; rfl
          rw [vx9, hx9, fbN_s h5, (Lk1 hl (Lk4 hl hx9).1).2]
          simp only
          rw [(hn x hx g hx9).2, c17_c]
  · rw [if_neg e] at h0 ⊢
    exact hk t ht h0
def unk (w : Nat → Nat) (t : Nat) : Bool := decide (w t = 0)
def InW (F : List Fb) (pt : Nat) (ps : List Nat) (w0 : Nat → Nat) (s : Nat) (w : Nat → Nat) (mo : Nat) : Prop := KnW F (fbS9 F pt ps) pt ps w ∧ (∀ k, w k ≤ 17) ∧ cnt9 (unk w) 41 ≤ cnt9 (unk w0) 41 ∧ (mo ≠ 0 → cnt9 (unk w) 41 < cnt9 (unk w0) 41) ∧ (mo = 0 → ∀ t, t < s → Std F pt t → w t = 0 → whG (slI F pt) w (slL F ps t) 0 = 0)
theorem InW.skip {F : List Fb} {pt s mo : Nat} {ps : List Nat} {w0 w : Nat → Nat} (h : InW F pt ps w0 s w mo) (hs : Std F pt s → w s = 0 → whG (slI F pt) w (slL F ps s) 0 = 0) : InW F pt ps w0 (s + 1) w mo := by
  refine ⟨h.1, h.2.1, h.2.2.1, h.2.2.2.1, fun hm t ht h1 h2 => ?_⟩
  by_cases e : t = s
  · subst e; exact hs h1 h2
  · exact h.2.2.2.2 hm t (by omega) h1 h2
theorem InW.one {F : List Fb} {pt s mo : Nat} {ps : List Nat} {w0 w : Nat → Nat} (h : InW F pt ps w0 s w mo) (hm : mo ≠ 0) : InW F pt ps w0 s w 1 := ⟨h.1, h.2.1, h.2.2.1, fun _ => h.2.2.2.1 hm, fun h9 => absurd h9 (by decide)⟩
theorem whG_b {by9 : Nat → Option Nat} {w : Nat → Nat} (l : List Nat) : whG by9 w l 0 ≤ 17 := by
  rcases whG_c (by9 := by9) (w := w) l 0 with ⟨_, h2⟩ | ⟨_, h2⟩
  · omega
  · rw [h2]; exact c17_b _
theorem InW.new {F : List Fb} {pt s mo : Nat} {ps : List Nat} {w0 w : Nat → Nat} (h : InW F pt ps w0 s w mo) (hl : F.length ≤ 40) (hU : FbU (fbS9 F pt ps)) (hs : s ≤ 40) (h0 : w s = 0) (hv : whG (slI F pt) w (slL F ps s) 0 ≠ 0) : InW F pt ps w0 (s + 1) (updN w s (whG (slI F pt) w (slL F ps s) 0)) 1 := by
  have hc : cnt9 (unk (updN w s (whG (slI F pt) w (slL F ps s) 0))) 41 < cnt9 (unk w) 41 := by
    refine cnt9_dec (k := s) (by omega) (decide_eq_true h0) (decide_eq_false ?_) (fun j hj => ?_)
    · unfold updN; rw [if_pos rfl]; exact hv
    · unfold unk updN; rw [if_neg hj]
  refine ⟨h.1.step hl hU hv, fun k => ?_, by have := h.2.2.1; omega, fun _ => by have := h.2.2.1; omega, fun h9 => absurd h9 (by decide)⟩
  unfold updN
  split
  · exact whG_b _
  · exact h.2.1 k
def stV (F' : List Fb) : Int32 := if okD F' = true then (if okL F' = true then 0 else -12) else (-11)
theorem badD {F : List Fb} {pt : Nat} {ps : List Nat} {w : Nat → Nat} (hl : F.length ≤ 40) (hU : FbU (fbS9 F pt ps)) (hfx : ∀ t, Std F pt t → w t = 0 → whG (slI F pt) w (slL F ps t) 0 = 0) (hn : ∀ t, Std F pt t → 1 ≤ (slL F ps t).length) : ∀ n s, Std F pt s → w s = 0 → ¬ ∀ x, x ∈ slL F ps s → Fdp (fbS9 F pt ps) n x := by
  have ex : ∀ s, Std F pt s → w s = 0 → ∃ x, x ∈ slL F ps s ∧ ∃ g, slI F pt x = some g ∧ w g = 0 := by
    intro s hs h0
    rcases whG_c (by9 := slI F pt) (w := w) (slL F ps s) 0 with ⟨h1, _⟩ | ⟨h1, h2⟩
    · exact h1
    · exfalso
      rw [hfx s hs h0, Nat.zero_add] at h2
      have h3 := hn s hs
      rcases hsl : slL F ps s with _ | ⟨x, l⟩
      · rw [hsl] at h3; exact absurd h3 (by decide)
      · rw [hsl] at h1 h2
        rw [sumN] at h2
        have h4 : 1 ≤ vx9 (slI F pt) w x := by
          unfold vx9
          rcases hx9 : slI F pt x with _ | g
          · exact Nat.le_refl _
          · have h6 := h1 x List.mem_cons_self g hx9
            show 1 ≤ w g
            omega
        unfold c17 at h2
        split at h2 <;> omega
  intro n
  induction n with
  | zero =>
    intro s hs h0 h9
    obtain ⟨x, hx, g, hg, _⟩ := ex s hs h0
    have h1 : fbI (fbS9 F pt ps) x = none := h9 x hx
    rw [Lk3 hl hU, hg] at h1
    cases h1
  | succ n ih =>
    intro s hs h0 h9
    obtain ⟨x, hx, g, hg, hg0⟩ := ex s hs h0
    have h1 := h9 x hx
    have h5 : fbI (fbS9 F pt ps) x = some (sg9 F pt g) := by rw [Lk3 hl hU, hg]; rfl
    have h2 := Lk4 hl hg
    refine ih g h2.1 hg0 (fun y hy => h1 _ h5 y ?_)
    rw [(Lk1 hl h2.1).2]
    exact hy
theorem st_loop {F : List Fb} {pt s : Nat} {ps : List Nat} {w : Nat → Nat} (hl : F.length ≤ 40) (hU : FbU (fbS9 F pt ps)) (hfx : ∀ t, Std F pt t → w t = 0 → whG (slI F pt) w (slL F ps t) 0 = 0) (hn : ∀ t, Std F pt t → 1 ≤ (slL F ps t).length) (hs : Std F pt s) (h0 : w s = 0) : stV (fbS9 F pt ps) = -11 := by
  refine if_neg (fun h9 => ?_)
  refine badD hl hU hfx hn 40 s hs h0 (fun x _ => okD_Fdp h9 x)
theorem st_all {F : List Fb} {pt : Nat} {ps : List Nat} {w : Nat → Nat} (hl : F.length ≤ 40) (hl' : (fbS9 F pt ps).length ≤ 40) (hU : FbU (fbS9 F pt ps)) (hk : KnW F (fbS9 F pt ps) pt ps w) (ha : ∀ s, s ≤ 40 → Std F pt s → w s ≠ 0) : okD (fbS9 F pt ps) = true ∧ ∀ s, s ≤ 40 → Std F pt s → w s = c17 (fbW9 (fbS9 F pt ps) (sg9 F pt s)) := by
  have h1 : okD (fbS9 F pt ps) = true := by
    rw [okD_Cy hU hl']
    intro k hk9
    obtain ⟨s, hs, h2, h3⟩ := Lk2 hl hk9
    obtain ⟨n, h4, _⟩ := hk s h2 (ha s hs h2)
    refine Cy_no hU n k hk9 (fun x hx => h4 x ?_)
    rw [← h3, (Lk1 hl h2).2] at hx
    exact hx
  refine ⟨h1, fun s hs h2 => ?_⟩
  obtain ⟨n, h4, h5⟩ := hk s h2 (ha s hs h2)
  rw [h5, fbW9, (Lk1 hl h2).2]
  rw [sumN_congr (fun x hx => ?_)]
  rcases Nat.le_total n 40 with h6 | h6
  · exact (fbN_fuel n 40 x (h4 x hx) h6).symm
  · exact fbN_fuel 40 n x (okD_Fdp h1 x) h6
theorem st_fin {F : List Fb} {pt : Nat} {ps : List Nat} {w : Nat → Nat} {v : Int32} (hl : F.length ≤ 40) (hl' : (fbS9 F pt ps).length ≤ 40) (hU : FbU (fbS9 F pt ps)) (hk : KnW F (fbS9 F pt ps) pt ps w) (ha : ∀ s, s ≤ 40 → Std F pt s → w s ≠ 0) (hv : (v = 0 ∧ ∀ t, t ≤ 40 → Std F pt t → w t ≤ 16) ∨ (v = -12 ∧ ∃ t, t ≤ 40 ∧ Std F pt t ∧ 16 < w t)) : stV (fbS9 F pt ps) = v := by
  obtain ⟨h1, h2⟩ := st_all hl hl' hU hk ha
  unfold stV
  rw [if_pos h1]
  rcases hv with ⟨rfl, h3⟩ | ⟨rfl, t, h3, h4, h5⟩
  · refine if_pos (okL_iff.mpr (fun k hk9 => ?_))
    obtain ⟨s, hs, h4, h5⟩ := Lk2 hl hk9
    have h6 := h3 s hs h4
    rw [h2 s hs h4, h5] at h6
    unfold c17 at h6
    split at h6 <;> omega
  · refine if_neg (fun h9 => ?_)
    have h6 := okL_iff.mp h9 (sg9 F pt t) (Lk1 hl h4).1
    rw [h2 t h3 h4] at h5
    unfold c17 at h5
    split at h5 <;> omega
theorem RuP.w {h h' : mH} {R rs ws pt : Nat} {F : List Fb} {ps : List Nat} {whs whs' : Nat → Int32} (a : RuP h R rs ws F pt ps whs) (b : ∀ x, x ≠ R + 4 → h'.2 x = h.2 x) (c : h'.2 (R + 4) = aI 41 whs') : RuP h' R rs ws F pt ps whs' := by
  obtain ⟨a1, a2, pts, lns, prt, b1, b2, b3, b4, b5⟩ := a
  exact ⟨(b R (by omega)).trans a1, a2, pts, lns, prt, (b _ (by omega)).trans b1, (b _ (by omega)).trans b2, (b _ (by omega)).trans b3, c, b5⟩
theorem updN_same {w : Nat → Nat} {s : Nat} (h : w s = 0) : updN w s 0 = w := by
  funext j; unfold updN; split
  · rename_i e; rw [e, h]
  · rfl
