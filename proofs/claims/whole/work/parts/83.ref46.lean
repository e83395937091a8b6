/-! the reference: comesBack -/
/-- what a fallback leads to -/
def Rch (F : List Fb) (f k : Nat) : Prop := ∀ P : Nat → Prop, P f → (∀ k g x, P k → k < F.length → x ∈ fbL F k → fbI F x = some g → P g) → P k
theorem Rch.z {F : List Fb} {f : Nat} : Rch F f f := fun _ h _ => h
theorem Rch.s {F : List Fb} {f k g x : Nat} (h : Rch F f k) (hk : k < F.length) (hx : x ∈ fbL F k) (hg : fbI F x = some g) : Rch F f g := fun P h0 hs => hs k g x (h P h0 hs) hk hx hg
def Cy (F : List Fb) (f : Nat) : Prop := ∃ k, Rch F f k ∧ k < F.length ∧ fbP F f ∈ fbL F k
/-- how far the look has come: what is seen is reached; what is done leads to what is seen, and not back -/
def CB (F : List Fb) (f : Nat) (sn lim : Nat → Nat) : Prop := (∀ j, j < F.length → sn j ≠ 0 → Rch F f j) ∧ sn f ≠ 0 ∧ (∀ j, j < F.length → sn j ≤ 2) ∧ ∀ j, j < F.length → sn j = 2 → ∀ i, i < lim j → (fbL F j).getD i 0 ≠ fbP F f ∧ ∀ g, fbI F ((fbL F j).getD i 0) = some g → sn g ≠ 0
def lmA (F : List Fb) (j : Nat) : Nat := (fbL F j).length
def lmK (F : List Fb) (k i j : Nat) : Nat := if j = k then i else (fbL F j).length
def n2 (sn : Nat → Nat) (j : Nat) : Bool := !decide (sn j = 2)
theorem cnt9_congr {p q : Nat → Bool} : ∀ {n : Nat}, (∀ j, j < n → p j = q j) → cnt9 p n = cnt9 q n
  | 0, _ => rfl
  | n + 1, h => by simp only [cnt9]; rw [cnt9_congr (fun j hj => h j (by omega)), h n (by omega)]
theorem cnt9_dec {p q : Nat → Bool} {k : Nat} : ∀ {n : Nat}, k < n → p k = true → q k = false → (∀ j, j ≠ k → q j = p j) → cnt9 q n < cnt9 p n
  | 0, h, _, _, _ => absurd h (Nat.not_lt_zero _)
  | n + 1, h, hp, hq, he => by
    simp only [cnt9]
    by_cases e : k = n
    · subst e
      rw [cnt9_congr (fun j hj => he j (by omega)), hp, hq]
      simp
    · have := cnt9_dec (n := n) (by omega) hp hq he
      rw [he n (fun e2 => e e2.symm)]
      omega
theorem CB.no {F : List Fb} {f : Nat} {sn : Nat → Nat} (h : CB F f sn (lmA F)) (hf : f < F.length) (h1 : ∀ j, j < F.length → sn j ≠ 1) : ¬ Cy F f := by
  rintro ⟨k, hr, hk, hx⟩
  have hr2 := hr (fun j => j < F.length → sn j ≠ 0) (fun _ => h.2.1) (fun a g x ha hal hx hg hgl => by
    have h2 := h.2.2.1 a hal
    have h3 := h1 a hal
    have h4 := ha hal
    obtain ⟨i, hi, rfl⟩ := List.getElem_of_mem hx
    have h5 := (h.2.2.2 a hal (by omega) i hi).2 g
    rw [List.getD_eq_getElem?_getD, List.getElem?_eq_getElem hi] at h5
    exact h5 hg)
  have h2 := h.2.2.1 k hk
  have h3 := h1 k hk
  have h4 := hr2 hk
  obtain ⟨i, hi, he⟩ := List.getElem_of_mem hx
  have h5 := (h.2.2.2 k hk (by omega) i hi).1
  rw [List.getD_eq_getElem?_getD, List.getElem?_eq_getElem hi] at h5
  exact h5 he
theorem CB.take {F : List Fb} {f k : Nat} {s1 : rS} (h : CB F f (s1.2.2 50) (lmA F)) (hk : s1.2.2 50 k = 1) : CB F f ((stA 50 k 2 s1).2.2 50) (lmK F k 0) := by
  have e : ∀ j, (stA 50 k 2 s1).2.2 50 j = if j = k then 2 else s1.2.2 50 j := fun j => by
    by_cases e : j = k
    · subst e; rw [gA_eq, if_pos rfl]
    · rw [gA_nj e rfl, if_neg e]
  have e0 : ∀ j, s1.2.2 50 j ≠ 0 → (stA 50 k 2 s1).2.2 50 j ≠ 0 := fun j hj => by rw [e]; split <;> omega
  refine ⟨fun j hj h9 => ?_, e0 f h.2.1, fun j hj => ?_, fun j hj h9 i hi => ?_⟩
  · by_cases e9 : j = k
    · subst e9; exact h.1 j hj (by omega)
    · rw [e, if_neg e9] at h9; exact h.1 j hj h9
  · rw [e]; split
    · exact Nat.le_refl _
    · exact h.2.2.1 j hj
  · unfold lmK at hi
    by_cases e9 : j = k
    · rw [if_pos e9] at hi; omega
    · rw [if_neg e9] at hi
      rw [e, if_neg e9] at h9
      have h8 := h.2.2.2 j hj h9 i hi
      exact ⟨h8.1, fun g hg => e0 g (h8.2 g hg)⟩
theorem CB.see {F : List Fb} {f g : Nat} {s1 : rS} {lim : Nat → Nat} (h : CB F f (s1.2.2 50) lim) (hg : s1.2.2 50 g = 0) (hr : Rch F f g) : CB F f ((stA 50 g 1 s1).2.2 50) lim := by
  have e : ∀ j, (stA 50 g 1 s1).2.2 50 j = if j = g then 1 else s1.2.2 50 j := fun j => by
    by_cases e : j = g
    · subst e; rw [gA_eq, if_pos rfl]
    · rw [gA_nj e rfl, if_neg e]
  have e0 : ∀ j, s1.2.2 50 j ≠ 0 → (stA 50 g 1 s1).2.2 50 j ≠ 0 := fun j hj => by rw [e]; split <;> omega
  refine ⟨fun j hj h9 => ?_, e0 f h.2.1, fun j hj => ?_, fun j hj h9 i hi => ?_⟩
  · by_cases e9 : j = g
    · subst e9; exact hr
    · rw [e, if_neg e9] at h9; exact h.1 j hj h9
  · rw [e]; split
    · omega
    · exact h.2.2.1 j hj
  · by_cases e9 : j = g
    · rw [e, if_pos e9] at h9; omega
    · rw [e, if_neg e9] at h9
      have h8 := h.2.2.2 j hj h9 i hi
      exact ⟨h8.1, fun g hg => e0 g (h8.2 g hg)⟩
theorem n2_see {s1 : rS} {g n : Nat} (hg : s1.2.2 50 g = 0) : cnt9 (n2 ((stA 50 g 1 s1).2.2 50)) n = cnt9 (n2 (s1.2.2 50)) n := by
  refine cnt9_congr (fun j hj => ?_)
  unfold n2
  by_cases e : j = g
  · subst e; rw [gA_eq, hg]; rfl
  · rw [gA_nj e rfl]
theorem n2_take {s1 : rS} {k n : Nat} (hk : k < n) (h1 : s1.2.2 50 k = 1) : cnt9 (n2 ((stA 50 k 2 s1).2.2 50)) n < cnt9 (n2 (s1.2.2 50)) n := by
  refine cnt9_dec hk ?_ ?_ (fun j hj => ?_)
  · unfold n2; rw [h1]; rfl
  · unfold n2; rw [gA_eq]; rfl
  · unfold n2; rw [gA_nj hj rfl]
theorem CB.nx {F : List Fb} {f k i : Nat} {sn : Nat → Nat} (h : CB F f sn (lmK F k i)) (hp : (fbL F k).getD i 0 ≠ fbP F f) (hg : ∀ g, fbI F ((fbL F k).getD i 0) = some g → sn g ≠ 0) : CB F f sn (lmK F k (i + 1)) := by
  refine ⟨h.1, h.2.1, h.2.2.1, fun j hj h9 i' hi => ?_⟩
  by_cases e : j = k ∧ i' = i
  · obtain ⟨rfl, rfl⟩ := e; exact ⟨hp, hg⟩
  · refine h.2.2.2 j hj h9 i' ?_
    unfold lmK at hi ⊢
    by_cases e9 : j = k
    · rw [if_pos e9] at hi ⊢; omega
    · rw [if_neg e9] at hi ⊢; exact hi
theorem CB.end {F : List Fb} {f k : Nat} {sn : Nat → Nat} (h : CB F f sn (lmK F k (fbL F k).length)) : CB F f sn (lmA F) := by
  refine ⟨h.1, h.2.1, h.2.2.1, fun j hj h9 i' hi => h.2.2.2 j hj h9 i' ?_⟩
  unfold lmK; split
  · rename_i e; subst e; exact hi
  · exact hi
set_option maxRecDepth 100000 in
theorem r_comesBack {d r : Nat} {h h0 : mH} {s : rS} {f : Nat} {F : List Fb} {Q : mP} (hR : Rf r h0 s h) (hFB : RFb s F) (hW : FbW F) (hf : f < F.length)  (q : ∀ b h' s', Rf r h0 s' h' → On [50] s s' → (b = true ↔ Cy F f) → Q (some (.int (bI b))) h') : mWP (d + 2) 234 [.ref r, .int (nI f)] h Q := by
  have f25 := hFB.1
  have f3 := hFB.2.2
  have outer : ∀ M b s1 h o3 o4 o5, b ≤ 1 → (b = 1 → cnt9 (n2 (s1.2.2 50)) F.length < M) → CB F f (s1.2.2 50) (lmA F) → Rf r h0 s1 h → On [50] s s1 → (b = 0 → ∀ j, j < F.length → s1.2.2 50 j ≠ 1) → mZ (d + 1) tk_234 0 0 Q 32 [some (.ref r), some (.int (nI f)), some (.int (nI b)), o3, o4, o5] [] h 0 0 := by
    intro M
    induction M with
    | zero =>
      intro b s1 h o3 o4 o5 hb hM hC hR hO hno
      obtain rfl : b = 0 := by
        rcases (by omega : b = 0 ∨ b = 1) with h9 | h9
        · exact h9
        · exact absurd (hM h9) (Nat.not_lt_zero _)
      refine z_iload 33 rfl rfl rfl ?_
      refine z_zeq 36 rfl rfl (by omega) (fun _ => ?_) (fun h9 => absurd h9 (by omega))
      refine z_push 162 (nI 0) rfl rfl rfl ?_
      refine z_iretb rfl (Nat.le_refl _) (Nat.le_refl _) (by first | decide | exact bI_01 _) ?_
      rw [show nI 0 = bI false from rfl]
      exact q false h s1 hR hO ⟨fun e => absurd e (by decide), fun e => absurd e (hC.no hf (hno rfl))⟩
    | succ M ih =>
      intro b s1 h o3 o4 o5 hb hM hC hR hO hno
      refine z_iload 33 rfl rfl rfl ?_
      first | refine z_zeq 36 rfl rfl (by omega) (fun hc33 => ?_) (fun hc33 => ?_)
      · refine z_push 162 (nI 0) rfl rfl rfl ?_
        refine z_iretb rfl (Nat.le_refl _) (Nat.le_refl _) (by first | decide | exact bI_01 _) ?_
        subst hc33
        rw [show nI 0 = bI false from rfl]
        exact q false h s1 hR hO ⟨fun e => absurd e (by decide), fun e => absurd e (hC.no hf (hno rfl))⟩
      · obtain rfl : b = 1 := by omega
        have hM1 := hM rfl
        clear hM
        have pass : ∀ m9 k b2 s2 h o4 o5, F.length < k + m9 → k ≤ F.length → b2 ≤ 1 → CB F f (s2.2.2 50) (lmA F) → Rf r h0 s2 h → On [50] s s2 → cnt9 (n2 (s2.2.2 50)) F.length ≤ cnt9 (n2 (s1.2.2 50)) F.length → (b2 = 1 → cnt9 (n2 (s2.2.2 50)) F.length < cnt9 (n2 (s1.2.2 50)) F.length) → (b2 = 0 → ∀ j, j < k → s2.2.2 50 j ≠ 1) → mZ (d + 1) tk_234 0 0 Q 40 [some (.ref r), some (.int (nI f)), some (.int (nI b2)), some (.int (nI k)), o4, o5] [] h 0 0 := by
          intro m9
          induction m9 with
          | zero => intro k b2 s2 h o4 o5 h1 h2; omega
          | succ m9 ih9 =>
            intro k b2 s2 h o4 o5 h1 h2 hb2 hC hR hO hle hlt hno
            have k25 : s2.1 25 = F.length := (hO.1 25 (by decide)).1.trans f25
            have k26 : s2.2.2 26 f = fbP F f := by rw [(hO.1 26 (by decide)).2]; exact (f3 f hf).1
            have hl40 := hFB.2.1
            have hs2 := fun hk => hC.2.2.1 k hk
            refine z_iload 41 rfl rfl rfl ?_
            refine z_aload 42 rfl rfl rfl ?_
            refine y_gi 45 _ hR rfl rfl rfl rfl rfl (by repeat (first | with_reducible exact gI_eq _ _ _ | (with_reducible apply gI_ne; decide) | with_reducible apply gI_A | with_reducible apply gI_O | with_reducible exact k25 | with_reducible rfl)) ?_
            refine z_nge 48 rfl rfl (by omega) (by omega) (fun hc45 => ?_) (fun hc45 => ?_)
            · refine z_goto rfl ?_
              obtain rfl : k = F.length := by omega
              exact ih b2 s2 h _ _ _ hb2 (fun e => by have := hlt e; omega) hC hR hO (fun e j hj => hno e j hj)
            · have hs3 := hs2 (by omega)
              refine z_aload 49 rfl rfl rfl ?_
              refine y_ga 52 hR rfl rfl rfl ?_
              refine z_iload 53 rfl rfl rfl ?_
              refine y_al (f := 50) 54 _ hR rfl rfl rfl rfl (by omega) (by repeat (first | with_reducible exact k25 | with_reducible exact gA_eq _ _ _ _ | (with_reducible apply gA_ne; decide) | with_reducible apply gA_I | with_reducible apply gA_O | (with_reducible apply gA_nj; omega) | with_reducible rfl)) ?_
              refine z_push 55 (nI 1) rfl rfl rfl ?_
              refine z_neq 58 rfl rfl (by omega) (by omega) (fun hc55 => ?_) (fun hc55 => ?_)
              · have hkl : k < F.length := by omega
                have inner : ∀ m8 i s3 h o5, (fbL F k).length < i + m8 → i ≤ (fbL F k).length → CB F f (s3.2.2 50) (lmK F k i) → s3.2.2 50 k = 2 → Rf r h0 s3 h → On [50] s s3 → cnt9 (n2 (s3.2.2 50)) F.length < cnt9 (n2 (s1.2.2 50)) F.length → mZ (d + 1) tk_234 0 0 Q 73 [some (.ref r), some (.int (nI f)), some (.int (nI 1)), some (.int (nI k)), some (.int (nI i)), o5] [] h 0 0 := by
                  intro m8
                  induction m8 with
                  | zero => intro i s3 h o5 h1 h2; omega
                  | succ m8 ih8 =>
                    intro i s3 h o5 h1 h2 hC hk2 hR hO hcn
                    have k25 : s3.1 25 = F.length := (hO.1 25 (by decide)).1.trans f25
                    have k26 : s3.2.2 26 f = fbP F f := by rw [(hO.1 26 (by decide)).2]; exact (f3 f hf).1
                    have k27 : s3.2.2 27 k = (fbL F k).length := by rw [(hO.1 27 (by decide)).2]; exact (f3 k hkl).2.1
                    have k28 : i < (fbL F k).length → s3.2.2 28 (4 * k + i) = (fbL F k).getD i 0 := fun h9 => by rw [(hO.1 28 (by decide)).2]; exact (f3 k hkl).2.2 i h9
                    have hFB3 := hFB.k (hO.keep (by decide))
                    have hl4 := (hW k hkl).2.2.1
                    have hff := nPt_lt (hW f hf).1
                    refine z_iload 75 rfl rfl rfl ?_
                    refine z_aload 76 rfl rfl rfl ?_
                    refine y_ga 79 hR rfl rfl rfl ?_
                    refine z_iload 80 rfl rfl rfl ?_
                    refine y_al (f := 27) 81 _ hR rfl rfl rfl rfl (by omega) (by repeat (first | with_reducible exact k27 | with_reducible exact k28 (by omega) | with_reducible exact k25 | with_reducible exact k26 | with_reducible exact gA_eq _ _ _ _ | (with_reducible apply gA_ne; decide) | with_reducible apply gA_I | with_reducible apply gA_O | (with_reducible apply gA_nj; omega) | with_reducible rfl)) ?_
                    refine z_nge 84 rfl rfl (by omega) (by omega) (fun hc81 => ?_) (fun hc81 => ?_)
                    · obtain rfl : i = (fbL F k).length := by omega
                      refine z_iinc 155 _ rfl rfl rfl rfl (by first | with_reducible exact zi_1 _ | rfl) ?_
                      refine z_goto rfl ?_
                      exact ih9 (k + 1) 1 s3 h _ _ (by omega) (by omega) (by decide) hC.end hR hO (by omega) (fun _ => hcn) (fun e => absurd e (by decide))
                    · have hin := getD_in (show i < (fbL F k).length by omega)
                      have hxp := nPt_lt ((hW k hkl).2.2.2 _ hin)
                      refine z_aload 85 rfl rfl rfl ?_
                      refine y_ga 88 hR rfl rfl rfl ?_
                      refine z_push 89 (nI 4) rfl rfl rfl ?_
                      refine z_iload 90 rfl rfl rfl ?_
                      refine z_bop 91 _ rfl rfl (by first | with_reducible exact zb_2 _ _ | exact zd_2 _ _) ?_
                      refine z_iload 93 rfl rfl rfl ?_
                      refine z_bop 94 _ rfl rfl (by first | with_reducible exact zb_0 _ _ | exact zd_0 _ _) ?_
                      refine y_al (f := 28) 95 _ hR rfl rfl rfl rfl (by omega) (by repeat (first | with_reducible exact k27 | with_reducible exact k28 (by omega) | with_reducible exact k25 | with_reducible exact k26 | with_reducible exact gA_eq _ _ _ _ | (with_reducible apply gA_ne; decide) | with_reducible apply gA_I | with_reducible apply gA_O | (with_reducible apply gA_nj; omega) | with_reducible rfl)) ?_
                      refine z_aload 96 rfl rfl rfl ?_
                      refine y_ga 99 hR rfl rfl rfl ?_
                      refine z_iload 100 rfl rfl rfl ?_
                      refine y_al (f := 26) 101 _ hR rfl rfl rfl rfl (by omega) (by repeat (first | with_reducible exact k27 | with_reducible exact k28 (by omega) | with_reducible exact k25 | with_reducible exact k26 | with_reducible exact gA_eq _ _ _ _ | (with_reducible apply gA_ne; decide) | with_reducible apply gA_I | with_reducible apply gA_O | (with_reducible apply gA_nj; omega) | with_reducible rfl)) ?_
                      refine z_nne 104 rfl rfl (by omega) (by omega) (fun hc101 => ?_) (fun hc101 => ?_)
                      · refine z_aload 107 rfl rfl rfl ?_
                        refine z_aload 108 rfl rfl rfl ?_
                        refine y_ga 111 hR rfl rfl rfl ?_
                        refine z_push 112 (nI 4) rfl rfl rfl ?_
                        refine z_iload 113 rfl rfl rfl ?_
                        refine z_bop 114 _ rfl rfl (by first | with_reducible exact zb_2 _ _ | exact zd_2 _ _) ?_
                        refine z_iload 116 rfl rfl rfl ?_
                        refine z_bop 117 _ rfl rfl (by first | with_reducible exact zb_0 _ _ | exact zd_0 _ _) ?_
                        refine y_al (f := 28) 118 _ hR rfl rfl rfl rfl (by omega) (by repeat (first | with_reducible exact k27 | with_reducible exact k28 (by omega) | with_reducible exact k25 | with_reducible exact k26 | with_reducible exact gA_eq _ _ _ _ | (with_reducible apply gA_ne; decide) | with_reducible apply gA_I | with_reducible apply gA_O | (with_reducible apply gA_nj; omega) | with_reducible rfl)) ?_
                        refine z_cv1 121 rfl rfl hR.1 rfl (Nat.le_refl _) (Nat.le_refl _) ?_
                        refine r_fallbackOf hR hFB3 hW (by omega) ?_
                        rcases hfi : fbI F ((fbL F k).getD i 0) with _ | g
                        · simp only [oI]
                          refine z_istore 123 rfl rfl rfl rfl ?_
                          refine z_iload 125 rfl rfl rfl ?_
                          refine z_jlt 128 rfl rfl (fun _ => ?_) (fun h9 => absurd h9 (by decide))
                          refine z_iinc 149 _ rfl rfl rfl rfl (by first | with_reducible exact zi_1 _ | rfl) ?_
                          refine z_goto rfl ?_
                          exact ih8 (i + 1) s3 h _ (by omega) (by omega) (hC.nx hc101 (fun g hg => by rw [hfi] at hg; cases hg)) hk2 hR hO hcn
                        · simp only [oI]
                          have hgl := fbI_b hfi
                          have hl40 := hFB.2.1
                          have hs2 := hC.2.2.1 g hgl
                          refine z_istore 123 rfl rfl rfl rfl ?_
                          refine z_iload 125 rfl rfl rfl ?_
                          refine z_zlt 128 rfl rfl (by omega) (fun h9 => absurd h9 (by omega)) (fun _ => ?_)
                          refine z_aload 129 rfl rfl rfl ?_
                          refine y_ga 132 hR rfl rfl rfl ?_
                          refine z_iload 134 rfl rfl rfl ?_
                          refine y_al (f := 50) 135 _ hR rfl rfl rfl rfl (by omega) (by repeat (first | with_reducible exact k27 | with_reducible exact k28 (by omega) | with_reducible exact k25 | with_reducible exact k26 | with_reducible exact gA_eq _ _ _ _ | (with_reducible apply gA_ne; decide) | with_reducible apply gA_I | with_reducible apply gA_O | (with_reducible apply gA_nj; omega) | with_reducible rfl)) ?_
                          first | refine z_zne 138 rfl rfl (by omega) (fun hc135 => ?_) (fun hc135 => ?_)
                          · refine z_iinc 149 _ rfl rfl rfl rfl (by first | with_reducible exact zi_1 _ | rfl) ?_
                            refine z_goto rfl ?_
                            exact ih8 (i + 1) s3 h _ (by omega) (by omega) (hC.nx hc101 (fun g9 hg => by rw [hfi] at hg; cases hg; exact hc135)) hk2 hR hO hcn
                          · refine z_aload 139 rfl rfl rfl ?_
                            refine y_ga 142 hR rfl rfl rfl ?_
                            refine z_iload 144 rfl rfl rfl ?_
                            refine z_push 145 (nI 1) rfl rfl rfl ?_
                            refine y_as (f := 50) 146 hR rfl rfl rfl rfl (by omega) ?_
                            intro h hR
                            refine z_iinc 149 _ rfl rfl rfl rfl (by first | with_reducible exact zi_1 _ | rfl) ?_
                            refine z_goto rfl ?_
                            have hrg : Rch F f g := Rch.s (hC.1 k hkl (by omega)) hkl hin hfi
                            refine ih8 (i + 1) _ h _ (by omega) (by omega) (CB.nx (hC.see hc135 hrg) hc101 (fun g9 hg => by rw [hfi] at hg; cases hg; rw [gA_eq]; decide)) ?_ hR (hO.A (by simp)) (by rw [n2_see hc135]; exact hcn)
                            exact (gA_nj (fun e => by subst e; omega) rfl).trans hk2
                      · refine z_push 105 (nI 1) rfl rfl rfl ?_
                        refine z_iretb rfl (Nat.le_refl _) (Nat.le_refl _) (by first | decide | exact bI_01 _) ?_
                        rw [show nI 1 = bI true from rfl]
                        exact q true h s3 hR hO ⟨fun _ => ⟨k, hC.1 k hkl (by omega), hkl, by rw [← hc101]; exact hin⟩, fun _ => rfl⟩
                refine z_aload 62 rfl rfl rfl ?_
                refine y_ga 65 hR rfl rfl rfl ?_
                refine z_iload 66 rfl rfl rfl ?_
                refine z_push 67 (nI 2) rfl rfl rfl ?_
                refine y_as (f := 50) 68 hR rfl rfl rfl rfl (by omega) ?_
                intro h hR
                refine z_push 69 (nI 1) rfl rfl rfl ?_
                refine z_istore 70 rfl rfl rfl rfl ?_
                refine z_push 71 (nI 0) rfl rfl rfl ?_
                refine z_istore 73 rfl rfl rfl rfl ?_
                exact inner ((fbL F k).length + 1) 0 _ h _ (by omega) (by omega) (hC.take hc55) (gA_eq _ _ _ _) hR (hO.A (by simp)) (Nat.lt_of_lt_of_le (n2_take hkl hc55) hle)
              · refine z_goto rfl ?_
                refine z_iinc 155 _ rfl rfl rfl rfl (by first | with_reducible exact zi_1 _ | rfl) ?_
                refine z_goto rfl ?_
                exact ih9 (k + 1) b2 s2 h _ _ (by omega) (by omega) hb2 hC hR hO hle hlt (fun e j hj => by by_cases e9 : j = k; (subst e9; exact hc55); exact hno e j (by omega))
        refine z_push 37 (nI 0) rfl rfl rfl ?_
        refine z_istore 38 rfl rfl rfl rfl ?_
        refine z_push 39 (nI 0) rfl rfl rfl ?_
        refine z_istore 40 rfl rfl rfl rfl ?_
        exact pass (F.length + 1) 0 0 s1 h _ _ (by omega) (by omega) (by decide) hC hR hO (Nat.le_refl _) (fun e => absurd e (by decide)) (fun e j hj => absurd hj (Nat.not_lt_zero j))
  have fill : ∀ m9 k s1 h, F.length < k + m9 → k ≤ F.length → Rf r h0 s1 h → On [50] s s1 → (∀ j, j < k → s1.2.2 50 j = 0) → mZ (d + 1) tk_234 0 0 Q 2 [some (.ref r), some (.int (nI f)), some (.int (nI k)), none, none, none] [] h 0 0 := by
    intro m9
    induction m9 with
    | zero => intro k s1 h h1 h2; omega
    | succ m9 ih =>
      intro k s1 h h1 h2 hR hO hz
      have k25 : s1.1 25 = F.length := (hO.1 25 (by decide)).1.trans f25
      have hl40 := hFB.2.1
      refine z_iload 3 rfl rfl rfl ?_
      refine z_aload 4 rfl rfl rfl ?_
      refine y_gi 7 _ hR rfl rfl rfl rfl rfl (by repeat (first | with_reducible exact gI_eq _ _ _ | (with_reducible apply gI_ne; decide) | with_reducible apply gI_A | with_reducible apply gI_O | with_reducible exact k25 | with_reducible rfl)) ?_
      refine z_nge 10 rfl rfl (by omega) (by omega) (fun hc7 => ?_) (fun hc7 => ?_)
      · refine z_aload 24 rfl rfl rfl ?_
        refine y_ga 27 hR rfl rfl rfl ?_
        refine z_iload 28 rfl rfl rfl ?_
        refine z_push 29 (nI 1) rfl rfl rfl ?_
        refine y_as (f := 50) 30 hR rfl rfl rfl rfl (by omega) ?_
        intro h hR
        refine z_push 31 (nI 1) rfl rfl rfl ?_
        refine z_istore 32 rfl rfl rfl rfl ?_
        refine outer (F.length + 1) 1 _ h _ _ _ (by decide) (fun _ => Nat.lt_succ_of_le (cnt9_le _ _)) ?_ hR (hO.A (by simp)) (fun e => absurd e (by decide))
        obtain rfl : k = F.length := by omega
        have e : ∀ j, j < F.length → (stA 50 f 1 s1).2.2 50 j = if j = f then 1 else 0 := fun j hj => by
          by_cases e : j = f
          · subst e; rw [gA_eq, if_pos rfl]
          · rw [gA_nj e rfl, if_neg e, hz j hj]
        refine ⟨fun j hj h9 => ?_, by rw [gA_eq]; decide, fun j hj => by rw [e j hj]; split <;> omega, fun j hj h9 => by rw [e j hj] at h9; split at h9 <;> omega⟩
        rw [e j hj] at h9
        split at h9
        · rename_i e9; subst e9; exact Rch.z
        · exact absurd rfl h9
      · refine z_aload 11 rfl rfl rfl ?_
        refine y_ga 14 hR rfl rfl rfl ?_
        refine z_iload 15 rfl rfl rfl ?_
        refine z_push 16 (nI 0) rfl rfl rfl ?_
        refine y_as (f := 50) 17 hR rfl rfl rfl rfl (by omega) ?_
        intro h hR
        refine z_iinc 20 _ rfl rfl rfl rfl (by first | with_reducible exact zi_1 _ | rfl) ?_
        refine z_goto rfl ?_
        refine ih (k + 1) _ h (by omega) (by omega) hR (hO.A (by simp)) (fun j hj => ?_)
        by_cases e : j = k
        · subst e; exact gA_eq _ _ _ _
        · exact (gA_nj e rfl).trans (hz j (by omega))
  refine z_in [some (.ref r), some (.int (nI f)), none, none, none, none] (by rfl) rfl rfl rfl ?_
  refine z_push 1 (nI 0) rfl rfl rfl ?_
  refine z_istore 2 rfl rfl rfl rfl ?_
  exact fill (F.length + 1) 0 s h (by omega) (by omega) hR On.rfl (fun j hj => absurd hj (Nat.not_lt_zero j))
