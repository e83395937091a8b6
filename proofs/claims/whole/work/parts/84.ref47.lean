/-! the reference: length -/
def c17 (n : Nat) : Nat := if n ≤ 17 then n else 17
theorem c17_b (n : Nat) : c17 n ≤ 17 := by unfold c17; split <;> omega
theorem c17_a (a b : Nat) : c17 (a + b) = c17 (c17 a + c17 b) := by
  unfold c17
  by_cases h1 : a ≤ 17 <;> by_cases h2 : b ≤ 17 <;> simp only [h1, h2, if_true, if_false] <;> split <;> split <;> omega
theorem c17_c (a : Nat) : c17 (c17 a) = c17 a := by
  unfold c17
  by_cases h1 : a ≤ 17
  · simp only [h1, if_true]
  · simp only [h1, if_false]; decide
theorem c17_sum (g : Nat → Nat) : ∀ l, c17 (sumN (fun x => c17 (g x)) l) = c17 (sumN g l)
  | [] => rfl
  | x :: l => by
    simp only [sumN]
    rw [c17_a, c17_c, c17_sum g l, ← c17_a]
theorem sumN_b {g : Nat → Nat} {n : Nat} (h : ∀ x, g x ≤ n) : ∀ l : List Nat, sumN g l ≤ n * l.length
  | [] => Nat.zero_le _
  | x :: l => by
    have h1 := h x
    have h2 := sumN_b h l
    simp only [sumN, List.length_cons, Nat.mul_add, Nat.mul_one]
    omega
theorem sumN_congr {f g : Nat → Nat} : ∀ {l : List Nat}, (∀ x, x ∈ l → f x = g x) → sumN f l = sumN g l
  | [], _ => rfl
  | x :: l, h => by simp only [sumN]; rw [h x (List.mem_cons_self ..), sumN_congr (fun y hy => h y (List.mem_cons_of_mem _ hy))]
def fbW9 (F : List Fb) (f : Nat) : Nat := sumN (fbN F 40) (fbL F f)
def cN (F : List Fb) (x : Nat) : Nat := c17 (fbN F 40 x)
theorem cN_b (F : List Fb) (x : Nat) : cN F x ≤ 17 := c17_b _
theorem fbN_no {F : List Fb} {x : Nat} (h : fbI F x = none) : ∀ n, fbN F n x = 1
  | 0 => rfl
  | n + 1 => by simp only [fbN, h]
theorem fbN_s {F : List Fb} {n x g : Nat} (h : fbI F x = some g) : fbN F (n + 1) x = sumN (fbN F n) (fbL F g) := by simp only [fbN, h]
theorem fbN_fuel {F : List Fb} : ∀ (n m x : Nat), Fdp F n x → n ≤ m → fbN F m x = fbN F n x
  | 0, m, x, h, _ => by rw [fbN_no h m]; rfl
  | n + 1, 0, x, _, h => absurd h (by omega)
  | n + 1, m + 1, x, h, hm => by
    rcases hf : fbI F x with _ | f
    · rw [fbN_no hf, fbN_no hf]
    · simp only [fbN, hf]
      exact sumN_congr (fun y hy => fbN_fuel n m y (h f hf y hy) (by omega))
def KnI (F : List Fb) (s : rS) : Prop := ∀ j, j < F.length → s.2.2 51 j = 0 ∨ s.2.2 51 j = c17 (fbW9 F j)
theorem KnI.s {F : List Fb} {s : rS} {f v : Nat} (h : KnI F s) (hv : v = c17 (fbW9 F f)) : KnI F (stA 51 f v s) := fun j hj => by
  by_cases e : j = f
  · subst e; rw [gA_eq]; exact Or.inr hv
  · rw [gA_nj e rfl]; exact h j hj
theorem Fdp_step {F : List Fb} {n x f : Nat} (h : Fdp F (n + 1) x) (hf : fbI F x = some f) : ∀ y, y ∈ fbL F f → Fdp F n y := fun y hy => h f hf y hy
set_option maxRecDepth 100000 in
theorem r_length {r : Nat} {h0 : mH} {F : List Fb} (hW : FbW F) : ∀ (n : Nat), n ≤ 40 → ∀ {d f : Nat} {h : mH} {s : rS} {Q : mP}, Rf r h0 s h → RFb s F → f < F.length → (∀ x, x ∈ fbL F f → Fdp F n x) → KnI F s → (∀ h' s', Rf r h0 s' h' → On [51] s s' → KnI F s' → Q (some (.int (nI (c17 (fbW9 F f))))) h') → mWP (d + n + 2) 235 [.ref r, .int (nI f), .ref (r + 31)] h Q := by
  intro n
  induction n with
  | zero =>
    intro hn d f h s Q hR hFB hf hD hK q
    have hkb : s.2.2 51 f ≤ 17 := by rcases hK f hf with h9 | h9; (omega); rw [h9]; exact c17_b _
    have hfb1 := hFB.2.2 f hf
    have hl40 := hFB.2.1
    have hl4 := (hW f hf).2.2.1
    have loop : ∀ m9 a i s1 h o5, (fbL F f).length < i + m9 → i ≤ (fbL F f).length → a ≤ 17 * i → sumN (cN F) (fbL F f) = a + sumN (cN F) ((fbL F f).drop i) → Rf r h0 s1 h → On [51] s s1 → KnI F s1 → mZ (d + 0 + 1) tk_235 0 0 Q 15 [some (.ref r), some (.int (nI f)), some (.ref (r + 31)), some (.int (nI a)), some (.int (nI i)), o5] [] h 0 0 := by
      intro m9
      induction m9 with
      | zero => intro a i s1 h o5 h1 h2; omega
      | succ m9 ih =>
        intro a i s1 h o5 h1 h2 ha he hR hO hK1
        have k27 : s1.2.2 27 f = (fbL F f).length := by rw [(hO.1 27 (by decide)).2]; exact hfb1.2.1
        have k28 : i < (fbL F f).length → s1.2.2 28 (4 * f + i) = ((fbL F f).getD i 0) := fun h9 => by rw [(hO.1 28 (by decide)).2]; exact hfb1.2.2 i h9
        have hFB1 := hFB.k (hO.keep (by decide))
        refine z_iload 17 rfl rfl rfl ?_
        refine z_aload 18 rfl rfl rfl ?_
        refine y_ga 21 hR rfl rfl rfl ?_
        refine z_iload 22 rfl rfl rfl ?_
        refine y_al (f := 27) 23 _ hR rfl rfl rfl rfl (by omega) (by repeat (first | with_reducible exact k27 | with_reducible exact k28 (by omega) | with_reducible exact gA_eq _ _ _ _ | (with_reducible apply gA_ne; decide) | with_reducible apply gA_I | with_reducible apply gA_O | (with_reducible apply gA_nj; omega) | with_reducible rfl)) ?_
        refine z_nge 26 rfl rfl (by omega) (by omega) (fun hc23 => ?_) (fun hc23 => ?_)
        · refine z_aload 69 rfl rfl rfl ?_
          refine z_iload 70 rfl rfl rfl ?_
          refine z_iload 71 rfl rfl rfl ?_
          refine z_push 73 (nI 17) rfl rfl rfl ?_
          refine z_nle 76 rfl rfl (by omega) (by omega) (fun hc73 => ?_) (fun hc73 => ?_)
          · refine z_iload 82 rfl rfl rfl ?_
            refine y_as (f := 51) 83 hR rfl rfl rfl rfl (by omega) ?_
            intro h hR
            refine z_aload 84 rfl rfl rfl ?_
            refine z_iload 85 rfl rfl rfl ?_
            refine y_al (f := 51) 86 _ hR rfl rfl rfl rfl (by omega) (by repeat (first | with_reducible exact k27 | with_reducible exact k28 (by omega) | with_reducible exact gA_eq _ _ _ _ | (with_reducible apply gA_ne; decide) | with_reducible apply gA_I | with_reducible apply gA_O | (with_reducible apply gA_nj; omega) | with_reducible rfl)) ?_
            refine z_ireti rfl (Nat.le_refl _) (Nat.le_refl _) ?_
            obtain rfl : i = (fbL F f).length := by omega
            rw [List.drop_length] at he
            simp only [sumN, Nat.add_zero] at he
            have e9 : a = c17 (fbW9 F f) := by
              rw [fbW9, ← c17_sum]
              show _ = c17 (sumN (cN F) (fbL F f))
              rw [he, c17]
              exact (if_pos hc73).symm
            have q9 := q h _ hR (hO.A (by simp)) (hK1.s e9)
            rw [← e9] at q9
            exact q9
          · refine z_push 78 (nI 17) rfl rfl rfl ?_
            refine z_goto rfl ?_
            refine y_as (f := 51) 83 hR rfl rfl rfl rfl (by omega) ?_
            intro h hR
            refine z_aload 84 rfl rfl rfl ?_
            refine z_iload 85 rfl rfl rfl ?_
            refine y_al (f := 51) 86 _ hR rfl rfl rfl rfl (by omega) (by repeat (first | with_reducible exact k27 | with_reducible exact k28 (by omega) | with_reducible exact gA_eq _ _ _ _ | (with_reducible apply gA_ne; decide) | with_reducible apply gA_I | with_reducible apply gA_O | (with_reducible apply gA_nj; omega) | with_reducible rfl)) ?_
            refine z_ireti rfl (Nat.le_refl _) (Nat.le_refl _) ?_
            obtain rfl : i = (fbL F f).length := by omega
            rw [List.drop_length] at he
            simp only [sumN, Nat.add_zero] at he
            have e9 : 17 = c17 (fbW9 F f) := by
              rw [fbW9, ← c17_sum]
              show _ = c17 (sumN (cN F) (fbL F f))
              rw [he, c17]
              exact (if_neg (by omega)).symm
            have q9 := q h _ hR (hO.A (by simp)) (hK1.s e9)
            rw [← e9] at q9
            exact q9
        · have hin := getD_in (show i < (fbL F f).length by omega)
          have hxp := nPt_lt ((hW f hf).2.2.2 _ hin)
          rw [drop_c9 (show i < (fbL F f).length by omega)] at he
          simp only [sumN] at he
          have hcb := cN_b F ((fbL F f).getD i 0)
          refine z_aload 27 rfl rfl rfl ?_
          refine z_aload 28 rfl rfl rfl ?_
          refine y_ga 31 hR rfl rfl rfl ?_
          refine z_push 32 (nI 4) rfl rfl rfl ?_
          refine z_iload 33 rfl rfl rfl ?_
          refine z_bop 34 _ rfl rfl (by first | with_reducible exact zb_2 _ _ | exact zd_2 _ _) ?_
          refine z_iload 36 rfl rfl rfl ?_
          refine z_bop 37 _ rfl rfl (by first | with_reducible exact zb_0 _ _ | exact zd_0 _ _) ?_
          refine y_al (f := 28) 38 _ hR rfl rfl rfl rfl (by omega) (by repeat (first | with_reducible exact k27 | with_reducible exact k28 (by omega) | with_reducible exact gA_eq _ _ _ _ | (with_reducible apply gA_ne; decide) | with_reducible apply gA_I | with_reducible apply gA_O | (with_reducible apply gA_nj; omega) | with_reducible rfl)) ?_
          refine z_cv1 41 rfl rfl hR.1 rfl (Nat.le_refl _) (Nat.le_refl _) ?_
          refine r_fallbackOf hR hFB1 hW (by omega) ?_
          have hfi : fbI F ((fbL F f).getD i 0) = none := hD _ hin
          rw [hfi]
          · simp only [oI]
            have e8 : cN F ((fbL F f).getD i 0) = 1 := by rw [cN, fbN_no hfi]; rfl
            refine z_istore 43 rfl rfl rfl rfl ?_
            refine z_iload 44 rfl rfl rfl ?_
            refine z_iload 46 rfl rfl rfl ?_
            refine z_jge 49 rfl rfl (fun h9 => absurd h9 (by decide)) (fun _ => ?_)
            refine z_push 50 (nI 1) rfl rfl rfl ?_
            refine z_goto rfl ?_
            refine z_bop 61 _ rfl rfl (by first | with_reducible exact zb_0 _ _ | exact zd_0 _ _) ?_
            refine z_istore 62 rfl rfl rfl rfl ?_
            refine z_iinc 65 _ rfl rfl rfl rfl (by first | with_reducible exact zi_1 _ | rfl) ?_
            refine z_goto rfl ?_
            exact ih (a + 1) (i + 1) s1 h _ (by omega) (by omega) (by omega) (by omega) hR hO hK1
    refine z_in [some (.ref r), some (.int (nI f)), some (.ref (r + 31)), none, none, none] (by rfl) rfl rfl rfl ?_
    refine z_aload 1 rfl rfl rfl ?_
    refine z_iload 2 rfl rfl rfl ?_
    refine y_al (f := 51) 3 _ hR rfl rfl rfl rfl (by omega) (by repeat (first | with_reducible exact gA_eq _ _ _ _ | (with_reducible apply gA_ne; decide) | with_reducible apply gA_I | with_reducible apply gA_O | (with_reducible apply gA_nj; omega) | with_reducible rfl)) ?_
    first | refine z_zle 6 rfl rfl (by omega) (fun hc3 => ?_) (fun hc3 => ?_)
    · refine z_push 11 (nI 0) rfl rfl rfl ?_
      refine z_istore 12 rfl rfl rfl rfl ?_
      refine z_push 13 (nI 0) rfl rfl rfl ?_
      refine z_istore 15 rfl rfl rfl rfl ?_
      exact loop ((fbL F f).length + 1) 0 0 s h _ (by omega) (by omega) (by omega) (by rw [List.drop_zero, Nat.zero_add]) hR On.rfl hK
    · refine z_aload 7 rfl rfl rfl ?_
      refine z_iload 8 rfl rfl rfl ?_
      refine y_al (f := 51) 9 _ hR rfl rfl rfl rfl (by omega) (by repeat (first | with_reducible exact gA_eq _ _ _ _ | (with_reducible apply gA_ne; decide) | with_reducible apply gA_I | with_reducible apply gA_O | (with_reducible apply gA_nj; omega) | with_reducible rfl)) ?_
      refine z_ireti rfl (Nat.le_refl _) (Nat.le_refl _) ?_
      have e9 : s.2.2 51 f = c17 (fbW9 F f) := by rcases hK f hf with h9 | h9; (omega); exact h9
      rw [e9]
      exact q h s hR On.rfl hK
  | succ n IH =>
    intro hn d f h s Q hR hFB hf hD hK q
    have hkb : s.2.2 51 f ≤ 17 := by rcases hK f hf with h9 | h9; (omega); rw [h9]; exact c17_b _
    have hfb1 := hFB.2.2 f hf
    have hl40 := hFB.2.1
    have hl4 := (hW f hf).2.2.1
    have loop : ∀ m9 a i s1 h o5, (fbL F f).length < i + m9 → i ≤ (fbL F f).length → a ≤ 17 * i → sumN (cN F) (fbL F f) = a + sumN (cN F) ((fbL F f).drop i) → Rf r h0 s1 h → On [51] s s1 → KnI F s1 → mZ (d + (n + 1) + 1) tk_235 0 0 Q 15 [some (.ref r), some (.int (nI f)), some (.ref (r + 31)), some (.int (nI a)), some (.int (nI i)), o5] [] h 0 0 := by
      intro m9
      induction m9 with
      | zero => intro a i s1 h o5 h1 h2; omega
      | succ m9 ih =>
        intro a i s1 h o5 h1 h2 ha he hR hO hK1
        have k27 : s1.2.2 27 f = (fbL F f).length := by rw [(hO.1 27 (by decide)).2]; exact hfb1.2.1
        have k28 : i < (fbL F f).length → s1.2.2 28 (4 * f + i) = ((fbL F f).getD i 0) := fun h9 => by rw [(hO.1 28 (by decide)).2]; exact hfb1.2.2 i h9
        have hFB1 := hFB.k (hO.keep (by decide))
        refine z_iload 17 rfl rfl rfl ?_
        refine z_aload 18 rfl rfl rfl ?_
        refine y_ga 21 hR rfl rfl rfl ?_
        refine z_iload 22 rfl rfl rfl ?_
        refine y_al (f := 27) 23 _ hR rfl rfl rfl rfl (by omega) (by repeat (first | with_reducible exact k27 | with_reducible exact k28 (by omega) | with_reducible exact gA_eq _ _ _ _ | (with_reducible apply gA_ne; decide) | with_reducible apply gA_I | with_reducible apply gA_O | (with_reducible apply gA_nj; omega) | with_reducible rfl)) ?_
        refine z_nge 26 rfl rfl (by omega) (by omega) (fun hc23 => ?_) (fun hc23 => ?_)
        · refine z_aload 69 rfl rfl rfl ?_
          refine z_iload 70 rfl rfl rfl ?_
          refine z_iload 71 rfl rfl rfl ?_
          refine z_push 73 (nI 17) rfl rfl rfl ?_
          refine z_nle 76 rfl rfl (by omega) (by omega) (fun hc73 => ?_) (fun hc73 => ?_)
          · refine z_iload 82 rfl rfl rfl ?_
            refine y_as (f := 51) 83 hR rfl rfl rfl rfl (by omega) ?_
            intro h hR
            refine z_aload 84 rfl rfl rfl ?_
            refine z_iload 85 rfl rfl rfl ?_
            refine y_al (f := 51) 86 _ hR rfl rfl rfl rfl (by omega) (by repeat (first | with_reducible exact k27 | with_reducible exact k28 (by omega) | with_reducible exact gA_eq _ _ _ _ | (with_reducible apply gA_ne; decide) | with_reducible apply gA_I | with_reducible apply gA_O | (with_reducible apply gA_nj; omega) | with_reducible rfl)) ?_
            refine z_ireti rfl (Nat.le_refl _) (Nat.le_refl _) ?_
            obtain rfl : i = (fbL F f).length := by omega
            rw [List.drop_length] at he
            simp only [sumN, Nat.add_zero] at he
            have e9 : a = c17 (fbW9 F f) := by
              rw [fbW9, ← c17_sum]
              show _ = c17 (sumN (cN F) (fbL F f))
              rw [he, c17]
              exact (if_pos hc73).symm
            have q9 := q h _ hR (hO.A (by simp)) (hK1.s e9)
            rw [← e9] at q9
            exact q9
          · refine z_push 78 (nI 17) rfl rfl rfl ?_
            refine z_goto rfl ?_
            refine y_as (f := 51) 83 hR rfl rfl rfl rfl (by omega) ?_
            intro h hR
            refine z_aload 84 rfl rfl rfl ?_
            refine z_iload 85 rfl rfl rfl ?_
            refine y_al (f := 51) 86 _ hR rfl rfl rfl rfl (by omega) (by repeat (first | with_reducible exact k27 | with_reducible exact k28 (by omega) | with_reducible exact gA_eq _ _ _ _ | (with_reducible apply gA_ne; decide) | with_reducible apply gA_I | with_reducible apply gA_O | (with_reducible apply gA_nj; omega) | with_reducible rfl)) ?_
            refine z_ireti rfl (Nat.le_refl _) (Nat.le_refl _) ?_
            obtain rfl : i = (fbL F f).length := by omega
            rw [List.drop_length] at he
            simp only [sumN, Nat.add_zero] at he
            have e9 : 17 = c17 (fbW9 F f) := by
              rw [fbW9, ← c17_sum]
              show _ = c17 (sumN (cN F) (fbL F f))
              rw [he, c17]
              exact (if_neg (by omega)).symm
            have q9 := q h _ hR (hO.A (by simp)) (hK1.s e9)
            rw [← e9] at q9
            exact q9
        · have hin := getD_in (show i < (fbL F f).length by omega)
          have hxp := nPt_lt ((hW f hf).2.2.2 _ hin)
          rw [drop_c9 (show i < (fbL F f).length by omega)] at he
          simp only [sumN] at he
          have hcb := cN_b F ((fbL F f).getD i 0)
          refine z_aload 27 rfl rfl rfl ?_
          refine z_aload 28 rfl rfl rfl ?_
          refine y_ga 31 hR rfl rfl rfl ?_
          refine z_push 32 (nI 4) rfl rfl rfl ?_
          refine z_iload 33 rfl rfl rfl ?_
          refine z_bop 34 _ rfl rfl (by first | with_reducible exact zb_2 _ _ | exact zd_2 _ _) ?_
          refine z_iload 36 rfl rfl rfl ?_
          refine z_bop 37 _ rfl rfl (by first | with_reducible exact zb_0 _ _ | exact zd_0 _ _) ?_
          refine y_al (f := 28) 38 _ hR rfl rfl rfl rfl (by omega) (by repeat (first | with_reducible exact k27 | with_reducible exact k28 (by omega) | with_reducible exact gA_eq _ _ _ _ | (with_reducible apply gA_ne; decide) | with_reducible apply gA_I | with_reducible apply gA_O | (with_reducible apply gA_nj; omega) | with_reducible rfl)) ?_
          refine z_cv1 41 rfl rfl hR.1 rfl (Nat.le_refl _) (Nat.le_refl _) ?_
          refine r_fallbackOf hR hFB1 hW (by omega) ?_
          rcases hfi : fbI F ((fbL F f).getD i 0) with _ | g
          · simp only [oI]
            have e8 : cN F ((fbL F f).getD i 0) = 1 := by rw [cN, fbN_no hfi]; rfl
            refine z_istore 43 rfl rfl rfl rfl ?_
            refine z_iload 44 rfl rfl rfl ?_
            refine z_iload 46 rfl rfl rfl ?_
            refine z_jge 49 rfl rfl (fun h9 => absurd h9 (by decide)) (fun _ => ?_)
            refine z_push 50 (nI 1) rfl rfl rfl ?_
            refine z_goto rfl ?_
            refine z_bop 61 _ rfl rfl (by first | with_reducible exact zb_0 _ _ | exact zd_0 _ _) ?_
            refine z_istore 62 rfl rfl rfl rfl ?_
            refine z_iinc 65 _ rfl rfl rfl rfl (by first | with_reducible exact zi_1 _ | rfl) ?_
            refine z_goto rfl ?_
            exact ih (a + 1) (i + 1) s1 h _ (by omega) (by omega) (by omega) (by omega) hR hO hK1
          · simp only [oI]
            have hgl9 := fbI_b hfi
            refine z_istore 43 rfl rfl rfl rfl ?_
            refine z_iload 44 rfl rfl rfl ?_
            refine z_iload 46 rfl rfl rfl ?_
            refine z_zge 49 rfl rfl (by omega) (fun _ => ?_) (fun h9 => absurd h9 (by omega))
            refine z_aload 54 rfl rfl rfl ?_
            refine z_iload 56 rfl rfl rfl ?_
            refine z_aload 57 rfl rfl rfl ?_
            refine z_cv2 60 rfl rfl hR.1 rfl (Nat.le_refl _) (Nat.le_refl _) ?_
            have hgl := fbI_b hfi
            refine IH (by omega) (d := d) hR hFB1 hgl (Fdp_step (hD _ hin) hfi) hK1 (fun h s2 hR hO2 hK2 => ?_)
            have e8 : cN F ((fbL F f).getD i 0) = c17 (fbW9 F g) := by
              unfold cN fbW9
              rw [fbN_s (n := 39) hfi, sumN_congr (fun y hy => (fbN_fuel n 39 y (Fdp_step (hD _ hin) hfi y hy) (by omega)).trans (fbN_fuel n 40 y (Fdp_step (hD _ hin) hfi y hy) (by omega)).symm)]
            refine z_bop 61 _ rfl rfl (by first | with_reducible exact zb_0 _ _ | exact zd_0 _ _) ?_
            refine z_istore 62 rfl rfl rfl rfl ?_
            refine z_iinc 65 _ rfl rfl rfl rfl (by first | with_reducible exact zi_1 _ | rfl) ?_
            refine z_goto rfl ?_
            rw [e8] at he hcb
            exact ih (a + c17 (fbW9 F g)) (i + 1) s2 h _ (by omega) (by omega) (by omega) (by omega) hR (hO.trans hO2) hK2
    refine z_in [some (.ref r), some (.int (nI f)), some (.ref (r + 31)), none, none, none] (by rfl) rfl rfl rfl ?_
    refine z_aload 1 rfl rfl rfl ?_
    refine z_iload 2 rfl rfl rfl ?_
    refine y_al (f := 51) 3 _ hR rfl rfl rfl rfl (by omega) (by repeat (first | with_reducible exact gA_eq _ _ _ _ | (with_reducible apply gA_ne; decide) | with_reducible apply gA_I | with_reducible apply gA_O | (with_reducible apply gA_nj; omega) | with_reducible rfl)) ?_
    first | refine z_zle 6 rfl rfl (by omega) (fun hc3 => ?_) (fun hc3 => ?_)
    · refine z_push 11 (nI 0) rfl rfl rfl ?_
      refine z_istore 12 rfl rfl rfl rfl ?_
      refine z_push 13 (nI 0) rfl rfl rfl ?_
      refine z_istore 15 rfl rfl rfl rfl ?_
      exact loop ((fbL F f).length + 1) 0 0 s h _ (by omega) (by omega) (by omega) (by rw [List.drop_zero, Nat.zero_add]) hR On.rfl hK
    · refine z_aload 7 rfl rfl rfl ?_
      refine z_iload 8 rfl rfl rfl ?_
      refine y_al (f := 51) 9 _ hR rfl rfl rfl rfl (by omega) (by repeat (first | with_reducible exact gA_eq _ _ _ _ | (with_reducible apply gA_ne; decide) | with_reducible apply gA_I | with_reducible apply gA_O | (with_reducible apply gA_nj; omega) | with_reducible rfl)) ?_
      refine z_ireti rfl (Nat.le_refl _) (Nat.le_refl _) ?_
      have e9 : s.2.2 51 f = c17 (fbW9 F f) := by rcases hK f hf with h9 | h9; (omega); exact h9
      rw [e9]
      exact q h s hR On.rfl hK
