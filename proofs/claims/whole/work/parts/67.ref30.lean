/-! the reference: store -/
/-- a row comes behind what waits -/
def CpF (s s1 : rS) (b n : Nat) (us : List Nat) : Prop := s1.1 = s.1 ∧ s1.2.1 = s.2.1 ∧ (∀ f, f ≠ 63 → s1.2.2 f = s.2.2 f) ∧ ∀ j, s1.2.2 63 j = if b ≤ j ∧ j < b + n then us.getD (j - b) 0 else s.2.2 63 j
theorem CpF.z {s : rS} {b : Nat} {us : List Nat} : CpF s s b 0 us := ⟨rfl, rfl, fun _ _ => rfl, fun j => by rw [if_neg (by omega)]⟩
theorem CpF.s1 {s s1 : rS} {b i : Nat} {us : List Nat} (h : CpF s s1 b i us) : CpF s (stA 63 (b + i) (us.getD i 0) s1) b (i + 1) us := by
  refine ⟨h.1, h.2.1, fun f hf => by rw [gAf hf]; exact h.2.2.1 f hf, fun j => ?_⟩
  by_cases e : j = b + i
  · subst e
    rw [gA_eq, if_pos (by omega), Nat.add_sub_cancel_left]
  · rw [gA_nj e rfl, h.2.2.2 j]
    by_cases h3 : b ≤ j ∧ j < b + i
    · rw [if_pos h3, if_pos (by omega)]
    · rw [if_neg h3, if_neg (by omega)]
def stK (D st pn w : Nat) (s : rS) : rS := stA 57 D pn (stA 56 D st (stA 62 D w s))
def stR (D st w a : Nat) (s : rS) : rS := stI 24 (s.1 24 + 1) (stA 61 D 2 (stA 58 D 0 (stI 22 a (stK D st 4 w s))))
set_option maxRecDepth 10000 in
theorem r_store {d r : Nat} {h h0 : mH} {s : rS} {D st pn w a : Nat} {no : Int32} {us : List Nat} {Q : mP} (hR : Rf r h0 s h) (hD : D < 4) (ho : OutAt s 65 us) (h62 : s.2.2 62 D = w) (h34 : s.1 34 = st) (h35 : s.1 35 = pn) (hwu : w + us.length ≤ 1200) (hno : no = 0 ∨ no.toInt < 0)  (q0 : no = 0 → ∀ h' s1, Rf r h0 (stK D st pn (w + us.length) s1) h' → CpF s s1 (1200 * D + w) us.length us → Q (some (.int (nI (w + us.length)))) h') (q1 : no.toInt < 0 → ∀ h' s1, Rf r h0 (stR D st (w + us.length) a s1) h' → CpF s s1 (1200 * D + w) us.length us → Q (some (.int no)) h') : mWP (d + 2) 239 [.ref r, .int (nI D), .int no, .int (nI a)] h Q := by
  have h37 : s.1 37 = us.length := ho.2.1
  have hu0 : ∀ j, j < us.length → s.2.2 65 j = us.getD j 0 := fun j hj => by have := ho.2.2 j hj; rw [Nat.zero_add] at this; exact this
  have loop : ∀ m9 i s1 h, us.length < i + m9 → i ≤ us.length → Rf r h0 s1 h → CpF s s1 (1200 * D + w) i us → mZ (d + 1) tk_239 0 0 Q 3 [some (.ref r), some (.int (nI D)), some (.int no), some (.int (nI a)), some (.int (nI i))] [] h 0 0 := by
    intro m9
    induction m9 with
    | zero => intro i s1 h h1 h2; omega
    | succ m9 ih =>
      intro i s1 h h1 h2 hR hc
      have k37 : s1.1 37 = us.length := by rw [hc.1]; exact h37
      have k62 : s1.2.2 62 D = w := by rw [hc.2.2.1 62 (by decide)]; exact h62
      have k65 : ∀ j, j < us.length → s1.2.2 65 j = us.getD j 0 := fun j hj => by rw [hc.2.2.1 65 (by decide)]; exact hu0 j hj
      have k34 : s1.1 34 = st := by rw [hc.1]; exact h34
      have k35 : s1.1 35 = pn := by rw [hc.1]; exact h35
      refine z_iload 5 rfl rfl rfl ?_
      refine z_aload 6 rfl rfl rfl ?_
      refine y_gi 9 _ hR rfl rfl rfl rfl rfl (by repeat (first | with_reducible exact gI_eq _ _ _ | (with_reducible apply gI_ne; decide) | with_reducible apply gI_A | with_reducible apply gI_O | with_reducible exact k37 | with_reducible exact k62 | with_reducible exact k34 | with_reducible exact k35 | with_reducible exact k65 i (by omega) | with_reducible rfl)) ?_
      refine z_nge 12 rfl rfl (by omega) (by omega) (fun hc9 => ?_) (fun hc9 => ?_)
      · obtain rfl : i = us.length := by omega
        refine z_aload 46 rfl rfl rfl ?_
        refine y_ga 49 hR rfl rfl rfl ?_
        refine z_iload 50 rfl rfl rfl ?_
        refine z_dup2 51 rfl rfl ?_
        refine y_al (f := 62) 52 _ hR rfl rfl rfl rfl (by omega) (by repeat (first | with_reducible exact k37 | with_reducible exact k62 | with_reducible exact k34 | with_reducible exact k35 | with_reducible exact k65 i (by omega) | with_reducible exact gA_eq _ _ _ _ | (with_reducible apply gA_ne; decide) | with_reducible apply gA_I | with_reducible apply gA_O | (with_reducible apply gA_nj; omega) | with_reducible rfl)) ?_
        refine z_aload 53 rfl rfl rfl ?_
        refine y_gi 56 _ hR rfl rfl rfl rfl rfl (by repeat (first | with_reducible exact gI_eq _ _ _ | (with_reducible apply gI_ne; decide) | with_reducible apply gI_A | with_reducible apply gI_O | with_reducible exact k37 | with_reducible exact k62 | with_reducible exact k34 | with_reducible exact k35 | with_reducible exact k65 i (by omega) | with_reducible rfl)) ?_
        refine z_bop 57 _ rfl rfl (by first | with_reducible exact zb_0 _ _ | exact zd_0 _ _) ?_
        refine y_as (f := 62) 58 hR rfl rfl rfl rfl (by omega) ?_
        intro h hR
        refine z_aload 59 rfl rfl rfl ?_
        refine y_ga 62 hR rfl rfl rfl ?_
        refine z_iload 63 rfl rfl rfl ?_
        refine z_aload 64 rfl rfl rfl ?_
        refine y_gi 67 _ hR rfl rfl rfl rfl rfl (by repeat (first | with_reducible exact gI_eq _ _ _ | (with_reducible apply gI_ne; decide) | with_reducible apply gI_A | with_reducible apply gI_O | with_reducible exact k37 | with_reducible exact k62 | with_reducible exact k34 | with_reducible exact k35 | with_reducible exact k65 i (by omega) | with_reducible rfl)) ?_
        refine y_as (f := 56) 68 hR rfl rfl rfl rfl (by omega) ?_
        intro h hR
        refine z_aload 69 rfl rfl rfl ?_
        refine y_ga 72 hR rfl rfl rfl ?_
        refine z_iload 73 rfl rfl rfl ?_
        refine z_iload 74 rfl rfl rfl ?_
        first | refine z_ieq 77 rfl rfl (fun hc74 => ?_) (fun hc74 => ?_)
        · refine z_aload 82 rfl rfl rfl ?_
          refine y_gi 85 _ hR rfl rfl rfl rfl rfl (by repeat (first | with_reducible exact gI_eq _ _ _ | (with_reducible apply gI_ne; decide) | with_reducible apply gI_A | with_reducible apply gI_O | with_reducible exact k37 | with_reducible exact k62 | with_reducible exact k34 | with_reducible exact k35 | with_reducible exact k65 i (by omega) | with_reducible rfl)) ?_
          refine y_as (f := 57) 86 hR rfl rfl rfl rfl (by omega) ?_
          intro h hR
          refine z_iload 87 rfl rfl rfl ?_
          refine z_ieq 90 rfl rfl (fun _ => ?_) (fun h9 => absurd hc74 h9)
          refine z_aload 116 rfl rfl rfl ?_
          refine y_ga 119 hR rfl rfl rfl ?_
          refine z_iload 120 rfl rfl rfl ?_
          refine y_al (f := 62) 121 _ hR rfl rfl rfl rfl (by omega) (by repeat (first | with_reducible exact k37 | with_reducible exact k62 | with_reducible exact k34 | with_reducible exact k35 | with_reducible exact k65 i (by omega) | with_reducible exact gA_eq _ _ _ _ | (with_reducible apply gA_ne; decide) | with_reducible apply gA_I | with_reducible apply gA_O | (with_reducible apply gA_nj; omega) | with_reducible rfl)) ?_
          refine z_ireti rfl (Nat.le_refl _) (Nat.le_refl _) ?_
          exact q0 hc74 h s1 hR hc
        · refine z_push 78 (nI 4) rfl rfl rfl ?_
          refine z_goto rfl ?_
          refine y_as (f := 57) 86 hR rfl rfl rfl rfl (by omega) ?_
          intro h hR
          refine z_iload 87 rfl rfl rfl ?_
          refine z_ieq 90 rfl rfl (fun h9 => absurd h9 hc74) (fun _ => ?_)
          refine z_aload 91 rfl rfl rfl ?_
          refine z_iload 92 rfl rfl rfl ?_
          refine y_pi 95 hR rfl rfl rfl rfl rfl (mFi rfl) ?_
          intro h hR
          refine z_aload 96 rfl rfl rfl ?_
          refine y_ga 99 hR rfl rfl rfl ?_
          refine z_iload 100 rfl rfl rfl ?_
          refine z_push 101 (nI 0) rfl rfl rfl ?_
          refine y_as (f := 58) 102 hR rfl rfl rfl rfl (by omega) ?_
          intro h hR
          refine z_aload 103 rfl rfl rfl ?_
          refine y_ga 106 hR rfl rfl rfl ?_
          refine z_iload 107 rfl rfl rfl ?_
          refine z_push 108 (nI 2) rfl rfl rfl ?_
          refine y_as (f := 61) 109 hR rfl rfl rfl rfl (by omega) ?_
          intro h hR
          refine z_aload 110 rfl rfl rfl ?_
          refine z_iload 111 rfl rfl rfl ?_
          refine z_cv1 114 rfl rfl hR.1 rfl (Nat.le_refl _) (Nat.le_refl _) ?_
          refine r_tell hR (fun h9 => absurd h9 (by rcases hno with h8 | h8; (exact absurd h8 hc74); omega)) (fun _ h hR => ?_)
          refine z_ireti rfl (Nat.le_refl _) (Nat.le_refl _) ?_
          exact q1 (by rcases hno with h8 | h8; (exact absurd h8 hc74); exact h8) h s1 hR hc
      · refine z_aload 13 rfl rfl rfl ?_
        refine y_ga 16 hR rfl rfl rfl ?_
        refine z_push 19 (nI 1200) rfl rfl rfl ?_
        refine z_iload 20 rfl rfl rfl ?_
        refine z_bop 21 _ rfl rfl (by first | with_reducible exact zb_2 _ _ | exact zd_2 _ _) ?_
        refine z_aload 22 rfl rfl rfl ?_
        refine y_ga 25 hR rfl rfl rfl ?_
        refine z_iload 26 rfl rfl rfl ?_
        refine y_al (f := 62) 27 _ hR rfl rfl rfl rfl (by omega) (by repeat (first | with_reducible exact k37 | with_reducible exact k62 | with_reducible exact k34 | with_reducible exact k35 | with_reducible exact k65 i (by omega) | with_reducible exact gA_eq _ _ _ _ | (with_reducible apply gA_ne; decide) | with_reducible apply gA_I | with_reducible apply gA_O | (with_reducible apply gA_nj; omega) | with_reducible rfl)) ?_
        refine z_bop 28 _ rfl rfl (by first | with_reducible exact zb_0 _ _ | exact zd_0 _ _) ?_
        refine z_iload 30 rfl rfl rfl ?_
        refine z_bop 31 _ rfl rfl (by first | with_reducible exact zb_0 _ _ | exact zd_0 _ _) ?_
        refine z_aload 32 rfl rfl rfl ?_
        refine y_ga 35 hR rfl rfl rfl ?_
        refine z_iload 37 rfl rfl rfl ?_
        refine y_al (f := 65) 38 _ hR rfl rfl rfl rfl (by omega) (by repeat (first | with_reducible exact k37 | with_reducible exact k62 | with_reducible exact k34 | with_reducible exact k35 | with_reducible exact k65 i (by omega) | with_reducible exact gA_eq _ _ _ _ | (with_reducible apply gA_ne; decide) | with_reducible apply gA_I | with_reducible apply gA_O | (with_reducible apply gA_nj; omega) | with_reducible rfl)) ?_
        refine y_as (f := 63) 39 hR rfl rfl rfl rfl (by omega) ?_
        intro h hR
        refine z_iinc 42 _ rfl rfl rfl rfl (by first | with_reducible exact zi_1 _ | rfl) ?_
        refine z_goto rfl ?_
        exact ih (i + 1) _ h (by omega) (by omega) hR hc.s1
  refine z_in [some (.ref r), some (.int (nI D)), some (.int no), some (.int (nI a)), none] (by rfl) rfl rfl rfl ?_
  refine z_push 1 (nI 0) rfl rfl rfl ?_
  refine z_istore 3 rfl rfl rfl rfl ?_
  exact loop (us.length + 1) 0 s h (by omega) (by omega) hR CpF.z
