/-! the reference: derive -/
def CpI (lo hi b c : Nat) (s0 s : rS) (i : Nat) : Prop := s.1 = s0.1 ∧ s.2.1 = s0.2.1 ∧ (∀ f, (f < lo ∨ hi < f) → s.2.2 f = s0.2.2 f) ∧ ∀ f, lo ≤ f → f ≤ hi → ∀ j, s.2.2 f j = if b ≤ j ∧ j < b + i then s0.2.2 f (c + (j - b)) else s0.2.2 f j
theorem CpI.z {lo hi b c : Nat} {s : rS} : CpI lo hi b c s s 0 := ⟨rfl, rfl, fun _ _ => rfl, fun f _ _ j => by rw [if_neg (by omega)]⟩
theorem CpI.sE {b c i : Nat} {s0 s : rS} (h : CpI 5 9 b c s0 s i) (hk : c + i < b) : CpI 5 9 b c s0 (cpE (c + i) (b + i) s) (i + 1) := by
  refine ⟨h.1, h.2.1, fun f hf => ?_, fun f h1 h2 j => ?_⟩
  · rw [← h.2.2.1 f hf]
    simp only [cpE]
    rw [gAf (by omega), gAf (by omega), gAf (by omega), gAf (by omega), gAf (by omega)]
  · have e1 : ∀ j, (cpE (c + i) (b + i) s).2.2 f j = if j = b + i then s.2.2 f (c + i) else s.2.2 f j := by
      intro j
      have hf : f = 5 ∨ f = 6 ∨ f = 7 ∨ f = 8 ∨ f = 9 := by omega
      rcases hf with rfl | rfl | rfl | rfl | rfl <;> simp [cpE, stA, updN]
    rw [e1]
    by_cases hj : j = b + i
    · subst hj
      rw [if_pos rfl, if_pos (by omega), h.2.2.2 f h1 h2, if_neg (by omega), show c + (b + i - b) = c + i by omega]
    · rw [if_neg hj, h.2.2.2 f h1 h2]
      by_cases h3 : b ≤ j ∧ j < b + i
      · rw [if_pos h3, if_pos (by omega)]
      · rw [if_neg h3, if_neg (by omega)]
theorem CpI.sS {b c i : Nat} {s0 s : rS} (h : CpI 10 13 b c s0 s i) (hk : c + i < b) : CpI 10 13 b c s0 (cpS (c + i) (b + i) s) (i + 1) := by
  refine ⟨h.1, h.2.1, fun f hf => ?_, fun f h1 h2 j => ?_⟩
  · rw [← h.2.2.1 f hf]
    simp only [cpS]
    rw [gAf (by omega), gAf (by omega), gAf (by omega), gAf (by omega)]
  · have e1 : ∀ j, (cpS (c + i) (b + i) s).2.2 f j = if j = b + i then s.2.2 f (c + i) else s.2.2 f j := by
      intro j
      have hf : f = 10 ∨ f = 11 ∨ f = 12 ∨ f = 13 := by omega
      rcases hf with rfl | rfl | rfl | rfl <;> simp [cpS, stA, updN]
    rw [e1]
    by_cases hj : j = b + i
    · subst hj
      rw [if_pos rfl, if_pos (by omega), h.2.2.2 f h1 h2, if_neg (by omega), show c + (b + i - b) = c + i by omega]
    · rw [if_neg hj, h.2.2.2 f h1 h2]
      by_cases h3 : b ≤ j ∧ j < b + i
      · rw [if_pos h3, if_pos (by omega)]
      · rw [if_neg h3, if_neg (by omega)]
def nwP (p e g : Nat) (s : rS) : rS := stA 4 p g (stA 3 p e (stA 2 p 0 (stA 1 p 0 s)))
theorem nwP_f {p e g f : Nat} {s : rS} (hf : 4 < f) : (nwP p e g s).2.2 f = s.2.2 f := by
  simp only [nwP]
  rw [gAf (by omega), gAf (by omega), gAf (by omega), gAf (by omega)]
def sp_derive (A : Ab) (q : Int32) : Int32 × Ab :=
  if 0 ≤ q.toInt ∧ q.toInt < A.pgs.length then
    if pgK A.pgs q.toInt.toNat = 0 then
      if pgC A.pgs q.toInt.toNat = true then
        if A.pgs.length = 10 then (-6, A.tell) else (nI A.pgs.length, A.wPgs (A.pgs ++ [(0, false, pgE A.pgs q.toInt.toNat, pgH A.pgs q.toInt.toNat)]))
      else (-5, A.tell)
    else (-3, A.tell)
  else (-1, A.tell)
theorem RInv.der {s s1 s2 : rS} {A : Ab} {q : Nat} (hI : RInv s A) (hB : PgB A.pgs) (hq : q < A.pgs.length) (hl : A.pgs.length < 10) (c1 : CpI 5 9 (100 * A.pgs.length) (100 * q) (nwP A.pgs.length (pgE A.pgs q).length (pgH A.pgs q).length s) s1 (pgE A.pgs q).length) (c2 : CpI 10 13 (10 * A.pgs.length) (10 * q) s1 s2 (pgH A.pgs q).length) : RInv (stI 0 (A.pgs.length + 1) s2) (A.wPgs (A.pgs ++ [(0, false, pgE A.pgs q, pgH A.pgs q)])) := by
  obtain ⟨a1, a2, a3, a4⟩ := c1
  obtain ⟨b1, b2', b3, b4⟩ := c2
  have hg := (hI.1.2.2 q hq).2.2
  have hW := hB q hq
  have hW1 := hW.1
  have hW2 := hW.2.1
  have small : ∀ f, f < 5 → s2.2.2 f = (nwP A.pgs.length (pgE A.pgs q).length (pgH A.pgs q).length s).2.2 f := fun f hf => by rw [b3 f (by omega), a3 f (by omega)]
  have ent : ∀ f, 5 ≤ f → f ≤ 9 → ∀ j, s2.2.2 f j = if 100 * A.pgs.length ≤ j ∧ j < 100 * A.pgs.length + (pgE A.pgs q).length then s.2.2 f (100 * q + (j - 100 * A.pgs.length)) else s.2.2 f j := fun f h1 h2 j => by
    rw [b3 f (by omega), a4 f h1 h2, nwP_f (by omega)]
  have shf : ∀ f, 10 ≤ f → f ≤ 13 → ∀ j, s2.2.2 f j = if 10 * A.pgs.length ≤ j ∧ j < 10 * A.pgs.length + (pgH A.pgs q).length then s.2.2 f (10 * q + (j - 10 * A.pgs.length)) else s.2.2 f j := fun f h1 h2 j => by
    rw [b4 f h1 h2, a3 f (by omega), nwP_f (by omega)]
  refine hI.pg (fun c hc => ?_) (fun f hf => ?_) (hI.1.add hB hl (gI_eq _ _ _) ?_ ?_ ⟨by omega, ?_, ?_, fun j hj => ?_, fun j hj => ?_⟩ (fun p hp => ⟨?_, ?_, ?_, ?_, fun j hj => ?_, fun j hj => ?_⟩))
  · refine (gI_ne hc rfl).trans ?_
    rw [b1, a1]; rfl
  · show s2.2.2 f = s.2.2 f
    rw [b3 f (by omega), a3 f (by omega), nwP_f (by omega)]
  · show s2.2.2 1 _ = _
    rw [small 1 (by omega), nwP]
    repeat (first | with_reducible exact gA_eq _ _ _ _ | (with_reducible apply gA_ne; decide) | with_reducible apply gA_I | with_reducible apply gA_O | (with_reducible apply gA_nj; omega) | with_reducible rfl | exact gA_eq _ _ _ _)
  · show s2.2.2 2 _ = _
    rw [small 2 (by omega), nwP]
    repeat (first | with_reducible exact gA_eq _ _ _ _ | (with_reducible apply gA_ne; decide) | with_reducible apply gA_I | with_reducible apply gA_O | (with_reducible apply gA_nj; omega) | with_reducible rfl | exact gA_eq _ _ _ _)
  · show s2.2.2 3 _ = _
    rw [small 3 (by omega), nwP]
    repeat (first | with_reducible exact gA_eq _ _ _ _ | (with_reducible apply gA_ne; decide) | with_reducible apply gA_I | with_reducible apply gA_O | (with_reducible apply gA_nj; omega) | with_reducible rfl | exact gA_eq _ _ _ _)
  · show s2.2.2 4 _ = _
    rw [small 4 (by omega), nwP]
    repeat (first | with_reducible exact gA_eq _ _ _ _ | (with_reducible apply gA_ne; decide) | with_reducible apply gA_I | with_reducible apply gA_O | (with_reducible apply gA_nj; omega) | with_reducible rfl | exact gA_eq _ _ _ _)
  · have hj' : j < (pgE A.pgs q).length := hj
    show s2.2.2 5 _ = _ ∧ s2.2.2 6 _ = _ ∧ s2.2.2 7 _ = _ ∧ s2.2.2 8 _ = _ ∧ s2.2.2 9 _ = _
    rw [ent 5 (by omega) (by omega), ent 6 (by omega) (by omega), ent 7 (by omega) (by omega), ent 8 (by omega) (by omega), ent 9 (by omega) (by omega)]
    simp only [if_pos (show 100 * A.pgs.length ≤ 100 * A.pgs.length + j ∧ 100 * A.pgs.length + j < 100 * A.pgs.length + (pgE A.pgs q).length by omega), Nat.add_sub_cancel_left]
    exact hg.2.2.2.1 j hj'
  · have hj' : j < (pgH A.pgs q).length := hj
    show s2.2.2 10 _ = _ ∧ s2.2.2 11 _ = _ ∧ s2.2.2 12 _ = _ ∧ s2.2.2 13 _ = _
    rw [shf 10 (by omega) (by omega), shf 11 (by omega) (by omega), shf 12 (by omega) (by omega), shf 13 (by omega) (by omega)]
    simp only [if_pos (show 10 * A.pgs.length ≤ 10 * A.pgs.length + j ∧ 10 * A.pgs.length + j < 10 * A.pgs.length + (pgH A.pgs q).length by omega), Nat.add_sub_cancel_left]
    exact hg.2.2.2.2 j hj'
  · show s2.2.2 1 _ = _
    rw [small 1 (by omega), nwP]
    repeat (first | with_reducible exact gA_eq _ _ _ _ | (with_reducible apply gA_ne; decide) | with_reducible apply gA_I | with_reducible apply gA_O | (with_reducible apply gA_nj; omega) | with_reducible rfl | exact gA_eq _ _ _ _)
  · show s2.2.2 2 _ = _
    rw [small 2 (by omega), nwP]
    repeat (first | with_reducible exact gA_eq _ _ _ _ | (with_reducible apply gA_ne; decide) | with_reducible apply gA_I | with_reducible apply gA_O | (with_reducible apply gA_nj; omega) | with_reducible rfl | exact gA_eq _ _ _ _)
  · show s2.2.2 3 _ = _
    rw [small 3 (by omega), nwP]
    repeat (first | with_reducible exact gA_eq _ _ _ _ | (with_reducible apply gA_ne; decide) | with_reducible apply gA_I | with_reducible apply gA_O | (with_reducible apply gA_nj; omega) | with_reducible rfl | exact gA_eq _ _ _ _)
  · show s2.2.2 4 _ = _
    rw [small 4 (by omega), nwP]
    repeat (first | with_reducible exact gA_eq _ _ _ _ | (with_reducible apply gA_ne; decide) | with_reducible apply gA_I | with_reducible apply gA_O | (with_reducible apply gA_nj; omega) | with_reducible rfl | exact gA_eq _ _ _ _)
  · show s2.2.2 5 _ = _ ∧ s2.2.2 6 _ = _ ∧ s2.2.2 7 _ = _ ∧ s2.2.2 8 _ = _ ∧ s2.2.2 9 _ = _
    rw [ent 5 (by omega) (by omega), ent 6 (by omega) (by omega), ent 7 (by omega) (by omega), ent 8 (by omega) (by omega), ent 9 (by omega) (by omega)]
    simp only [if_neg (show ¬ (100 * A.pgs.length ≤ 100 * p + j ∧ 100 * p + j < 100 * A.pgs.length + (pgE A.pgs q).length) by omega), and_self]
  · show s2.2.2 10 _ = _ ∧ s2.2.2 11 _ = _ ∧ s2.2.2 12 _ = _ ∧ s2.2.2 13 _ = _
    rw [shf 10 (by omega) (by omega), shf 11 (by omega) (by omega), shf 12 (by omega) (by omega), shf 13 (by omega) (by omega)]
    simp only [if_neg (show ¬ (10 * A.pgs.length ≤ 10 * p + j ∧ 10 * p + j < 10 * A.pgs.length + (pgH A.pgs q).length) by omega), and_self]
set_option maxRecDepth 10000 in
theorem r_derive {d r : Nat} {h h0 : mH} {s : rS} {A : Ab} {q : Int32} {Q : mP} (hR : Rf r h0 s h) (hI : RInv s A) (hB : PgB A.pgs) (hK : ∀ P, pgK A.pgs P < 2 ^ 31)  (Q1 : ∀ h' s', Rf r h0 s' h' → RInv s' (sp_derive A q).2 → Q (some (.int (sp_derive A q).1)) h') : mWP (d + 3) 181 [.ref r, .int q] h Q := by
  have hG := hI.1
  have hG1 := hG.1
  have hG2 := hG.2.1
  refine z_in [some (.ref r), some (.int q), none, none] (by rfl) rfl rfl rfl ?_
  refine z_aload 1 rfl rfl rfl ?_
  refine z_iload 2 rfl rfl rfl ?_
  refine z_cv1 5 rfl rfl hR.1 rfl (Nat.le_refl _) (Nat.le_refl _) ?_
  refine r_isPage hR hG.1 hG.2.1 ?_
  first | refine z_bne 8 rfl rfl (fun hc5 => ?_) (fun hc5 => ?_)
  · rw [decide_eq_true_eq] at hc5
    obtain ⟨q, hq, rfl, hq1, hq2⟩ := ix_of hc5
    obtain ⟨hg1, hg2, hT⟩ := hG.2.2 q hq
    have hW := hB q hq
    obtain ⟨hT1, hT2, hT3, hT4, hT5⟩ := id hT
    have hW1 := hW.1
    have hW2 := hW.2.1
    have hKq := hK q
    refine z_aload 15 rfl rfl rfl ?_
    refine y_ga 18 hR rfl rfl rfl ?_
    refine z_iload 19 rfl rfl rfl ?_
    refine y_al (f := 1) 20 _ hR rfl rfl rfl rfl (by omega) (by repeat (first | with_reducible exact hg1 | with_reducible exact hg2 | with_reducible exact hG1 | with_reducible exact hT2 | with_reducible exact hT3 | with_reducible exact gA_eq _ _ _ _ | (with_reducible apply gA_ne; decide) | with_reducible apply gA_I | with_reducible apply gA_O | (with_reducible apply gA_nj; omega) | with_reducible rfl)) ?_
    first | refine z_zeq 23 rfl rfl (by omega) (fun hc20 => ?_) (fun hc20 => ?_)
    · refine z_aload 31 rfl rfl rfl ?_
      refine y_ga 34 hR rfl rfl rfl ?_
      refine z_iload 35 rfl rfl rfl ?_
      refine y_bb (f := 2) 36 _ hR rfl rfl rfl rfl (by omega) (by repeat (first | with_reducible exact hg1 | with_reducible exact hg2 | with_reducible exact hG1 | with_reducible exact hT2 | with_reducible exact hT3 | with_reducible exact gA_eq _ _ _ _ | (with_reducible apply gA_ne; decide) | with_reducible apply gA_I | with_reducible apply gA_O | (with_reducible apply gA_nj; omega) | with_reducible rfl)) ?_
      first | refine z_bne 39 rfl rfl (fun hc36 => ?_) (fun hc36 => ?_)
      · refine z_aload 47 rfl rfl rfl ?_
        refine y_gi 50 _ hR rfl rfl rfl rfl rfl (by repeat (first | with_reducible exact gI_eq _ _ _ | (with_reducible apply gI_ne; decide) | with_reducible apply gI_A | with_reducible apply gI_O | with_reducible exact hg1 | with_reducible exact hg2 | with_reducible exact hG1 | with_reducible exact hT2 | with_reducible exact hT3 | with_reducible rfl)) ?_
        refine z_push 52 (nI 10) rfl rfl rfl ?_
        refine z_nne 55 rfl rfl (by omega) (by omega) (fun hc52 => ?_) (fun hc52 => ?_)
        · have hk0 : pgK A.pgs q = 0 := hc20
          have loopS : ∀ m i s1 s2 h, (pgH A.pgs q).length < i + m → i ≤ (pgH A.pgs q).length → CpI 5 9 (100 * A.pgs.length) (100 * q) (nwP A.pgs.length (pgE A.pgs q).length (pgH A.pgs q).length s) s1 (pgE A.pgs q).length → Rf r h0 s2 h → CpI 10 13 (10 * A.pgs.length) (10 * q) s1 s2 i → mZ (d + 2) tk_181 0 0 Q 141 [some (.ref r), some (.int (nI q)), some (.int (nI A.pgs.length)), some (.int (nI i))] [] h 0 0 := by
            intro m
            induction m with
            | zero => intro i s1 s2 h h1 h2; omega
            | succ m ih =>
              intro i s1 s2 h h1 h2 c1 hR c2
              have hfl : s2.2.2 4 q = (pgH A.pgs q).length := by
                rw [c2.2.2.1 4 (by omega), c1.2.2.1 4 (by omega), nwP]
                repeat (first | with_reducible exact gA_eq _ _ _ _ | (with_reducible apply gA_ne; decide) | with_reducible apply gA_I | with_reducible apply gA_O | (with_reducible apply gA_nj; omega) | with_reducible rfl | exact gA_eq _ _ _ _)
                exact hT3
              have hf0 : s2.1 0 = A.pgs.length := by rw [c2.1, c1.1]; exact hG1
              refine z_iload 142 rfl rfl rfl ?_
              refine z_aload 143 rfl rfl rfl ?_
              refine y_ga 146 hR rfl rfl rfl ?_
              refine z_iload 147 rfl rfl rfl ?_
              refine y_al (f := 4) 148 _ hR rfl rfl rfl rfl (by omega) (by repeat (first | with_reducible exact hfl | with_reducible exact hf0 | with_reducible exact gA_eq _ _ _ _ | (with_reducible apply gA_ne; decide) | with_reducible apply gA_I | with_reducible apply gA_O | (with_reducible apply gA_nj; omega) | with_reducible rfl)) ?_
              refine z_nge 151 rfl rfl (by omega) (by omega) (fun hc148 => ?_) (fun hc148 => ?_)
              · refine z_aload 174 rfl rfl rfl ?_
                first | refine z_dup 175 rfl rfl ?_ | refine z_dupi 175 rfl rfl ?_
                refine y_gi 178 _ hR rfl rfl rfl rfl rfl (by repeat (first | with_reducible exact gI_eq _ _ _ | (with_reducible apply gI_ne; decide) | with_reducible apply gI_A | with_reducible apply gI_O | with_reducible exact hfl | with_reducible exact hf0 | with_reducible rfl)) ?_
                refine z_push 179 (nI 1) rfl rfl rfl ?_
                refine z_bop 180 _ rfl rfl (by first | with_reducible exact zb_0 _ _ | exact zd_0 _ _) ?_
                refine y_pi 183 hR rfl rfl rfl rfl rfl (mFi rfl) ?_
                intro h hR
                refine z_iload 184 rfl rfl rfl ?_
                refine z_ireti rfl (Nat.le_refl _) (Nat.le_refl _) ?_
                have e9 : sp_derive A (nI q) = (nI A.pgs.length, A.wPgs (A.pgs ++ [(0, false, pgE A.pgs q, pgH A.pgs q)])) := by
                  rw [sp_derive, if_pos hc5, hq2, if_pos hk0, if_pos hc36, if_neg hc52]
                rw [e9] at Q1
                obtain rfl : i = (pgH A.pgs q).length := by omega
                exact Q1 h _ hR (hI.der hB hq (by omega) c1 c2)
              · refine z_aload 152 rfl rfl rfl ?_
                refine z_push 154 (nI 10) rfl rfl rfl ?_
                refine z_iload 155 rfl rfl rfl ?_
                refine z_bop 156 _ rfl rfl (by first | with_reducible exact zb_2 _ _ | exact zd_2 _ _) ?_
                refine z_iload 157 rfl rfl rfl ?_
                refine z_bop 158 _ rfl rfl (by first | with_reducible exact zb_0 _ _ | exact zd_0 _ _) ?_
                refine z_push 160 (nI 10) rfl rfl rfl ?_
                refine z_iload 161 rfl rfl rfl ?_
                refine z_bop 162 _ rfl rfl (by first | with_reducible exact zb_2 _ _ | exact zd_2 _ _) ?_
                refine z_iload 163 rfl rfl rfl ?_
                refine z_bop 164 _ rfl rfl (by first | with_reducible exact zb_0 _ _ | exact zd_0 _ _) ?_
                refine z_cv2 167 rfl rfl hR.1 rfl (Nat.le_refl _) (Nat.le_refl _) ?_
                refine r_copyShift hR (by omega) (by omega) ?_ (fun h hR => ?_)
                · rw [c2.2.2.2 13 (by omega) (by omega), if_neg (by omega), c1.2.2.1 13 (by omega), nwP_f (by omega), (hT5 i (by omega)).2.2.2]
                  exact b2_lt _
                refine z_iinc 170 _ rfl rfl rfl rfl (by first | with_reducible exact zi_1 _ | rfl) ?_
                refine z_goto rfl ?_
                exact ih (i + 1) s1 _ h (by omega) (by omega) c1 hR (c2.sS (by omega))
          have loopE : ∀ m i s1 h, (pgE A.pgs q).length < i + m → i ≤ (pgE A.pgs q).length → Rf r h0 s1 h → CpI 5 9 (100 * A.pgs.length) (100 * q) (nwP A.pgs.length (pgE A.pgs q).length (pgH A.pgs q).length s) s1 i → mZ (d + 2) tk_181 0 0 Q 107 [some (.ref r), some (.int (nI q)), some (.int (nI A.pgs.length)), some (.int (nI i))] [] h 0 0 := by
            intro m
            induction m with
            | zero => intro i s1 h h1 h2; omega
            | succ m ih =>
              intro i s1 h h1 h2 hR c1
              have hfl : s1.2.2 3 q = (pgE A.pgs q).length := by
                rw [c1.2.2.1 3 (by omega), nwP]
                repeat (first | with_reducible exact gA_eq _ _ _ _ | (with_reducible apply gA_ne; decide) | with_reducible apply gA_I | with_reducible apply gA_O | (with_reducible apply gA_nj; omega) | with_reducible rfl | exact gA_eq _ _ _ _)
                exact hT2
              refine z_iload 108 rfl rfl rfl ?_
              refine z_aload 109 rfl rfl rfl ?_
              refine y_ga 112 hR rfl rfl rfl ?_
              refine z_iload 113 rfl rfl rfl ?_
              refine y_al (f := 3) 114 _ hR rfl rfl rfl rfl (by omega) (by repeat (first | with_reducible exact hfl | with_reducible exact gA_eq _ _ _ _ | (with_reducible apply gA_ne; decide) | with_reducible apply gA_I | with_reducible apply gA_O | (with_reducible apply gA_nj; omega) | with_reducible rfl)) ?_
              refine z_nge 117 rfl rfl (by omega) (by omega) (fun hc114 => ?_) (fun hc114 => ?_)
              · refine z_push 140 (nI 0) rfl rfl rfl ?_
                refine z_istore 141 rfl rfl rfl rfl ?_
                obtain rfl : i = (pgE A.pgs q).length := by omega
                exact loopS ((pgH A.pgs q).length + 1) 0 s1 s1 h (by omega) (by omega) c1 hR CpI.z
              · refine z_aload 118 rfl rfl rfl ?_
                refine z_push 120 (nI 100) rfl rfl rfl ?_
                refine z_iload 121 rfl rfl rfl ?_
                refine z_bop 122 _ rfl rfl (by first | with_reducible exact zb_2 _ _ | exact zd_2 _ _) ?_
                refine z_iload 123 rfl rfl rfl ?_
                refine z_bop 124 _ rfl rfl (by first | with_reducible exact zb_0 _ _ | exact zd_0 _ _) ?_
                refine z_push 126 (nI 100) rfl rfl rfl ?_
                refine z_iload 127 rfl rfl rfl ?_
                refine z_bop 128 _ rfl rfl (by first | with_reducible exact zb_2 _ _ | exact zd_2 _ _) ?_
                refine z_iload 129 rfl rfl rfl ?_
                refine z_bop 130 _ rfl rfl (by first | with_reducible exact zb_0 _ _ | exact zd_0 _ _) ?_
                refine z_cv2 133 rfl rfl hR.1 rfl (Nat.le_refl _) (Nat.le_refl _) ?_
                refine r_copyEntry hR (by omega) (by omega) ?_ (fun h hR => ?_)
                · rw [c1.2.2.2 9 (by omega) (by omega), if_neg (by omega), nwP_f (by omega), (hT4 i (by omega)).2.2.2.2]
                  exact b2_lt _
                refine z_iinc 136 _ rfl rfl rfl rfl (by first | with_reducible exact zi_1 _ | rfl) ?_
                refine z_goto rfl ?_
                exact ih (i + 1) _ h (by omega) (by omega) hR (c1.sE (by omega))
          refine z_aload 63 rfl rfl rfl ?_
          refine y_gi 66 _ hR rfl rfl rfl rfl rfl (by repeat (first | with_reducible exact gI_eq _ _ _ | (with_reducible apply gI_ne; decide) | with_reducible apply gI_A | with_reducible apply gI_O | with_reducible exact hg1 | with_reducible exact hg2 | with_reducible exact hG1 | with_reducible exact hT2 | with_reducible exact hT3 | with_reducible rfl)) ?_
          refine z_istore 67 rfl rfl rfl rfl ?_
          refine z_aload 68 rfl rfl rfl ?_
          refine y_ga 71 hR rfl rfl rfl ?_
          refine z_iload 72 rfl rfl rfl ?_
          refine z_push 73 (nI 0) rfl rfl rfl ?_
          refine y_as (f := 1) 74 hR rfl rfl rfl rfl (by omega) ?_
          intro h hR
          refine z_aload 75 rfl rfl rfl ?_
          refine y_ga 78 hR rfl rfl rfl ?_
          refine z_iload 79 rfl rfl rfl ?_
          refine z_push 80 (nI 0) rfl rfl rfl ?_
          refine y_bs (f := 2) 81 hR rfl rfl rfl rfl (by omega) (by decide) ?_
          intro h hR
          refine z_aload 82 rfl rfl rfl ?_
          refine y_ga 85 hR rfl rfl rfl ?_
          refine z_iload 86 rfl rfl rfl ?_
          refine z_aload 87 rfl rfl rfl ?_
          refine y_ga 90 hR rfl rfl rfl ?_
          refine z_iload 91 rfl rfl rfl ?_
          refine y_al (f := 3) 92 _ hR rfl rfl rfl rfl (by omega) (by repeat (first | with_reducible exact hg1 | with_reducible exact hg2 | with_reducible exact hG1 | with_reducible exact hT2 | with_reducible exact hT3 | with_reducible exact gA_eq _ _ _ _ | (with_reducible apply gA_ne; decide) | with_reducible apply gA_I | with_reducible apply gA_O | (with_reducible apply gA_nj; omega) | with_reducible rfl)) ?_
          refine y_as (f := 3) 93 hR rfl rfl rfl rfl (by omega) ?_
          intro h hR
          refine z_aload 94 rfl rfl rfl ?_
          refine y_ga 97 hR rfl rfl rfl ?_
          refine z_iload 98 rfl rfl rfl ?_
          refine z_aload 99 rfl rfl rfl ?_
          refine y_ga 102 hR rfl rfl rfl ?_
          refine z_iload 103 rfl rfl rfl ?_
          refine y_al (f := 4) 104 _ hR rfl rfl rfl rfl (by omega) (by repeat (first | with_reducible exact hg1 | with_reducible exact hg2 | with_reducible exact hG1 | with_reducible exact hT2 | with_reducible exact hT3 | with_reducible exact gA_eq _ _ _ _ | (with_reducible apply gA_ne; decide) | with_reducible apply gA_I | with_reducible apply gA_O | (with_reducible apply gA_nj; omega) | with_reducible rfl)) ?_
          refine y_as (f := 4) 105 hR rfl rfl rfl rfl (by omega) ?_
          intro h hR
          refine z_push 106 (nI 0) rfl rfl rfl ?_
          refine z_istore 107 rfl rfl rfl rfl ?_
          exact loopE ((pgE A.pgs q).length + 1) 0 _ h (by omega) (by omega) hR CpI.z
        · refine z_aload 56 rfl rfl rfl ?_
          refine z_push 58 (-6) rfl rfl rfl ?_
          refine z_cv1 61 rfl rfl hR.1 rfl (Nat.le_refl _) (Nat.le_refl _) ?_
          refine r_tell hR (fun h9 => absurd h9 (by decide)) (fun _ h hR => ?_)
          refine z_ireti rfl (Nat.le_refl _) (Nat.le_refl _) ?_
          have e9 : sp_derive A (nI q) = (-6, A.tell) := by rw [sp_derive, if_pos hc5, hq2, if_pos hc20, if_pos hc36, if_pos hc52]
          rw [e9] at Q1
          exact Q1 h _ hR hI.tell
      · refine z_aload 40 rfl rfl rfl ?_
        refine z_push 42 (-5) rfl rfl rfl ?_
        refine z_cv1 45 rfl rfl hR.1 rfl (Nat.le_refl _) (Nat.le_refl _) ?_
        refine r_tell hR (fun h9 => absurd h9 (by decide)) (fun _ h hR => ?_)
        refine z_ireti rfl (Nat.le_refl _) (Nat.le_refl _) ?_
        have e9 : sp_derive A (nI q) = (-5, A.tell) := by rw [sp_derive, if_pos hc5, hq2, if_pos hc20, if_neg (by rw [hc36]; decide)]
        rw [e9] at Q1
        exact Q1 h _ hR hI.tell
    · refine z_aload 24 rfl rfl rfl ?_
      refine z_push 26 (-3) rfl rfl rfl ?_
      refine z_cv1 29 rfl rfl hR.1 rfl (Nat.le_refl _) (Nat.le_refl _) ?_
      refine r_tell hR (fun h9 => absurd h9 (by decide)) (fun _ h hR => ?_)
      refine z_ireti rfl (Nat.le_refl _) (Nat.le_refl _) ?_
      have e9 : sp_derive A (nI q) = (-3, A.tell) := by rw [sp_derive, if_pos hc5, hq2, if_neg hc20]
      rw [e9] at Q1
      exact Q1 h _ hR hI.tell
  · refine z_aload 9 rfl rfl rfl ?_
    refine z_push 10 (-1) rfl rfl rfl ?_
    refine z_cv1 13 rfl rfl hR.1 rfl (Nat.le_refl _) (Nat.le_refl _) ?_
    refine r_tell hR (fun h9 => absurd h9 (by decide)) (fun _ h hR => ?_)
    refine z_ireti rfl (Nat.le_refl _) (Nat.le_refl _) ?_
    rw [decide_eq_false_iff_not] at hc5
    have e9 : sp_derive A q = (-1, A.tell) := if_neg hc5
    rw [e9] at Q1
    exact Q1 h _ hR hI.tell
