/-! the reference: receive -/
theorem RInv.pg2 {s s' : rS} {A : Ab} {l : List Pg} (h : RInv s A) (h1 : ∀ c, rPers c = true → c ≠ 0 → s'.1 c = s.1 c) (h22 : s'.1 22 = s.1 22) (h2 : ∀ f, rPers f = true → 13 < f → s'.2.2 f = s.2.2 f) (hp : RPg s' l) : RInv s' (A.wPgs l) := by
  obtain ⟨a1, a2, a3, a4, a5, a6, a7, a8, a9, a10, a11⟩ := h
  refine ⟨hp, ?_, ?_, ?_, ?_, ?_, fun d hd => ⟨fun e => ?_, fun m e => ?_⟩, h22.trans a8, ?_, (h1 24 rfl (by decide)).trans a10, (h1 48 rfl (by decide)).trans a11⟩
  · simp only [RBy, h1 14 rfl (by decide), h2 15 rfl (by decide)]; exact a2
  · simp only [RUn, h1 16 rfl (by decide), h2 17 rfl (by decide)]; exact a3
  · simp only [RRe, h1 18 rfl (by decide), h1 19 rfl (by decide), h2 20 rfl (by decide)]; exact a4
  · simp only [RSg, h2 21 rfl (by decide)]; exact a5
  · simp only [RFb, h1 25 rfl (by decide), h2 26 rfl (by decide), h2 27 rfl (by decide), h2 28 rfl (by decide)]; exact a6
  · rw [h2 52 rfl (by decide)]; exact (a7 d hd).1 e
  · have := (a7 d hd).2 m e
    simp only [RM1, h2 52 rfl (by decide), h2 53 rfl (by decide), h2 54 rfl (by decide), h2 55 rfl (by decide), h2 56 rfl (by decide), h2 57 rfl (by decide), h2 58 rfl (by decide), h2 59 rfl (by decide), h2 60 rfl (by decide), h2 61 rfl (by decide), h2 62 rfl (by decide), h2 63 rfl (by decide)]
    exact this
  · simp only [RBk, h2 23 rfl (by decide)]; exact a9
theorem rP_ne2 {c : Nat} (h : rPers c = true) : c ≠ 67 ∧ c ≠ 68 ∧ c ≠ 29 ∧ c ≠ 30 := by
  refine ⟨?_, ?_, ?_, ?_⟩ <;> (intro e; subst e; exact absurd h (by decide))
theorem RInv.tk {s s' : rS} {A : Ab} (hI : RInv s A) (hB : PgB A.pgs) (h : Tk A.pgs.length s s') : RInv s' A := by
  have h9 := hI.pg2 (s' := s') (l := A.pgs) (fun c hc _ => h.1 c (rP_ne2 hc).1 (rP_ne2 hc).2.1) (h.1 22 (by decide) (by decide)) (fun f hf h13 => h.2.1 f h13 (rP_ne2 hf).2.2.1 (rP_ne2 hf).2.2.2) ?_
  · exact h9
  · refine ⟨(h.1 0 (by decide) (by decide)).trans hI.1.1, hI.1.2.1, fun p hp => ?_⟩
    obtain ⟨g1, g2, g3⟩ := hI.1.2.2 p hp
    exact ⟨by rw [h.2.2.1]; exact g1, by rw [h.2.2.2.1]; exact g2, g3.same (h.2.2.2.2 p (by omega)) (hB p hp).1 (hB p hp).2.1⟩
theorem RInv.rcv {s s' : rS} {A : Ab} {E : List En} {H : List Sh} (hI : RInv s A) (hB : PgB A.pgs) (hl : A.pgs.length < 10) (h : Tk A.pgs.length s s') (hT : TbR s' A.pgs.length E H) : RInv (stI 0 (A.pgs.length + 1) (stA 2 A.pgs.length 1 (stA 1 A.pgs.length 0 s'))) (A.wPgs (A.pgs ++ [(0, true, E, H)])) := by
  refine hI.pg2 (fun c hc h0 => ?_) ?_ (fun f hf h13 => ?_) ?_
  · exact gI_ne h0 (h.1 c (rP_ne2 hc).1 (rP_ne2 hc).2.1)
  · exact gI_ne (by decide) (h.1 22 (by decide) (by decide))
  · show (stA 2 _ 1 (stA 1 _ 0 s')).2.2 f = _
    rw [gAf (by omega), gAf (by omega)]; exact h.2.1 f h13 (rP_ne2 hf).2.2.1 (rP_ne2 hf).2.2.2
  · have e : ∀ f, f ≠ 1 → f ≠ 2 → (stI 0 (A.pgs.length + 1) (stA 2 A.pgs.length 1 (stA 1 A.pgs.length 0 s'))).2.2 f = s'.2.2 f := fun f h1 h2 => by
      show (stA 2 _ 1 (stA 1 _ 0 s')).2.2 f = _
      rw [gAf h2, gAf h1]
    refine hI.1.add hB hl (gI_eq _ _ _) ?_ ?_ ?_ (fun p hp => ⟨?_, ?_, ?_⟩)
    · show (stA 2 _ 1 (stA 1 _ 0 s')).2.2 1 _ = _
      rw [gAf (by decide), gA_eq]
    · show (stA 2 _ 1 (stA 1 _ 0 s')).2.2 2 _ = _
      rw [gA_eq]; rfl
    · unfold TbR
      rw [e 3 (by decide) (by decide), e 4 (by decide) (by decide), e 5 (by decide) (by decide), e 6 (by decide) (by decide), e 7 (by decide) (by decide), e 8 (by decide) (by decide), e 9 (by decide) (by decide), e 10 (by decide) (by decide), e 11 (by decide) (by decide), e 12 (by decide) (by decide), e 13 (by decide) (by decide)]
      exact hT
    · show (stA 2 _ 1 (stA 1 _ 0 s')).2.2 1 _ = _
      rw [gAf (by decide), gA_nj (by omega) rfl, h.2.2.1]
    · show (stA 2 _ 1 (stA 1 _ 0 s')).2.2 2 _ = _
      rw [gA_nj (by omega) rfl, gAf (by decide), h.2.2.2.1]
    · have h9 := h.2.2.2.2 p (by omega)
      unfold SameTb at h9 ⊢
      rw [e 3 (by decide) (by decide), e 4 (by decide) (by decide), e 5 (by decide) (by decide), e 6 (by decide) (by decide), e 7 (by decide) (by decide), e 8 (by decide) (by decide), e 9 (by decide) (by decide), e 10 (by decide) (by decide), e 11 (by decide) (by decide), e 12 (by decide) (by decide), e 13 (by decide) (by decide)]
      exact h9
def rcS9 (A : Ab) : Bool := decide (4 ≤ A.bys.length ∧ smN A.bys (A.bys.length - 2) % 65521 = A.bys.getD (A.bys.length - 2) 0 * 2 ^ 8 + A.bys.getD (A.bys.length - 1) 0)
def sp_receive (A : Ab) : Int32 × Ab :=
  if A.pgs.length = 10 then (-6, A.tell) else if rcS9 A = true then
    match tiA (A.bys.take (A.bys.length - 2)) with
    | none => (-8, A.tell)
    | some x => (nI A.pgs.length, A.wPgs (A.pgs ++ [(0, true, x.1, x.2)]))
  else (-13, A.tell)
theorem getD_take9 {l : List Nat} {n j : Nat} : (l.take n).getD j 0 = if j < n then l.getD j 0 else 0 := by
  rw [List.getD_eq_getElem?_getD, List.getElem?_take]
  split
  · rw [← List.getD_eq_getElem?_getD]
  · rfl
set_option maxRecDepth 100000 in
theorem r_receive {d r : Nat} {h h0 : mH} {s : rS} {A : Ab} {Q : mP} (hR : Rf r h0 s h) (hI : RInv s A) (hA : AbW A)  (q : ∀ h' s', Rf r h0 s' h' → RInv s' (sp_receive A).2 → Q (some (.int (sp_receive A).1)) h') : mWP (d + 5) 259 [.ref r] h Q := by
  have f0 : s.1 0 = A.pgs.length := hI.1.1
  have f14 : s.1 14 = A.bys.length := hI.2.1.1
  have f16 : s.1 16 = A.uns.length := hI.2.2.1.1
  have f18 : s.1 18 = A.res.2.length := hI.2.2.2.1.1
  have f19 : s.1 19 = A.res.1 := hI.2.2.2.1.2.2.1
  have f22 : s.1 22 = A.plc := hI.2.2.2.2.2.2.2.1
  have f24 : s.1 24 = A.fnd := hI.2.2.2.2.2.2.2.2.2.1
  have f25 : s.1 25 = A.fbs.length := hI.2.2.2.2.2.1.1
  have f48 : s.1 48 = 0 := hI.2.2.2.2.2.2.2.2.2.2
  have l0 : A.pgs.length ≤ 10 := hI.1.2.1
  have l14 : A.bys.length ≤ 1000 := hI.2.1.2.1
  have l16 : A.uns.length ≤ 1000 := hI.2.2.1.2.1
  have l18 : A.res.2.length ≤ 6000 := hI.2.2.2.1.2.1
  have l25 : A.fbs.length ≤ 40 := hI.2.2.2.2.2.1.2.1
  have hb := hA.2.2.2.1
  have hB := hA.1
  have ky : ∀ j, j < A.bys.length → s.2.2 15 j = A.bys.getD j 0 := fun j hj => by have := hI.2.1.2.2 j hj; rw [Nat.zero_add] at this; exact this
  refine z_in [some (.ref r)] (by rfl) rfl rfl rfl ?_
  refine z_aload 1 rfl rfl rfl ?_
  refine y_gi 4 _ hR rfl rfl rfl rfl rfl (by repeat (first | with_reducible exact gI_eq _ _ _ | (with_reducible apply gI_ne; decide) | with_reducible apply gI_A | with_reducible apply gI_O | with_reducible exact f0 | with_reducible exact f14 | with_reducible exact f16 | with_reducible exact f18 | with_reducible exact f19 | with_reducible exact f22 | with_reducible exact f24 | with_reducible exact f25 | with_reducible exact f48 | with_reducible exact ky (A.bys.length - 2) (by omega) | with_reducible exact ky (A.bys.length - 1) (by omega) | with_reducible exact g0 | with_reducible rfl)) ?_
  refine z_push 6 (nI 10) rfl rfl rfl ?_
  refine z_nne 9 rfl rfl (by omega) (by omega) (fun hc6 => ?_) (fun hc6 => ?_)
  · refine z_aload 17 rfl rfl rfl ?_
    refine y_gi 20 _ hR rfl rfl rfl rfl rfl (by repeat (first | with_reducible exact gI_eq _ _ _ | (with_reducible apply gI_ne; decide) | with_reducible apply gI_A | with_reducible apply gI_O | with_reducible exact f0 | with_reducible exact f14 | with_reducible exact f16 | with_reducible exact f18 | with_reducible exact f19 | with_reducible exact f22 | with_reducible exact f24 | with_reducible exact f25 | with_reducible exact f48 | with_reducible exact ky (A.bys.length - 2) (by omega) | with_reducible exact ky (A.bys.length - 1) (by omega) | with_reducible exact g0 | with_reducible rfl)) ?_
    refine z_push 21 (nI 4) rfl rfl rfl ?_
    refine z_nlt 24 rfl rfl (by omega) (by omega) (fun hc21 => ?_) (fun hc21 => ?_)
    · refine z_aload 68 rfl rfl rfl ?_
      refine z_push 70 (-13) rfl rfl rfl ?_
      refine z_cv1 73 rfl rfl hR.1 rfl (Nat.le_refl _) (Nat.le_refl _) ?_
      refine r_tell hR (fun h9 => absurd h9 (by decide)) (fun _ h hR => ?_)
      refine z_ireti rfl (Nat.le_refl _) (Nat.le_refl _) ?_
      have e9 : sp_receive A = (-13, A.tell) := by rw [sp_receive, if_neg (by omega), if_neg (fun h9 => absurd (of_decide_eq_true h9).1 (by omega))]
      rw [e9] at q
      exact q h _ hR hI.tell
    · refine z_aload 25 rfl rfl rfl ?_
      refine z_aload 26 rfl rfl rfl ?_
      refine y_ga 29 hR rfl rfl rfl ?_
      refine z_aload 30 rfl rfl rfl ?_
      refine y_gi 33 _ hR rfl rfl rfl rfl rfl (by repeat (first | with_reducible exact gI_eq _ _ _ | (with_reducible apply gI_ne; decide) | with_reducible apply gI_A | with_reducible apply gI_O | with_reducible exact f0 | with_reducible exact f14 | with_reducible exact f16 | with_reducible exact f18 | with_reducible exact f19 | with_reducible exact f22 | with_reducible exact f24 | with_reducible exact f25 | with_reducible exact f48 | with_reducible exact ky (A.bys.length - 2) (by omega) | with_reducible exact ky (A.bys.length - 1) (by omega) | with_reducible exact g0 | with_reducible rfl)) ?_
      refine z_push 34 (nI 2) rfl rfl rfl ?_
      refine z_bop 35 _ rfl rfl (by first | with_reducible exact zb_1 (by omega) | exact zd_1 _ _) ?_
      refine z_cv2 38 rfl rfl hR.1 rfl (Nat.le_refl _) (Nat.le_refl _) ?_
      refine r_sumOf (n := A.bys.length - 2) (bs := A.bys) hR (fun j hj => ky j (by omega)) rfl (by omega) (by omega) hb ?_
      have hv1 := hb (A.bys.length - 2)
      have hv2 := hb (A.bys.length - 1)
      have hsm : smN A.bys (A.bys.length - 2) % 65521 < 65521 := Nat.mod_lt _ (by decide)
      refine z_aload 39 rfl rfl rfl ?_
      refine y_ga 42 hR rfl rfl rfl ?_
      refine z_aload 43 rfl rfl rfl ?_
      refine y_gi 46 _ hR rfl rfl rfl rfl rfl (by repeat (first | with_reducible exact gI_eq _ _ _ | (with_reducible apply gI_ne; decide) | with_reducible apply gI_A | with_reducible apply gI_O | with_reducible exact f0 | with_reducible exact f14 | with_reducible exact f16 | with_reducible exact f18 | with_reducible exact f19 | with_reducible exact f22 | with_reducible exact f24 | with_reducible exact f25 | with_reducible exact f48 | with_reducible exact ky (A.bys.length - 2) (by omega) | with_reducible exact ky (A.bys.length - 1) (by omega) | with_reducible exact g0 | with_reducible rfl)) ?_
      refine z_push 47 (nI 2) rfl rfl rfl ?_
      refine z_bop 48 _ rfl rfl (by first | with_reducible exact zb_1 (by omega) | exact zd_1 _ _) ?_
      refine y_al (f := 15) 49 _ hR rfl rfl rfl rfl (by omega) (by repeat (first | with_reducible exact f0 | with_reducible exact f14 | with_reducible exact f16 | with_reducible exact f18 | with_reducible exact f19 | with_reducible exact f22 | with_reducible exact f24 | with_reducible exact f25 | with_reducible exact f48 | with_reducible exact ky (A.bys.length - 2) (by omega) | with_reducible exact ky (A.bys.length - 1) (by omega) | with_reducible exact g0 | with_reducible exact gA_eq _ _ _ _ | (with_reducible apply gA_ne; decide) | with_reducible apply gA_I | with_reducible apply gA_O | (with_reducible apply gA_nj; omega) | with_reducible rfl)) ?_
      refine z_push 51 (nI 8) rfl rfl rfl ?_
      refine z_bop 52 _ rfl rfl (shl_n 8 (by decide) (by have := hb (A.bys.length - 2); omega)) ?_
      refine z_aload 53 rfl rfl rfl ?_
      refine y_ga 56 hR rfl rfl rfl ?_
      refine z_aload 57 rfl rfl rfl ?_
      refine y_gi 60 _ hR rfl rfl rfl rfl rfl (by repeat (first | with_reducible exact gI_eq _ _ _ | (with_reducible apply gI_ne; decide) | with_reducible apply gI_A | with_reducible apply gI_O | with_reducible exact f0 | with_reducible exact f14 | with_reducible exact f16 | with_reducible exact f18 | with_reducible exact f19 | with_reducible exact f22 | with_reducible exact f24 | with_reducible exact f25 | with_reducible exact f48 | with_reducible exact ky (A.bys.length - 2) (by omega) | with_reducible exact ky (A.bys.length - 1) (by omega) | with_reducible exact g0 | with_reducible rfl)) ?_
      refine z_push 61 (nI 1) rfl rfl rfl ?_
      refine z_bop 62 _ rfl rfl (by first | with_reducible exact zb_1 (by omega) | exact zd_1 _ _) ?_
      refine y_al (f := 15) 63 _ hR rfl rfl rfl rfl (by omega) (by repeat (first | with_reducible exact f0 | with_reducible exact f14 | with_reducible exact f16 | with_reducible exact f18 | with_reducible exact f19 | with_reducible exact f22 | with_reducible exact f24 | with_reducible exact f25 | with_reducible exact f48 | with_reducible exact ky (A.bys.length - 2) (by omega) | with_reducible exact ky (A.bys.length - 1) (by omega) | with_reducible exact g0 | with_reducible exact gA_eq _ _ _ _ | (with_reducible apply gA_ne; decide) | with_reducible apply gA_I | with_reducible apply gA_O | (with_reducible apply gA_nj; omega) | with_reducible rfl)) ?_
      refine z_bop 64 _ rfl rfl (or_n (k := 8) (by omega) (hb _)) ?_
      refine z_neq 67 rfl rfl (by omega) (by omega) (fun hc64 => ?_) (fun hc64 => ?_)
      · have htl : (A.bys.take (A.bys.length - 2)).length = A.bys.length - 2 := by rw [List.length_take]; omega
        have htb : ∀ j, (A.bys.take (A.bys.length - 2)).getD j 0 < 256 := fun j => by
          rw [getD_take9]
          split
          · exact hb j
          · decide
        have hr9 : rcS9 A = true := decide_eq_true ⟨by omega, hc64⟩
        refine z_aload 75 rfl rfl rfl ?_
        refine z_aload 76 rfl rfl rfl ?_
        refine y_gi 79 _ hR rfl rfl rfl rfl rfl (by repeat (first | with_reducible exact gI_eq _ _ _ | (with_reducible apply gI_ne; decide) | with_reducible apply gI_A | with_reducible apply gI_O | with_reducible exact f0 | with_reducible exact f14 | with_reducible exact f16 | with_reducible exact f18 | with_reducible exact f19 | with_reducible exact f22 | with_reducible exact f24 | with_reducible exact f25 | with_reducible exact f48 | with_reducible exact ky (A.bys.length - 2) (by omega) | with_reducible exact ky (A.bys.length - 1) (by omega) | with_reducible exact g0 | with_reducible rfl)) ?_
        refine z_cv1 82 rfl rfl hR.1 rfl (Nat.le_refl _) (Nat.le_refl _) ?_
        refine r_takeIn (bs := A.bys.take (A.bys.length - 2)) hR (by omega) (by rw [htl]; omega) htb (fun j hj => by rw [htl] at hj; rw [ky j (by omega), getD_take9, if_pos hj]) f14 (by rw [htl]; omega) (fun he h s2 hR hK => ?_) (fun E H he h s2 hR hK hT => ?_)
        · 
          refine z_zne 85 rfl rfl (by omega) (fun h9 => absurd h9 (by omega)) (fun _ => ?_)
          refine z_aload 86 rfl rfl rfl ?_
          refine z_push 88 (-8) rfl rfl rfl ?_
          refine z_cv1 91 rfl rfl hR.1 rfl (Nat.le_refl _) (Nat.le_refl _) ?_
          refine r_tell hR (fun h9 => absurd h9 (by decide)) (fun _ h hR => ?_)
          refine z_ireti rfl (Nat.le_refl _) (Nat.le_refl _) ?_
          have e9 : sp_receive A = (-8, A.tell) := by rw [sp_receive, if_neg (by omega), if_pos hr9, he]
          rw [e9] at q
          exact q h _ hR (hI.tk hB hK).tell
        · have g0 : s2.1 0 = A.pgs.length := (hK.1 0 (by decide) (by decide)).trans f0
          refine z_zne 85 rfl rfl (by omega) (fun _ => ?_) (fun h9 => absurd h9 (by omega))
          refine z_aload 93 rfl rfl rfl ?_
          refine y_ga 96 hR rfl rfl rfl ?_
          refine z_aload 97 rfl rfl rfl ?_
          refine y_gi 100 _ hR rfl rfl rfl rfl rfl (by repeat (first | with_reducible exact gI_eq _ _ _ | (with_reducible apply gI_ne; decide) | with_reducible apply gI_A | with_reducible apply gI_O | with_reducible exact f0 | with_reducible exact f14 | with_reducible exact f16 | with_reducible exact f18 | with_reducible exact f19 | with_reducible exact f22 | with_reducible exact f24 | with_reducible exact f25 | with_reducible exact f48 | with_reducible exact ky (A.bys.length - 2) (by omega) | with_reducible exact ky (A.bys.length - 1) (by omega) | with_reducible exact g0 | with_reducible rfl)) ?_
          refine z_push 101 (nI 0) rfl rfl rfl ?_
          refine y_as (f := 1) 102 hR rfl rfl rfl rfl (by omega) ?_
          intro h hR
          refine z_aload 103 rfl rfl rfl ?_
          refine y_ga 106 hR rfl rfl rfl ?_
          refine z_aload 107 rfl rfl rfl ?_
          refine y_gi 110 _ hR rfl rfl rfl rfl rfl (by repeat (first | with_reducible exact gI_eq _ _ _ | (with_reducible apply gI_ne; decide) | with_reducible apply gI_A | with_reducible apply gI_O | with_reducible exact f0 | with_reducible exact f14 | with_reducible exact f16 | with_reducible exact f18 | with_reducible exact f19 | with_reducible exact f22 | with_reducible exact f24 | with_reducible exact f25 | with_reducible exact f48 | with_reducible exact ky (A.bys.length - 2) (by omega) | with_reducible exact ky (A.bys.length - 1) (by omega) | with_reducible exact g0 | with_reducible rfl)) ?_
          refine z_push 111 (nI 1) rfl rfl rfl ?_
          refine y_bs (f := 2) 112 hR rfl rfl rfl rfl (by omega) (by decide) ?_
          intro h hR
          refine z_aload 113 rfl rfl rfl ?_
          first | refine z_dup 114 rfl rfl ?_ | refine z_dupi 114 rfl rfl ?_
          refine y_gi 117 _ hR rfl rfl rfl rfl rfl (by repeat (first | with_reducible exact gI_eq _ _ _ | (with_reducible apply gI_ne; decide) | with_reducible apply gI_A | with_reducible apply gI_O | with_reducible exact f0 | with_reducible exact f14 | with_reducible exact f16 | with_reducible exact f18 | with_reducible exact f19 | with_reducible exact f22 | with_reducible exact f24 | with_reducible exact f25 | with_reducible exact f48 | with_reducible exact ky (A.bys.length - 2) (by omega) | with_reducible exact ky (A.bys.length - 1) (by omega) | with_reducible exact g0 | with_reducible rfl)) ?_
          refine z_push 118 (nI 1) rfl rfl rfl ?_
          refine z_bop 119 _ rfl rfl (by first | with_reducible exact zb_0 _ _ | exact zd_0 _ _) ?_
          refine y_pi 122 hR rfl rfl rfl rfl rfl (mFi rfl) ?_
          intro h hR
          refine z_aload 123 rfl rfl rfl ?_
          refine y_gi 126 _ hR rfl rfl rfl rfl rfl (by repeat (first | with_reducible exact gI_eq _ _ _ | (with_reducible apply gI_ne; decide) | with_reducible apply gI_A | with_reducible apply gI_O | with_reducible exact f0 | with_reducible exact f14 | with_reducible exact f16 | with_reducible exact f18 | with_reducible exact f19 | with_reducible exact f22 | with_reducible exact f24 | with_reducible exact f25 | with_reducible exact f48 | with_reducible exact ky (A.bys.length - 2) (by omega) | with_reducible exact ky (A.bys.length - 1) (by omega) | with_reducible exact g0 | with_reducible rfl)) ?_
          refine z_push 127 (nI 1) rfl rfl rfl ?_
          refine z_bop 128 _ rfl rfl (by first | with_reducible exact zb_1 (by omega) | exact zd_1 _ _) ?_
          refine z_ireti rfl (Nat.le_refl _) (Nat.le_refl _) ?_
          have e9 : sp_receive A = (nI A.pgs.length, A.wPgs (A.pgs ++ [(0, true, E, H)])) := by rw [sp_receive, if_neg (by omega), if_pos hr9, he]
          rw [e9] at q
          rw [show A.pgs.length + 1 - 1 = A.pgs.length by omega]
          exact q h _ hR (hI.rcv hB (by omega) hK hT)
      · refine z_aload 68 rfl rfl rfl ?_
        refine z_push 70 (-13) rfl rfl rfl ?_
        refine z_cv1 73 rfl rfl hR.1 rfl (Nat.le_refl _) (Nat.le_refl _) ?_
        refine r_tell hR (fun h9 => absurd h9 (by decide)) (fun _ h hR => ?_)
        refine z_ireti rfl (Nat.le_refl _) (Nat.le_refl _) ?_
        have e9 : sp_receive A = (-13, A.tell) := by rw [sp_receive, if_neg (by omega), if_neg (fun h9 => hc64 (of_decide_eq_true h9).2)]
        rw [e9] at q
        exact q h _ hR hI.tell
  · refine z_aload 10 rfl rfl rfl ?_
    refine z_push 12 (-6) rfl rfl rfl ?_
    refine z_cv1 15 rfl rfl hR.1 rfl (Nat.le_refl _) (Nat.le_refl _) ?_
    refine r_tell hR (fun h9 => absurd h9 (by decide)) (fun _ h hR => ?_)
    refine z_ireti rfl (Nat.le_refl _) (Nat.le_refl _) ?_
    have e9 : sp_receive A = (-6, A.tell) := if_pos hc6
    rw [e9] at q
    exact q h _ hR hI.tell
