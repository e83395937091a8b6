/-! the reference: encode, transcode, lengths -/
def AbW (A : Ab) : Prop := PgB A.pgs ∧ (∀ P, P < A.pgs.length → pgK A.pgs P < 4) ∧ (∀ P, P < A.pgs.length → pgC A.pgs P = true → Gd (pgK A.pgs P) (pgE A.pgs P) (pgH A.pgs P)) ∧ (∀ j, A.bys.getD j 0 < 256) ∧ (∀ j, A.uns.getD j 0 < 65536) ∧ nPt A.sgn.1 = true ∧ nPt A.sgn.2 = true ∧ FbW A.fbs ∧ ∀ x, Fdp A.fbs 40 x
theorem rcS_0 {s g : Nat → Nat} {kf : Nat → Bool} {r i : Nat} (h : r.testBit 0 = true) : (rcS s g kf r i).testBit 0 = true := by
  unfold rcS
  split
  · rw [Nat.testBit_or, h]; rfl
  · exact h
theorem rcF_0 {s g : Nat → Nat} {kf : Nat → Bool} : ∀ (m i r : Nat), r.testBit 0 = true → (rcF s g kf m i r).testBit 0 = true
  | 0, _, _, h => h
  | m + 1, i, _, h => rcF_0 m (i + 1) _ (rcS_0 h)
theorem rcK_0 {s g : Nat → Nat} {kf : Nat → Bool} {c : Nat} : ∀ (k r : Nat), r.testBit 0 = true → (rcK s g kf c k r).testBit 0 = true
  | 0, _, h => h
  | k + 1, _, h => rcK_0 k _ (rcF_0 c 0 _ h)
theorem Rs0 (H : List Sh) : Rs H 0 := ⟨by decide, rcK_0 4 1 (by decide)⟩
theorem SOk0 (K : Nat) (H : List Sh) : SOk K H 0 := ⟨by decide, fun _ => Rs0 H⟩
def wrPg (A : Ab) (P rule : Nat) (us : List Nat) (m st : Nat) : Nat × Nat × List Nat := wrAll A.fbs (pgK A.pgs P) (pgE A.pgs P) (pgH A.pgs P) rule A.sgn.2 us m st
/-- the answer of what was written -/
def enR (A : Ab) (x : Nat × Nat × List Nat) : Int32 × Ab := if x.1 = 0 then (nI x.2.2.length, A.wRes (2, x.2.2)) else if x.1 = 1 then (-10, (A.wPlc x.2.1).tell) else (-6, A.tell)
def sp_encode (A : Ab) (p ru : Int32) : Int32 × Ab :=
  if 0 ≤ p.toInt ∧ p.toInt < A.pgs.length then
    if pgC A.pgs p.toInt.toNat = true then
      if 0 ≤ ru.toInt ∧ ru.toInt ≤ 4 then enR A (wrPg A p.toInt.toNat ru.toInt.toNat A.uns 6000 0)
      else (-1, A.tell)
    else (-5, A.tell)
  else (-1, A.tell)
def sp_transcode (A : Ab) (p ru q by' : Int32) : Int32 × Ab :=
  if (0 ≤ p.toInt ∧ p.toInt < A.pgs.length) ∧ (0 ≤ q.toInt ∧ q.toInt < A.pgs.length) then
    if pgC A.pgs p.toInt.toNat = true ∧ pgC A.pgs q.toInt.toNat = true then
      if (0 ≤ ru.toInt ∧ ru.toInt ≤ 3) ∧ (0 ≤ by'.toInt ∧ by'.toInt ≤ 4) then
        match (rdPg A p.toInt.toNat ru.toInt.toNat).1 with
        | some a => (-9, (A.wPlc a).tell)
        | none => enR A (wrPg A q.toInt.toNat by'.toInt.toNat (rdPg A p.toInt.toNat ru.toInt.toNat).2.1 6000 0)
      else (-1, A.tell)
    else (-5, A.tell)
  else (-1, A.tell)
theorem wA6 : wO 45 27 6400 6000 false := ⟨rfl, fun _ => by decide, by decide, Or.inl rfl⟩
theorem wA1 : wO 45 27 6400 1000000 true := ⟨rfl, fun h => absurd h (by decide), by decide, Or.inl rfl⟩
set_option maxRecDepth 100000 in
theorem r_encode {d r : Nat} {h h0 : mH} {s : rS} {A : Ab} {p ru : Int32} {Q : mP} (hR : Rf r h0 s h) (hI : RInv s A) (hAW : AbW A)  (q : ∀ h' s', Rf r h0 s' h' → RInv s' (sp_encode A p ru).2 → Q (some (.int (sp_encode A p ru).1)) h') : mWP (d + 55) 230 [.ref r, .int p, .int ru] h Q := by
  have hG := hI.1
  have hG2 := hG.2.1
  obtain ⟨hB, hK, hGd, hbb, hub, hs1, hs2, hFW, hFd⟩ := hAW
  have f0 : s.1 0 = A.pgs.length := hI.1.1
  have f14 : s.1 14 = A.bys.length := hI.2.1.1
  have f16 : s.1 16 = A.uns.length := hI.2.2.1.1
  have f18 : s.1 18 = A.res.2.length := hI.2.2.2.1.1
  have f19 : s.1 19 = A.res.1 := hI.2.2.2.1.2.2.1
  have f22 : s.1 22 = A.plc := hI.2.2.2.2.2.2.2.1
  have f24 : s.1 24 = A.fnd := hI.2.2.2.2.2.2.2.2.2.1
  have f25 : s.1 25 = A.fbs.length := hI.2.2.2.2.2.1.1
  have f48 : s.1 48 = 0 := hI.2.2.2.2.2.2.2.2.2.2
  have l0 : A.pgs.length ≤ 10 := hI.1.2.1
  have l14 : A.bys.length ≤ 1000 := hI.2.1.2.1
  have l16 : A.uns.length ≤ 1000 := hI.2.2.1.2.1
  have l18 : A.res.2.length ≤ 6000 := hI.2.2.2.1.2.1
  have l25 : A.fbs.length ≤ 40 := hI.2.2.2.2.2.1.2.1
  refine z_in [some (.ref r), some (.int p), some (.int ru), none] (by rfl) rfl rfl rfl ?_
  refine z_aload 1 rfl rfl rfl ?_
  refine z_iload 2 rfl rfl rfl ?_
  refine z_cv1 5 rfl rfl hR.1 rfl (Nat.le_refl _) (Nat.le_refl _) ?_
  refine r_isPage hR hG.1 hG.2.1 ?_
  first | refine z_bne 8 rfl rfl (fun hc5 => ?_) (fun hc5 => ?_)
  · rw [decide_eq_true_eq] at hc5
    obtain ⟨P, hPP, rfl, hp1, hp2⟩ := ix_of hc5
    obtain ⟨hg1, hg2, hT⟩ := hG.2.2 P hPP
    refine z_aload 15 rfl rfl rfl ?_
    refine y_ga 18 hR rfl rfl rfl ?_
    refine z_iload 19 rfl rfl rfl ?_
    refine y_bb (f := 2) 20 _ hR rfl rfl rfl rfl (by omega) (by repeat (first | with_reducible exact hg2 | with_reducible exact f0 | with_reducible exact f14 | with_reducible exact f16 | with_reducible exact f18 | with_reducible exact f19 | with_reducible exact f22 | with_reducible exact f24 | with_reducible exact f25 | with_reducible exact f48 | with_reducible exact gA_eq _ _ _ _ | (with_reducible apply gA_ne; decide) | with_reducible apply gA_I | with_reducible apply gA_O | (with_reducible apply gA_nj; omega) | with_reducible rfl)) ?_
    first | refine z_bne 23 rfl rfl (fun hc20 => ?_) (fun hc20 => ?_)
    · refine z_iload 31 rfl rfl rfl ?_
      refine z_push 32 (nI 0) rfl rfl rfl ?_
      refine z_push 33 (nI 4) rfl rfl rfl ?_
      refine z_cs3 36 rfl rfl rfl (Nat.le_refl _) (Nat.le_refl _) ?_
      refine r_in ?_
      rw [jIn_l (by omega) (by omega)]
      first | refine z_bne 39 rfl rfl (fun hc36 => ?_) (fun hc36 => ?_)
      · rw [decide_eq_true_eq] at hc36
        obtain ⟨R, hRl, rfl, hr1, hr2⟩ := ix_of (x := ru) (n := 5) (by omega)
        refine z_aload 46 rfl rfl rfl ?_
        refine z_iload 47 rfl rfl rfl ?_
        refine z_iload 48 rfl rfl rfl ?_
        refine z_aload 49 rfl rfl rfl ?_
        refine y_ga 52 hR rfl rfl rfl ?_
        refine z_aload 53 rfl rfl rfl ?_
        refine y_gi 56 _ hR rfl rfl rfl rfl rfl (by repeat (first | with_reducible exact gI_eq _ _ _ | (with_reducible apply gI_ne; decide) | with_reducible apply gI_A | with_reducible apply gI_O | with_reducible exact hg2 | with_reducible exact f0 | with_reducible exact f14 | with_reducible exact f16 | with_reducible exact f18 | with_reducible exact f19 | with_reducible exact f22 | with_reducible exact f24 | with_reducible exact f25 | with_reducible exact f48 | with_reducible rfl)) ?_
        refine z_push 57 (nI 0) rfl rfl rfl ?_
        refine z_push 60 (nI 6000) rfl rfl rfl ?_
        refine z_cv6 63 rfl rfl hR.1 rfl (Nat.le_refl _) (Nat.le_refl _) ?_
        refine r_writeAll (F := A.fbs) (f := 17) (c := false) hR (by omega) hg1 (hK P hPP) hT (hB P hPP) (hGd P hPP hc20) (SOk0 _ _) wA6 (by omega) hI.2.2.2.2.1.2 (nPt_lt hs2) hI.2.2.2.2.2.1 hFW hFd f48 rfl l16 (by omega) (by decide) hI.2.2.1.2.2 hub (fun h s1 hR hKp g22 hfa hok => ?_)
        have e8 : sp_encode A (nI P) (nI R) = enR A (wrPg A P R A.uns 6000 0) := by rw [sp_encode, if_pos hc5, hp2, if_pos hc20, if_pos (by omega), hr2]
        rw [e8] at q
        clear e8
        change _ → _ at hok
        rw [show wrAll A.fbs (pgK A.pgs P) (pgE A.pgs P) (pgH A.pgs P) R A.sgn.2 A.uns 6000 0 = (wrPg A P R A.uns 6000 0) from rfl] at hok g22 ⊢
        have hcd : (wrPg A P R A.uns 6000 0).1 = 0 ∨ (wrPg A P R A.uns 6000 0).1 = 1 ∨ ((wrPg A P R A.uns 6000 0).1 ≠ 0 ∧ (wrPg A P R A.uns 6000 0).1 ≠ 1) := by omega
        rcases hcd with hcd | hcd | hcd
        · obtain ⟨hk1, hk2, hk3⟩ := hok hcd
          have hk3 := hk3 rfl
          rw [show wrI (wrPg A P R A.uns 6000 0) = nI (wrPg A P R A.uns 6000 0).2.2.length from if_pos hcd]
          have hm9 : (nI (wrPg A P R A.uns 6000 0).2.2.length).toInt = ((wrPg A P R A.uns 6000 0).2.2.length : Int) := nI_toInt (by omega)
          rw [if_neg (by omega)] at g22
          rw [show enR A (wrPg A P R A.uns 6000 0) = (nI (wrPg A P R A.uns 6000 0).2.2.length, A.wRes (2, (wrPg A P R A.uns 6000 0).2.2)) from if_pos hcd] at q
          refine z_istore 64 rfl rfl rfl rfl ?_
          refine z_iload 65 rfl rfl rfl ?_
          refine z_jge 68 rfl rfl (fun _ => ?_) (fun h9 => absurd h9 (by omega))
          refine z_aload 77 rfl rfl rfl ?_
          refine z_aload 78 rfl rfl rfl ?_
          refine y_ga 81 hR rfl rfl rfl ?_
          refine z_iload 82 rfl rfl rfl ?_
          refine z_push 83 (nI 2) rfl rfl rfl ?_
          refine z_cv3 86 rfl rfl hR.1 rfl (Nat.le_refl _) (Nat.le_refl _) ?_
          refine r_resultOf hR (f := 45) rfl (by decide) (by omega) (by omega) hk3 (fun h s2 hR hO2 hre => ?_)
          refine z_ireti rfl (Nat.le_refl _) (Nat.le_refl _) ?_
          exact q h s2 hR ((hI.k0 hKp g22).res hO2 hre)
        · rw [show wrI (wrPg A P R A.uns 6000 0) = -10 from by rw [wrI, if_neg (by omega), if_pos hcd]]
          rw [if_pos hcd] at g22
          rw [show enR A (wrPg A P R A.uns 6000 0) = (-10, (A.wPlc (wrPg A P R A.uns 6000 0).2.1).tell) from by rw [enR, if_neg (by omega), if_pos hcd]] at q
          refine z_istore 64 rfl rfl rfl rfl ?_
          refine z_iload 65 rfl rfl rfl ?_
          refine z_jge 68 rfl rfl (fun h9 => absurd h9 (by decide)) (fun _ => ?_)
          refine z_aload 69 rfl rfl rfl ?_
          refine z_iload 70 rfl rfl rfl ?_
          refine z_cv1 73 rfl rfl hR.1 rfl (Nat.le_refl _) (Nat.le_refl _) ?_
          refine r_tell hR (fun h9 => absurd h9 (by decide)) (fun _ h hR => ?_)
          refine z_goto rfl ?_
          refine z_ireti rfl (Nat.le_refl _) (Nat.le_refl _) ?_
          have hI1 := hI.k hKp
          rw [g22] at hI1
          exact q h _ hR hI1.tell
        · rw [show wrI (wrPg A P R A.uns 6000 0) = -6 from by rw [wrI, if_neg hcd.1, if_neg hcd.2]]
          rw [if_neg hcd.2] at g22
          rw [show enR A (wrPg A P R A.uns 6000 0) = (-6, A.tell) from by rw [enR, if_neg hcd.1, if_neg hcd.2]] at q
          refine z_istore 64 rfl rfl rfl rfl ?_
          refine z_iload 65 rfl rfl rfl ?_
          refine z_jge 68 rfl rfl (fun h9 => absurd h9 (by decide)) (fun _ => ?_)
          refine z_aload 69 rfl rfl rfl ?_
          refine z_iload 70 rfl rfl rfl ?_
          refine z_cv1 73 rfl rfl hR.1 rfl (Nat.le_refl _) (Nat.le_refl _) ?_
          refine r_tell hR (fun h9 => absurd h9 (by decide)) (fun _ h hR => ?_)
          refine z_goto rfl ?_
          refine z_ireti rfl (Nat.le_refl _) (Nat.le_refl _) ?_
          exact q h _ hR (hI.k0 hKp g22).tell
      · refine z_aload 40 rfl rfl rfl ?_
        refine z_push 41 (-1) rfl rfl rfl ?_
        refine z_cv1 44 rfl rfl hR.1 rfl (Nat.le_refl _) (Nat.le_refl _) ?_
        refine r_tell hR (fun h9 => absurd h9 (by decide)) (fun _ h hR => ?_)
        refine z_ireti rfl (Nat.le_refl _) (Nat.le_refl _) ?_
        rw [decide_eq_false_iff_not] at hc36
        have e9 : sp_encode A (nI P) ru = (-1, A.tell) := by rw [sp_encode, if_pos hc5, hp2, if_pos hc20, if_neg (by omega)]
        rw [e9] at q
        exact q h _ hR hI.tell
    · refine z_aload 24 rfl rfl rfl ?_
      refine z_push 26 (-5) rfl rfl rfl ?_
      refine z_cv1 29 rfl rfl hR.1 rfl (Nat.le_refl _) (Nat.le_refl _) ?_
      refine r_tell hR (fun h9 => absurd h9 (by decide)) (fun _ h hR => ?_)
      refine z_ireti rfl (Nat.le_refl _) (Nat.le_refl _) ?_
      have e9 : sp_encode A (nI P) ru = (-5, A.tell) := by rw [sp_encode, if_pos hc5, hp2, if_neg (by rw [hc20]; decide)]
      rw [e9] at q
      exact q h _ hR hI.tell
  · refine z_aload 9 rfl rfl rfl ?_
    refine z_push 10 (-1) rfl rfl rfl ?_
    refine z_cv1 13 rfl rfl hR.1 rfl (Nat.le_refl _) (Nat.le_refl _) ?_
    refine r_tell hR (fun h9 => absurd h9 (by decide)) (fun _ h hR => ?_)
    refine z_ireti rfl (Nat.le_refl _) (Nat.le_refl _) ?_
    rw [decide_eq_false_iff_not] at hc5
    have e9 : sp_encode A p ru = (-1, A.tell) := if_neg hc5
    rw [e9] at q
    exact q h _ hR hI.tell
set_option maxRecDepth 100000 in
theorem r_transcode {d r : Nat} {h h0 : mH} {s : rS} {A : Ab} {p ru q by' : Int32} {Q : mP} (hR : Rf r h0 s h) (hI : RInv s A) (hAW : AbW A)  (Q1 : ∀ h' s', Rf r h0 s' h' → RInv s' (sp_transcode A p ru q by').2 → Q (some (.int (sp_transcode A p ru q by').1)) h') : mWP (d + 55) 231 [.ref r, .int p, .int ru, .int q, .int by'] h Q := by
  have hG := hI.1
  have hG2 := hG.2.1
  obtain ⟨hB, hK, hGd, hbb, hub, hs1, hs2, hFW, hFd⟩ := hAW
  have f0 : s.1 0 = A.pgs.length := hI.1.1
  have f14 : s.1 14 = A.bys.length := hI.2.1.1
  have f16 : s.1 16 = A.uns.length := hI.2.2.1.1
  have f18 : s.1 18 = A.res.2.length := hI.2.2.2.1.1
  have f19 : s.1 19 = A.res.1 := hI.2.2.2.1.2.2.1
  have f22 : s.1 22 = A.plc := hI.2.2.2.2.2.2.2.1
  have f24 : s.1 24 = A.fnd := hI.2.2.2.2.2.2.2.2.2.1
  have f25 : s.1 25 = A.fbs.length := hI.2.2.2.2.2.1.1
  have f48 : s.1 48 = 0 := hI.2.2.2.2.2.2.2.2.2.2
  have l0 : A.pgs.length ≤ 10 := hI.1.2.1
  have l14 : A.bys.length ≤ 1000 := hI.2.1.2.1
  have l16 : A.uns.length ≤ 1000 := hI.2.2.1.2.1
  have l18 : A.res.2.length ≤ 6000 := hI.2.2.2.1.2.1
  have l25 : A.fbs.length ≤ 40 := hI.2.2.2.2.2.1.2.1
  refine z_in [some (.ref r), some (.int p), some (.int ru), some (.int q), some (.int by'), none, none] (by rfl) rfl rfl rfl ?_
  refine z_aload 1 rfl rfl rfl ?_
  refine z_iload 2 rfl rfl rfl ?_
  refine z_cv1 5 rfl rfl hR.1 rfl (Nat.le_refl _) (Nat.le_refl _) ?_
  refine r_isPage hR hG.1 hG.2.1 ?_
  first | refine z_beq 8 rfl rfl (fun hc5 => ?_) (fun hc5 => ?_)
  · refine z_aload 17 rfl rfl rfl ?_
    refine z_push 18 (-1) rfl rfl rfl ?_
    refine z_cv1 21 rfl rfl hR.1 rfl (Nat.le_refl _) (Nat.le_refl _) ?_
    refine r_tell hR (fun h9 => absurd h9 (by decide)) (fun _ h hR => ?_)
    refine z_ireti rfl (Nat.le_refl _) (Nat.le_refl _) ?_
    have e9 : sp_transcode A p ru q by' = (-1, A.tell) := if_neg (fun h9 => by
      first | (rw [decide_eq_false_iff_not] at hc5; exact hc5 h9.1) | (rw [decide_eq_false_iff_not] at hc13; exact hc13 h9.2))
    rw [e9] at Q1
    exact Q1 h _ hR hI.tell
  · rw [decide_eq_true_eq] at hc5
    obtain ⟨P, hPP, rfl, hp1, hp2⟩ := ix_of hc5
    obtain ⟨hg1, hg2, hT⟩ := hG.2.2 P hPP
    refine z_aload 9 rfl rfl rfl ?_
    refine z_iload 10 rfl rfl rfl ?_
    refine z_cv1 13 rfl rfl hR.1 rfl (Nat.le_refl _) (Nat.le_refl _) ?_
    refine r_isPage hR hG.1 hG.2.1 ?_
    first | refine z_bne 16 rfl rfl (fun hc13 => ?_) (fun hc13 => ?_)
    · rw [decide_eq_true_eq] at hc13
      obtain ⟨U, hU, rfl, hu1, hu2⟩ := ix_of hc13
      obtain ⟨hu3, hu4, hTU⟩ := hG.2.2 U hU
      refine z_aload 23 rfl rfl rfl ?_
      refine y_ga 26 hR rfl rfl rfl ?_
      refine z_iload 27 rfl rfl rfl ?_
      refine y_bb (f := 2) 28 _ hR rfl rfl rfl rfl (by omega) (by repeat (first | with_reducible exact hg2 | with_reducible exact hu4 | with_reducible exact f0 | with_reducible exact f14 | with_reducible exact f16 | with_reducible exact f18 | with_reducible exact f19 | with_reducible exact f22 | with_reducible exact f24 | with_reducible exact f25 | with_reducible exact f48 | with_reducible exact gA_eq _ _ _ _ | (with_reducible apply gA_ne; decide) | with_reducible apply gA_I | with_reducible apply gA_O | (with_reducible apply gA_nj; omega) | with_reducible rfl)) ?_
      first | refine z_beq 31 rfl rfl (fun hc28 => ?_) (fun hc28 => ?_)
      · refine z_aload 41 rfl rfl rfl ?_
        refine z_push 43 (-5) rfl rfl rfl ?_
        refine z_cv1 46 rfl rfl hR.1 rfl (Nat.le_refl _) (Nat.le_refl _) ?_
        refine r_tell hR (fun h9 => absurd h9 (by decide)) (fun _ h hR => ?_)
        refine z_ireti rfl (Nat.le_refl _) (Nat.le_refl _) ?_
        have e9 : sp_transcode A (nI P) ru (nI U) by' = (-5, A.tell) := by
          rw [sp_transcode, if_pos ⟨hc5, hc13⟩, hp2, hu2, if_neg ?_]
          intro h9
          first | (rw [hc28] at h9; exact absurd h9.1 (by decide)) | (rw [hc37] at h9; exact absurd h9.2 (by decide))
        rw [e9] at Q1
        exact Q1 h _ hR hI.tell
      · refine z_aload 32 rfl rfl rfl ?_
        refine y_ga 35 hR rfl rfl rfl ?_
        refine z_iload 36 rfl rfl rfl ?_
        refine y_bb (f := 2) 37 _ hR rfl rfl rfl rfl (by omega) (by repeat (first | with_reducible exact hg2 | with_reducible exact hu4 | with_reducible exact f0 | with_reducible exact f14 | with_reducible exact f16 | with_reducible exact f18 | with_reducible exact f19 | with_reducible exact f22 | with_reducible exact f24 | with_reducible exact f25 | with_reducible exact f48 | with_reducible exact gA_eq _ _ _ _ | (with_reducible apply gA_ne; decide) | with_reducible apply gA_I | with_reducible apply gA_O | (with_reducible apply gA_nj; omega) | with_reducible rfl)) ?_
        first | refine z_bne 40 rfl rfl (fun hc37 => ?_) (fun hc37 => ?_)
        · refine z_iload 48 rfl rfl rfl ?_
          refine z_push 49 (nI 0) rfl rfl rfl ?_
          refine z_push 50 (nI 3) rfl rfl rfl ?_
          refine z_cs3 53 rfl rfl rfl (Nat.le_refl _) (Nat.le_refl _) ?_
          refine r_in ?_
          rw [jIn_l (by omega) (by omega)]
          first | refine z_beq 56 rfl rfl (fun hc53 => ?_) (fun hc53 => ?_)
          · refine z_aload 67 rfl rfl rfl ?_
            refine z_push 68 (-1) rfl rfl rfl ?_
            refine z_cv1 71 rfl rfl hR.1 rfl (Nat.le_refl _) (Nat.le_refl _) ?_
            refine r_tell hR (fun h9 => absurd h9 (by decide)) (fun _ h hR => ?_)
            refine z_ireti rfl (Nat.le_refl _) (Nat.le_refl _) ?_
            have e9 : sp_transcode A (nI P) ru (nI U) by' = (-1, A.tell) := by
              rw [sp_transcode, if_pos ⟨hc5, hc13⟩, hp2, hu2, if_pos ⟨hc28, hc37⟩, if_neg ?_]
              intro h9
              first | (rw [decide_eq_false_iff_not] at hc53; exact hc53 (by have := h9.1; omega)) | (rw [decide_eq_false_iff_not] at hc63; exact hc63 (by have := h9.2; omega))
            rw [e9] at Q1
            exact Q1 h _ hR hI.tell
          · refine z_iload 58 rfl rfl rfl ?_
            refine z_push 59 (nI 0) rfl rfl rfl ?_
            refine z_push 60 (nI 4) rfl rfl rfl ?_
            refine z_cs3 63 rfl rfl rfl (Nat.le_refl _) (Nat.le_refl _) ?_
            refine r_in ?_
            rw [jIn_l (by omega) (by omega)]
            first | refine z_bne 66 rfl rfl (fun hc63 => ?_) (fun hc63 => ?_)
            · rw [decide_eq_true_eq] at hc53 hc63
              obtain ⟨R, hRl, rfl, hr1, hr2⟩ := ix_of (x := ru) (n := 4) (by omega)
              obtain ⟨B, hBl, rfl, hb1, hb2⟩ := ix_of (x := by') (n := 5) (by omega)
              refine z_aload 73 rfl rfl rfl ?_
              refine z_iload 74 rfl rfl rfl ?_
              refine z_iload 75 rfl rfl rfl ?_
              refine z_aload 76 rfl rfl rfl ?_
              refine y_ga 79 hR rfl rfl rfl ?_
              refine z_cv3 82 rfl rfl hR.1 rfl (Nat.le_refl _) (Nat.le_refl _) ?_
              refine r_readAll (o := 43) hR (by omega) hg1 (hK P hPP) hT (hB P hPP) (by omega) hI.2.2.2.2.1.1 (nPt_lt hs1) hI.2.1 hbb (by decide) rfl (by decide) (fun h s1 hR hKp1 g221 hfa1 ho1 g391 => ?_)
              have hln := (rdAll_len (K := pgK A.pgs P) (rule := R) (sg := A.sgn.1) (hB P hPP) hbb).1
              rw [show rdAll (pgK A.pgs P) (pgE A.pgs P) (pgH A.pgs P) R A.sgn.1 A.bys = rdPg A P R from rfl] at *
              rcases hrd : (rdPg A P R).1 with _ | a
              · have e8 : sp_transcode A (nI P) (nI R) (nI U) (nI B) = enR A (wrPg A U B (rdPg A P R).2.1 6000 0) := by
                  rw [sp_transcode, if_pos ⟨hc5, hc13⟩, hp2, hu2, if_pos ⟨hc28, hc37⟩, if_pos ⟨by omega, by omega⟩, hr2, hb2, hrd]
                rw [e8] at Q1
                clear e8
                rw [show rdR (rdPg A P R) = nI (rdPg A P R).2.1.length from by rw [rdR, hrd]]
                have hm9 : (nI (rdPg A P R).2.1.length).toInt = ((rdPg A P R).2.1.length : Int) := nI_toInt (by omega)
                have hI1 := hI.k0 hKp1 (by rw [g221, rdP, hrd])
                refine z_istore 84 rfl rfl rfl rfl ?_
                refine z_iload 86 rfl rfl rfl ?_
                refine z_jge 89 rfl rfl (fun _ => ?_) (fun h9 => absurd h9 (by omega))
                refine z_aload 97 rfl rfl rfl ?_
                refine z_iload 98 rfl rfl rfl ?_
                refine z_iload 100 rfl rfl rfl ?_
                refine z_aload 101 rfl rfl rfl ?_
                refine y_ga 104 hR rfl rfl rfl ?_
                refine z_iload 106 rfl rfl rfl ?_
                refine z_push 107 (nI 0) rfl rfl rfl ?_
                refine z_push 110 (nI 6000) rfl rfl rfl ?_
                refine z_cv6 113 rfl rfl hR.1 rfl (Nat.le_refl _) (Nat.le_refl _) ?_
                refine r_writeAll (F := A.fbs) (f := 43) (us := (rdPg A P R).2.1) (c := false) hR (by omega) (hI1.1.2.2 U hU).1 (hK U hU) (hI1.1.2.2 U hU).2.2 (hB U hU) (hGd U hU hc37) (SOk0 _ _) wA6 (by omega) hI1.2.2.2.2.1.2 (nPt_lt hs2) hI1.2.2.2.2.2.1 hFW hFd hI1.2.2.2.2.2.2.2.2.2.2 rfl (by omega) (by omega) (by decide) ho1.2.2 (fun j => getD_all (rdPg_ub (rule := R) (hB P hPP) hbb (nPt_lt hs1)) (by decide) j) (fun h s2 hR hKp2 g22 hfa hok => ?_)
                rw [show wrAll A.fbs (pgK A.pgs U) (pgE A.pgs U) (pgH A.pgs U) B A.sgn.2 (rdPg A P R).2.1 6000 0 = (wrPg A U B (rdPg A P R).2.1 6000 0) from rfl] at hok g22 ⊢
                have hcd : (wrPg A U B (rdPg A P R).2.1 6000 0).1 = 0 ∨ (wrPg A U B (rdPg A P R).2.1 6000 0).1 = 1 ∨ ((wrPg A U B (rdPg A P R).2.1 6000 0).1 ≠ 0 ∧ (wrPg A U B (rdPg A P R).2.1 6000 0).1 ≠ 1) := by omega
                rcases hcd with hcd | hcd | hcd
                · obtain ⟨hk1, hk2, hk3⟩ := hok hcd
                  have hk3 := hk3 rfl
                  rw [show wrI (wrPg A U B (rdPg A P R).2.1 6000 0) = nI (wrPg A U B (rdPg A P R).2.1 6000 0).2.2.length from if_pos hcd]
                  have hm8 : (nI (wrPg A U B (rdPg A P R).2.1 6000 0).2.2.length).toInt = ((wrPg A U B (rdPg A P R).2.1 6000 0).2.2.length : Int) := nI_toInt (by omega)
                  rw [if_neg (by omega)] at g22
                  rw [show enR A (wrPg A U B (rdPg A P R).2.1 6000 0) = (nI (wrPg A U B (rdPg A P R).2.1 6000 0).2.2.length, A.wRes (2, (wrPg A U B (rdPg A P R).2.1 6000 0).2.2)) from if_pos hcd] at Q1
                  refine z_istore 115 rfl rfl rfl rfl ?_
                  refine z_iload 117 rfl rfl rfl ?_
                  refine z_jge 120 rfl rfl (fun _ => ?_) (fun h9 => absurd h9 (by omega))
                  refine z_aload 130 rfl rfl rfl ?_
                  refine z_aload 131 rfl rfl rfl ?_
                  refine y_ga 134 hR rfl rfl rfl ?_
                  refine z_iload 136 rfl rfl rfl ?_
                  refine z_push 137 (nI 2) rfl rfl rfl ?_
                  refine z_cv3 140 rfl rfl hR.1 rfl (Nat.le_refl _) (Nat.le_refl _) ?_
                  refine r_resultOf hR (f := 45) rfl (by decide) (by omega) (by omega) hk3 (fun h s3 hR hO2 hre => ?_)
                  refine z_ireti rfl (Nat.le_refl _) (Nat.le_refl _) ?_
                  exact Q1 h s3 hR ((hI1.k0 hKp2 g22).res hO2 hre)
                · rw [show wrI (wrPg A U B (rdPg A P R).2.1 6000 0) = -10 from by rw [wrI, if_neg (by omega), if_pos hcd]]
                  rw [if_pos hcd] at g22
                  rw [show enR A (wrPg A U B (rdPg A P R).2.1 6000 0) = (-10, (A.wPlc (wrPg A U B (rdPg A P R).2.1 6000 0).2.1).tell) from by rw [enR, if_neg (by omega), if_pos hcd]] at Q1
                  refine z_istore 115 rfl rfl rfl rfl ?_
                  refine z_iload 117 rfl rfl rfl ?_
                  refine z_jge 120 rfl rfl (fun h9 => absurd h9 (by decide)) (fun _ => ?_)
                  refine z_aload 121 rfl rfl rfl ?_
                  refine z_iload 123 rfl rfl rfl ?_
                  refine z_cv1 126 rfl rfl hR.1 rfl (Nat.le_refl _) (Nat.le_refl _) ?_
                  refine r_tell hR (fun h9 => absurd h9 (by decide)) (fun _ h hR => ?_)
                  refine z_goto rfl ?_
                  refine z_ireti rfl (Nat.le_refl _) (Nat.le_refl _) ?_
                  have hI2 := hI1.k hKp2
                  rw [g22] at hI2
                  exact Q1 h _ hR hI2.tell
                · rw [show wrI (wrPg A U B (rdPg A P R).2.1 6000 0) = -6 from by rw [wrI, if_neg hcd.1, if_neg hcd.2]]
                  rw [if_neg hcd.2] at g22
                  rw [show enR A (wrPg A U B (rdPg A P R).2.1 6000 0) = (-6, A.tell) from by rw [enR, if_neg hcd.1, if_neg hcd.2]] at Q1
                  refine z_istore 115 rfl rfl rfl rfl ?_
                  refine z_iload 117 rfl rfl rfl ?_
                  refine z_jge 120 rfl rfl (fun h9 => absurd h9 (by decide)) (fun _ => ?_)
                  refine z_aload 121 rfl rfl rfl ?_
                  refine z_iload 123 rfl rfl rfl ?_
                  refine z_cv1 126 rfl rfl hR.1 rfl (Nat.le_refl _) (Nat.le_refl _) ?_
                  refine r_tell hR (fun h9 => absurd h9 (by decide)) (fun _ h hR => ?_)
                  refine z_goto rfl ?_
                  refine z_ireti rfl (Nat.le_refl _) (Nat.le_refl _) ?_
                  exact Q1 h _ hR (hI1.k0 hKp2 g22).tell
              · rw [show rdR (rdPg A P R) = -9 from by rw [rdR, hrd]]
                refine z_istore 84 rfl rfl rfl rfl ?_
                refine z_iload 86 rfl rfl rfl ?_
                refine z_jge 89 rfl rfl (fun h9 => absurd h9 (by decide)) (fun _ => ?_)
                refine z_aload 90 rfl rfl rfl ?_
                refine z_iload 92 rfl rfl rfl ?_
                refine z_cv1 95 rfl rfl hR.1 rfl (Nat.le_refl _) (Nat.le_refl _) ?_
                refine r_tell hR (fun h9 => absurd h9 (by decide)) (fun _ h hR => ?_)
                refine z_ireti rfl (Nat.le_refl _) (Nat.le_refl _) ?_
                have e9 : sp_transcode A (nI P) (nI R) (nI U) (nI B) = (-9, (A.wPlc a).tell) := by
                  rw [sp_transcode, if_pos ⟨hc5, hc13⟩, hp2, hu2, if_pos ⟨hc28, hc37⟩, if_pos ⟨by omega, by omega⟩, hr2, hb2, hrd]
                rw [e9] at Q1
                have hI1 := hI.k hKp1
                rw [g221, rdP, hrd] at hI1
                exact Q1 h _ hR hI1.tell
            · refine z_aload 67 rfl rfl rfl ?_
              refine z_push 68 (-1) rfl rfl rfl ?_
              refine z_cv1 71 rfl rfl hR.1 rfl (Nat.le_refl _) (Nat.le_refl _) ?_
              refine r_tell hR (fun h9 => absurd h9 (by decide)) (fun _ h hR => ?_)
              refine z_ireti rfl (Nat.le_refl _) (Nat.le_refl _) ?_
              have e9 : sp_transcode A (nI P) ru (nI U) by' = (-1, A.tell) := by
                rw [sp_transcode, if_pos ⟨hc5, hc13⟩, hp2, hu2, if_pos ⟨hc28, hc37⟩, if_neg ?_]
                intro h9
                first | (rw [decide_eq_false_iff_not] at hc53; exact hc53 (by have := h9.1; omega)) | (rw [decide_eq_false_iff_not] at hc63; exact hc63 (by have := h9.2; omega))
              rw [e9] at Q1
              exact Q1 h _ hR hI.tell
        · refine z_aload 41 rfl rfl rfl ?_
          refine z_push 43 (-5) rfl rfl rfl ?_
          refine z_cv1 46 rfl rfl hR.1 rfl (Nat.le_refl _) (Nat.le_refl _) ?_
          refine r_tell hR (fun h9 => absurd h9 (by decide)) (fun _ h hR => ?_)
          refine z_ireti rfl (Nat.le_refl _) (Nat.le_refl _) ?_
          have e9 : sp_transcode A (nI P) ru (nI U) by' = (-5, A.tell) := by
            rw [sp_transcode, if_pos ⟨hc5, hc13⟩, hp2, hu2, if_neg ?_]
            intro h9
            first | (rw [hc28] at h9; exact absurd h9.1 (by decide)) | (rw [hc37] at h9; exact absurd h9.2 (by decide))
          rw [e9] at Q1
          exact Q1 h _ hR hI.tell
    · refine z_aload 17 rfl rfl rfl ?_
      refine z_push 18 (-1) rfl rfl rfl ?_
      refine z_cv1 21 rfl rfl hR.1 rfl (Nat.le_refl _) (Nat.le_refl _) ?_
      refine r_tell hR (fun h9 => absurd h9 (by decide)) (fun _ h hR => ?_)
      refine z_ireti rfl (Nat.le_refl _) (Nat.le_refl _) ?_
      have e9 : sp_transcode A (nI P) ru q by' = (-1, A.tell) := if_neg (fun h9 => by
        first | (rw [decide_eq_false_iff_not] at hc5; exact hc5 h9.1) | (rw [decide_eq_false_iff_not] at hc13; exact hc13 h9.2))
      rw [e9] at Q1
      exact Q1 h _ hR hI.tell
