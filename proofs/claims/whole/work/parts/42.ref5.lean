/-! the reference: page, entry, shift -/
theorem gAf {f f' j x : Nat} {s : rS} (h : f ≠ f') : (stA f' j x s).2.2 f = s.2.2 f := by simp only [stA, if_neg h]
def fxA (l : List Pg) (p : Int32) : Int32 := if 0 ≤ p.toInt ∧ p.toInt < l.length then (if pgK l p.toInt.toNat = 0 then (if pgC l p.toInt.toNat = true then -4 else 0) else -3) else -1
theorem fxA_0 {l : List Pg} {p : Int32} (h : fxA l p = 0) : (0 ≤ p.toInt ∧ p.toInt < l.length) ∧ pgK l p.toInt.toNat = 0 ∧ pgC l p.toInt.toNat = false := by
  unfold fxA at h
  split at h
  · split at h
    · split at h
      · cases h
      · rename_i a b c
        exact ⟨a, b, by simpa using c⟩
    · cases h
  · cases h
theorem fxA_n {l : List Pg} {p : Int32} (h : ¬ fxA l p = 0) : (fxA l p).toInt < 0 := by
  unfold fxA at h ⊢
  split
  · split
    · split
      · decide
      · simp_all
    · decide
  · decide
def sp_page (A : Ab) (k : Int32) : Int32 × Ab := if 0 ≤ k.toInt ∧ k.toInt ≤ 3 then (if A.pgs.length = 10 then (-6, A.tell) else (nI A.pgs.length, A.wPgs (A.pgs ++ [(k.toInt.toNat, decide (k.toInt ≠ 0), [], [])]))) else (-1, A.tell)
def ptOf (c : Int32) : Int32 := if 0 ≤ c.toInt then c else -1 - c
def sp_entry (A : Ab) (p st bt n c : Int32) : Int32 × Ab :=
  if fxA A.pgs p = 0 then
    if jText st bt n = true ∧ jPoint (ptOf c) = true then
      match ffd (eQ (pgE A.pgs p.toInt.toNat) st.toInt.toNat bt.toInt.toNat n.toInt.toNat) (pgE A.pgs p.toInt.toNat).length 0 with
      | some k => (1, A.wPgs (A.pgs.set p.toInt.toNat (0, false, (pgE A.pgs p.toInt.toNat).set k (st.toInt.toNat, bt.toInt.toNat, n.toInt.toNat, (ptOf c).toInt.toNat, decide (0 ≤ c.toInt)), pgH A.pgs p.toInt.toNat)))
      | none => if (pgE A.pgs p.toInt.toNat).length = 100 then (-6, A.tell) else (0, A.wPgs (A.pgs.set p.toInt.toNat (0, false, pgE A.pgs p.toInt.toNat ++ [(st.toInt.toNat, bt.toInt.toNat, n.toInt.toNat, (ptOf c).toInt.toNat, decide (0 ≤ c.toInt))], pgH A.pgs p.toInt.toNat)))
    else (-1, A.tell)
  else (fxA A.pgs p, A.tell)
def sp_shift (A : Ab) (p st b to : Int32) (k : Bool) : Int32 × Ab :=
  if fxA A.pgs p = 0 then
    if jState st = true ∧ jState to = true ∧ ¬ st = to ∧ jByte b = true then
      if ffd (sQ (pgH A.pgs p.toInt.toNat) st.toInt.toNat b.toInt.toNat) (pgH A.pgs p.toInt.toNat).length 0 = none then
        if (pgH A.pgs p.toInt.toNat).length = 10 then (-6, A.tell) else (0, A.wPgs (A.pgs.set p.toInt.toNat (0, false, pgE A.pgs p.toInt.toNat, pgH A.pgs p.toInt.toNat ++ [(st.toInt.toNat, b.toInt.toNat, to.toInt.toNat, k)])))
      else (-7, A.tell)
    else (-1, A.tell)
  else (fxA A.pgs p, A.tell)
theorem same_new {s : rS} {p P x y z w v : Nat} (hp : p ≠ P) : SameTb s (stI 0 v (stA 4 P x (stA 3 P y (stA 2 P z (stA 1 P w s))))) p := ⟨(by repeat (first | with_reducible exact gA_eq _ _ _ _ | (with_reducible apply gA_ne; decide) | with_reducible apply gA_I | with_reducible apply gA_O | (with_reducible apply gA_nj; exact hp) | with_reducible rfl)), (by repeat (first | with_reducible exact gA_eq _ _ _ _ | (with_reducible apply gA_ne; decide) | with_reducible apply gA_I | with_reducible apply gA_O | (with_reducible apply gA_nj; exact hp) | with_reducible rfl)), fun _ _ => ⟨rfl, rfl, rfl, rfl, rfl⟩, fun _ _ => ⟨rfl, rfl, rfl, rfl⟩⟩
theorem nI_z {x : Nat} (h : (nI x).toInt = 0) (hx : x < 2 ^ 31) : x = 0 := by rw [nI_toInt hx] at h; omega
set_option maxRecDepth 10000 in
theorem r_fixed {d r : Nat} {h h0 : mH} {s : rS} {l : List Pg} {p : Int32} {Q : mP} (hR : Rf r h0 s h) (hG : RPg s l) (hK : ∀ P, pgK l P < 2 ^ 31)  (q : Q (some (.int (fxA l p))) h) : mWP (d + 3) 182 [.ref r, .int p] h Q := by
  have hgK : ∀ P, pgK l P < 2 ^ 31 := hK
  refine z_in [some (.ref r), some (.int p)] (by rfl) rfl rfl rfl ?_
  refine z_aload 1 rfl rfl rfl ?_
  refine z_iload 2 rfl rfl rfl ?_
  refine z_cv1 5 rfl rfl hR.1 rfl (Nat.le_refl _) (Nat.le_refl _) ?_
  refine r_isPage hR hG.1 hG.2.1 ?_
  first | refine z_bne 8 rfl rfl (fun hc5 => ?_) (fun hc5 => ?_)
  · rw [decide_eq_true_eq] at hc5
    obtain ⟨P, hP, rfl, hp1, hp2⟩ := ix_of hc5
    obtain ⟨hg1, hg2, hg3⟩ := hG.2.2 P hP
    have hg4 := hG.2.1
    refine z_aload 11 rfl rfl rfl ?_
    refine y_ga 14 hR rfl rfl rfl ?_
    refine z_iload 15 rfl rfl rfl ?_
    refine y_al (f := 1) 16 _ hR rfl rfl rfl rfl (by omega) (by repeat (first | with_reducible exact hg1 | with_reducible exact hg2 | with_reducible exact gA_eq _ _ _ _ | (with_reducible apply gA_ne; decide) | with_reducible apply gA_I | with_reducible apply gA_O | (with_reducible apply gA_nj; omega) | with_reducible rfl)) ?_
    first | refine z_jeq 19 rfl rfl (fun hc16 => ?_) (fun hc16 => ?_)
    · refine z_aload 23 rfl rfl rfl ?_
      refine y_ga 26 hR rfl rfl rfl ?_
      refine z_iload 27 rfl rfl rfl ?_
      refine y_bb (f := 2) 28 _ hR rfl rfl rfl rfl (by omega) (by repeat (first | with_reducible exact hg1 | with_reducible exact hg2 | with_reducible exact gA_eq _ _ _ _ | (with_reducible apply gA_ne; decide) | with_reducible apply gA_I | with_reducible apply gA_O | (with_reducible apply gA_nj; omega) | with_reducible rfl)) ?_
      first | refine z_beq 31 rfl rfl (fun hc28 => ?_) (fun hc28 => ?_)
      · refine z_push 37 (nI 0) rfl rfl rfl ?_
        refine z_ireti rfl (Nat.le_refl _) (Nat.le_refl _) ?_
        refine zqo ?_ q
        have h9 : pgK l P = 0 := nI_z hc16 (hgK P)
        rw [fxA, if_pos hc5, hp2, if_pos h9]
        simp only [hc28]
        rfl
      · refine z_push 33 (-4) rfl rfl rfl ?_
        refine z_goto rfl ?_
        refine z_ireti rfl (Nat.le_refl _) (Nat.le_refl _) ?_
        refine zqo ?_ q
        have h9 : pgK l P = 0 := nI_z hc16 (hgK P)
        rw [fxA, if_pos hc5, hp2, if_pos h9]
        simp only [hc28]
        rfl
    · refine z_push 21 (-3) rfl rfl rfl ?_
      refine z_ireti rfl (Nat.le_refl _) (Nat.le_refl _) ?_
      refine zqo ?_ q
      rw [fxA, if_pos hc5, hp2, if_neg ?_]
      intro h9
      rw [h9] at hc16
      exact hc16 rfl
  · refine z_push 9 (-1) rfl rfl rfl ?_
    refine z_ireti rfl (Nat.le_refl _) (Nat.le_refl _) ?_
    rw [decide_eq_false_iff_not] at hc5
    exact zqo (if_neg hc5) q
set_option maxRecDepth 10000 in
theorem r_page {d r : Nat} {h h0 : mH} {s : rS} {A : Ab} {k : Int32} {Q : mP} (hR : Rf r h0 s h) (hI : RInv s A) (hB : PgB A.pgs)  (q : ∀ h' s', Rf r h0 s' h' → RInv s' (sp_page A k).2 → Q (some (.int (sp_page A k).1)) h') : mWP (d + 2) 178 [.ref r, .int k] h Q := by
  have hG := hI.1
  have hG1 := hG.1
  have hG2 := hG.2.1
  refine z_in [some (.ref r), some (.int k)] (by rfl) rfl rfl rfl ?_
  refine z_iload 1 rfl rfl rfl ?_
  refine z_push 2 (nI 0) rfl rfl rfl ?_
  refine z_push 3 (nI 3) rfl rfl rfl ?_
  refine z_cs3 6 rfl rfl rfl (Nat.le_refl _) (Nat.le_refl _) ?_
  refine r_in ?_
  rw [jIn_l (by omega) (by omega)]
  first | refine z_bne 9 rfl rfl (fun hc6 => ?_) (fun hc6 => ?_)
  · rw [decide_eq_true_eq] at hc6
    obtain ⟨K, hK, rfl, hk1, hk2⟩ := ix_of (x := k) (n := 4) (by omega)
    refine z_aload 16 rfl rfl rfl ?_
    refine y_gi 19 _ hR rfl rfl rfl rfl rfl (by repeat (first | with_reducible exact gI_eq _ _ _ | (with_reducible apply gI_ne; decide) | with_reducible apply gI_A | with_reducible apply gI_O | with_reducible exact hG1 | with_reducible rfl)) ?_
    refine z_push 21 (nI 10) rfl rfl rfl ?_
    refine z_nne 24 rfl rfl (by omega) (by omega) (fun hc21 => ?_) (fun hc21 => ?_)
    · refine z_aload 32 rfl rfl rfl ?_
      refine y_ga 35 hR rfl rfl rfl ?_
      refine z_aload 36 rfl rfl rfl ?_
      refine y_gi 39 _ hR rfl rfl rfl rfl rfl (by repeat (first | with_reducible exact gI_eq _ _ _ | (with_reducible apply gI_ne; decide) | with_reducible apply gI_A | with_reducible apply gI_O | with_reducible exact hG1 | with_reducible rfl)) ?_
      refine z_iload 40 rfl rfl rfl ?_
      refine y_as (f := 1) 41 hR rfl rfl rfl rfl (by omega) ?_
      intro h hR
      refine z_aload 42 rfl rfl rfl ?_
      refine y_ga 45 hR rfl rfl rfl ?_
      refine z_aload 46 rfl rfl rfl ?_
      refine y_gi 49 _ hR rfl rfl rfl rfl rfl (by repeat (first | with_reducible exact gI_eq _ _ _ | (with_reducible apply gI_ne; decide) | with_reducible apply gI_A | with_reducible apply gI_O | with_reducible exact hG1 | with_reducible rfl)) ?_
      refine z_iload 50 rfl rfl rfl ?_
      first | refine z_zeq 53 rfl rfl (by omega) (fun hc50 => ?_) (fun hc50 => ?_)
      · refine z_push 58 (nI 0) rfl rfl rfl ?_
        refine y_bs (f := 2) 59 hR rfl rfl rfl rfl (by omega) (by decide) ?_
        intro h hR
        refine z_aload 60 rfl rfl rfl ?_
        refine y_ga 63 hR rfl rfl rfl ?_
        refine z_aload 64 rfl rfl rfl ?_
        refine y_gi 67 _ hR rfl rfl rfl rfl rfl (by repeat (first | with_reducible exact gI_eq _ _ _ | (with_reducible apply gI_ne; decide) | with_reducible apply gI_A | with_reducible apply gI_O | with_reducible exact hG1 | with_reducible rfl)) ?_
        refine z_push 68 (nI 0) rfl rfl rfl ?_
        refine y_as (f := 3) 69 hR rfl rfl rfl rfl (by omega) ?_
        intro h hR
        refine z_aload 70 rfl rfl rfl ?_
        refine y_ga 73 hR rfl rfl rfl ?_
        refine z_aload 74 rfl rfl rfl ?_
        refine y_gi 77 _ hR rfl rfl rfl rfl rfl (by repeat (first | with_reducible exact gI_eq _ _ _ | (with_reducible apply gI_ne; decide) | with_reducible apply gI_A | with_reducible apply gI_O | with_reducible exact hG1 | with_reducible rfl)) ?_
        refine z_push 78 (nI 0) rfl rfl rfl ?_
        refine y_as (f := 4) 79 hR rfl rfl rfl rfl (by omega) ?_
        intro h hR
        refine z_aload 80 rfl rfl rfl ?_
        first | refine z_dup 81 rfl rfl ?_ | refine z_dupi 81 rfl rfl ?_
        refine y_gi 84 _ hR rfl rfl rfl rfl rfl (by repeat (first | with_reducible exact gI_eq _ _ _ | (with_reducible apply gI_ne; decide) | with_reducible apply gI_A | with_reducible apply gI_O | with_reducible exact hG1 | with_reducible rfl)) ?_
        refine z_push 85 (nI 1) rfl rfl rfl ?_
        refine z_bop 86 _ rfl rfl (by first | with_reducible exact zb_0 _ _ | exact zd_0 _ _) ?_
        refine y_pi 89 hR rfl rfl rfl rfl rfl (mFi rfl) ?_
        intro h hR
        refine z_aload 90 rfl rfl rfl ?_
        refine y_gi 93 _ hR rfl rfl rfl rfl rfl (by repeat (first | with_reducible exact gI_eq _ _ _ | (with_reducible apply gI_ne; decide) | with_reducible apply gI_A | with_reducible apply gI_O | with_reducible exact hG1 | with_reducible rfl)) ?_
        refine z_push 94 (nI 1) rfl rfl rfl ?_
        refine z_bop 95 _ rfl rfl (by first | with_reducible exact zb_1 (by omega) | exact zd_1 _ _) ?_
        refine z_ireti rfl (Nat.le_refl _) (Nat.le_refl _) ?_
        have e9 : sp_page A (nI K) = (nI A.pgs.length, A.wPgs (A.pgs ++ [(K, decide (K ≠ 0), [], [])])) := by
          rw [sp_page, if_pos (by omega), if_neg (by omega), hk2, hk1]
          congr 6
          simp
        rw [e9] at q
        refine q h _ hR (hI.pg (fun c hc => gI_ne hc rfl) (fun f hf => ?_) (hG.add hB (by omega) (gI_eq _ _ _) ?_ ?_ ⟨by omega, ?_, ?_, fun j hj => absurd hj (by simp), fun j hj => absurd hj (by simp)⟩ (fun p hp => ⟨?_, ?_, same_new (by omega)⟩)))
        · simp only [stI]
          rw [gAf (by omega), gAf (by omega), gAf (by omega), gAf (by omega)]
        · repeat (first | with_reducible exact gA_eq _ _ _ _ | (with_reducible apply gA_ne; decide) | with_reducible apply gA_I | with_reducible apply gA_O | (with_reducible apply gA_nj; omega) | with_reducible rfl | exact gA_eq _ _ _ _)
        · have h9 : K = 0 ∨ K ≠ 0 := by omega
          rcases h9 with rfl | h9
          · first
            | (exfalso; omega)
            | repeat (first | with_reducible exact gA_eq _ _ _ _ | (with_reducible apply gA_ne; decide) | with_reducible apply gA_I | with_reducible apply gA_O | (with_reducible apply gA_nj; omega) | with_reducible rfl | exact gA_eq _ _ _ _)
          · first
            | (exfalso; omega)
            | (simp only [ne_eq, h9, not_false_eq_true, decide_true]
               repeat (first | with_reducible exact gA_eq _ _ _ _ | (with_reducible apply gA_ne; decide) | with_reducible apply gA_I | with_reducible apply gA_O | (with_reducible apply gA_nj; omega) | with_reducible rfl | exact gA_eq _ _ _ _))
        · repeat (first | with_reducible exact gA_eq _ _ _ _ | (with_reducible apply gA_ne; decide) | with_reducible apply gA_I | with_reducible apply gA_O | (with_reducible apply gA_nj; omega) | with_reducible rfl | exact gA_eq _ _ _ _)
        · repeat (first | with_reducible exact gA_eq _ _ _ _ | (with_reducible apply gA_ne; decide) | with_reducible apply gA_I | with_reducible apply gA_O | (with_reducible apply gA_nj; omega) | with_reducible rfl | exact gA_eq _ _ _ _)
        · repeat (first | with_reducible exact gA_eq _ _ _ _ | (with_reducible apply gA_ne; decide) | with_reducible apply gA_I | with_reducible apply gA_O | (with_reducible apply gA_nj; omega) | with_reducible rfl | exact gA_eq _ _ _ _)
        · repeat (first | with_reducible exact gA_eq _ _ _ _ | (with_reducible apply gA_ne; decide) | with_reducible apply gA_I | with_reducible apply gA_O | (with_reducible apply gA_nj; omega) | with_reducible rfl | exact gA_eq _ _ _ _)
      · refine z_push 54 (nI 1) rfl rfl rfl ?_
        refine z_goto rfl ?_
        refine y_bs (f := 2) 59 hR rfl rfl rfl rfl (by omega) (by decide) ?_
        intro h hR
        refine z_aload 60 rfl rfl rfl ?_
        refine y_ga 63 hR rfl rfl rfl ?_
        refine z_aload 64 rfl rfl rfl ?_
        refine y_gi 67 _ hR rfl rfl rfl rfl rfl (by repeat (first | with_reducible exact gI_eq _ _ _ | (with_reducible apply gI_ne; decide) | with_reducible apply gI_A | with_reducible apply gI_O | with_reducible exact hG1 | with_reducible rfl)) ?_
        refine z_push 68 (nI 0) rfl rfl rfl ?_
        refine y_as (f := 3) 69 hR rfl rfl rfl rfl (by omega) ?_
        intro h hR
        refine z_aload 70 rfl rfl rfl ?_
        refine y_ga 73 hR rfl rfl rfl ?_
        refine z_aload 74 rfl rfl rfl ?_
        refine y_gi 77 _ hR rfl rfl rfl rfl rfl (by repeat (first | with_reducible exact gI_eq _ _ _ | (with_reducible apply gI_ne; decide) | with_reducible apply gI_A | with_reducible apply gI_O | with_reducible exact hG1 | with_reducible rfl)) ?_
        refine z_push 78 (nI 0) rfl rfl rfl ?_
        refine y_as (f := 4) 79 hR rfl rfl rfl rfl (by omega) ?_
        intro h hR
        refine z_aload 80 rfl rfl rfl ?_
        first | refine z_dup 81 rfl rfl ?_ | refine z_dupi 81 rfl rfl ?_
        refine y_gi 84 _ hR rfl rfl rfl rfl rfl (by repeat (first | with_reducible exact gI_eq _ _ _ | (with_reducible apply gI_ne; decide) | with_reducible apply gI_A | with_reducible apply gI_O | with_reducible exact hG1 | with_reducible rfl)) ?_
        refine z_push 85 (nI 1) rfl rfl rfl ?_
        refine z_bop 86 _ rfl rfl (by first | with_reducible exact zb_0 _ _ | exact zd_0 _ _) ?_
        refine y_pi 89 hR rfl rfl rfl rfl rfl (mFi rfl) ?_
        intro h hR
        refine z_aload 90 rfl rfl rfl ?_
        refine y_gi 93 _ hR rfl rfl rfl rfl rfl (by repeat (first | with_reducible exact gI_eq _ _ _ | (with_reducible apply gI_ne; decide) | with_reducible apply gI_A | with_reducible apply gI_O | with_reducible exact hG1 | with_reducible rfl)) ?_
        refine z_push 94 (nI 1) rfl rfl rfl ?_
        refine z_bop 95 _ rfl rfl (by first | with_reducible exact zb_1 (by omega) | exact zd_1 _ _) ?_
        refine z_ireti rfl (Nat.le_refl _) (Nat.le_refl _) ?_
        have e9 : sp_page A (nI K) = (nI A.pgs.length, A.wPgs (A.pgs ++ [(K, decide (K ≠ 0), [], [])])) := by
          rw [sp_page, if_pos (by omega), if_neg (by omega), hk2, hk1]
          congr 6
          simp
        rw [e9] at q
        refine q h _ hR (hI.pg (fun c hc => gI_ne hc rfl) (fun f hf => ?_) (hG.add hB (by omega) (gI_eq _ _ _) ?_ ?_ ⟨by omega, ?_, ?_, fun j hj => absurd hj (by simp), fun j hj => absurd hj (by simp)⟩ (fun p hp => ⟨?_, ?_, same_new (by omega)⟩)))
        · simp only [stI]
          rw [gAf (by omega), gAf (by omega), gAf (by omega), gAf (by omega)]
        · repeat (first | with_reducible exact gA_eq _ _ _ _ | (with_reducible apply gA_ne; decide) | with_reducible apply gA_I | with_reducible apply gA_O | (with_reducible apply gA_nj; omega) | with_reducible rfl | exact gA_eq _ _ _ _)
        · have h9 : K = 0 ∨ K ≠ 0 := by omega
          rcases h9 with rfl | h9
          · first
            | (exfalso; omega)
            | repeat (first | with_reducible exact gA_eq _ _ _ _ | (with_reducible apply gA_ne; decide) | with_reducible apply gA_I | with_reducible apply gA_O | (with_reducible apply gA_nj; omega) | with_reducible rfl | exact gA_eq _ _ _ _)
          · first
            | (exfalso; omega)
            | (simp only [ne_eq, h9, not_false_eq_true, decide_true]
               repeat (first | with_reducible exact gA_eq _ _ _ _ | (with_reducible apply gA_ne; decide) | with_reducible apply gA_I | with_reducible apply gA_O | (with_reducible apply gA_nj; omega) | with_reducible rfl | exact gA_eq _ _ _ _))
        · repeat (first | with_reducible exact gA_eq _ _ _ _ | (with_reducible apply gA_ne; decide) | with_reducible apply gA_I | with_reducible apply gA_O | (with_reducible apply gA_nj; omega) | with_reducible rfl | exact gA_eq _ _ _ _)
        · repeat (first | with_reducible exact gA_eq _ _ _ _ | (with_reducible apply gA_ne; decide) | with_reducible apply gA_I | with_reducible apply gA_O | (with_reducible apply gA_nj; omega) | with_reducible rfl | exact gA_eq _ _ _ _)
        · repeat (first | with_reducible exact gA_eq _ _ _ _ | (with_reducible apply gA_ne; decide) | with_reducible apply gA_I | with_reducible apply gA_O | (with_reducible apply gA_nj; omega) | with_reducible rfl | exact gA_eq _ _ _ _)
        · repeat (first | with_reducible exact gA_eq _ _ _ _ | (with_reducible apply gA_ne; decide) | with_reducible apply gA_I | with_reducible apply gA_O | (with_reducible apply gA_nj; omega) | with_reducible rfl | exact gA_eq _ _ _ _)
    · refine z_aload 25 rfl rfl rfl ?_
      refine z_push 27 (-6) rfl rfl rfl ?_
      refine z_cv1 30 rfl rfl hR.1 rfl (Nat.le_refl _) (Nat.le_refl _) ?_
      refine r_tell hR (fun h9 => absurd h9 (by decide)) (fun _ h hR => ?_)
      refine z_ireti rfl (Nat.le_refl _) (Nat.le_refl _) ?_
      have e9 : sp_page A (nI K) = (-6, A.tell) := by rw [sp_page, if_pos (by omega), if_pos (by omega)]
      rw [e9] at q
      exact q h _ hR hI.tell
  · refine z_aload 10 rfl rfl rfl ?_
    refine z_push 11 (-1) rfl rfl rfl ?_
    refine z_cv1 14 rfl rfl hR.1 rfl (Nat.le_refl _) (Nat.le_refl _) ?_
    refine r_tell hR (fun h9 => absurd h9 (by decide)) (fun _ h hR => ?_)
    refine z_ireti rfl (Nat.le_refl _) (Nat.le_refl _) ?_
    rw [decide_eq_false_iff_not] at hc6
    have e9 : sp_page A k = (-1, A.tell) := if_neg hc6
    rw [e9] at q
    exact q h _ hR hI.tell
