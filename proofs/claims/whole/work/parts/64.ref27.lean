/-! the reference: aloneOf, differ -/
theorem ldB_len {H : List Sh} {s n : Nat} {f : Nat → Option (List Nat)} (hf : ∀ k l, f k = some l → l.length = n) : ∀ (m b : Nat) (l : List Nat), ldB H s f m b = some l → l.length = n + 1
  | 0, b, l, h => by cases h
  | m + 1, b, l, h => by
    unfold ldB at h
    split at h
    · exact ldB_len hf m (b + 1) l h
    · split at h
      · rename_i l' hl
        cases h
        rw [List.length_cons, hf _ _ hl]
      · exact ldB_len hf m (b + 1) l h
theorem ldW_len {H : List Sh} {to : Nat} {sg : Bool} : ∀ (n s : Nat) (l : List Nat), ldW H to sg n s = some l → l.length = n
  | 0, s, l, h => by
    unfold ldW at h
    split at h
    · cases h; rfl
    · cases h
  | n + 1, s, l, h => by
    unfold ldW at h
    refine ldB_len (fun k l' hl => ?_) _ _ l h
    split at hl
    · rename_i h0
      split at hl
      · cases hl; rw [h0]; rfl
      · cases hl
    · split at hl
      · exact ldW_len n _ l' hl
      · cases hl
theorem gw_len {H : List Sh} {to s : Nat} {sg : Bool} : ∀ (m n : Nat) (l : List Nat), gw H to sg s m n = some l → l.length < n + m
  | 0, n, l, h => by cases h
  | m + 1, n, l, h => by
    unfold gw at h
    split at h
    · rename_i l' hl
      cases h
      rw [ldW_len _ _ _ hl]; omega
    · have := gw_len m (n + 1) l h; omega
theorem gP_len {H : List Sh} {to s : Nat} {sg : Bool} {l : List Nat} (h : gP H to sg s = some l) : l.length ≤ 6 := by
  have := gw_len 7 0 l h; omega
theorem pb_len {K st ts n v : Nat} {H : List Sh} (hn : n ≤ 4) : (pbW K H st ts n v).1.length ≤ 10 := by
  have hb : (byL n v).length = n := byF_len _ _ _ _
  unfold pbW
  split
  · split
    · rename_i l hl
      have := gP_len hl
      simp only [List.length_append, List.length_map]
      omega
    · simp only; omega
  · simp only; omega
theorem gh_len {K st : Nat} {H : List Sh} : (ghW K H st).1.length ≤ 6 := by
  unfold ghW
  split
  · split
    · rename_i l hl
      have := gP_len hl
      simp only [List.length_map]
      omega
    · simp
  · simp
/-- a point written alone, with the end -/
def alW (K : Nat) (E : List En) (H : List Sh) (pt : Nat) : Option (List Nat) := match fnd K E pt with
  | none => none
  | some x => some ((pbW K H 0 x.1 x.2.1 x.2.2).1 ++ (ghW K H (pbW K H 0 x.1 x.2.1 x.2.2).2).1)
theorem alW_len {K pt : Nat} {E : List En} {H : List Sh} (hW : TbW E H) (hpt : pt < 1114112) {l : List Nat} (h : alW K E H pt = some l) : l.length ≤ 16 := by
  unfold alW at h
  split at h
  · cases h
  · rename_i x hx
    cases h
    have h1 := fnd_b hW hpt (show fnd K E pt = some (x.1, x.2.1, x.2.2) from hx)
    have h2 := pb_len (K := K) (st := 0) (ts := x.1) (v := x.2.2) (H := H) h1.2.2.1
    have h3 := gh_len (K := K) (st := (pbW K H 0 x.1 x.2.1 x.2.2).2) (H := H)
    rw [List.length_append]
    omega
def alI : Option (List Nat) → Int32
  | none => -1
  | some l => nI l.length
theorem wA65 : wO 65 45 1200 1200 false := ⟨rfl, fun _ => Nat.le_refl _, by decide, Or.inr rfl⟩
set_option maxRecDepth 100000 in
theorem r_aloneOf {d r : Nat} {h h0 : mH} {s : rS} {p K pt : Nat} {E : List En} {H : List Sh} {Q : mP} (hR : Rf r h0 s h) (hp11 : p < 11) (hk : s.2.2 1 p = K) (hK : K < 4) (hT : TbR s p E H) (hW : TbW E H) (hG : Gd K E H) (h48 : s.1 48 = 0) (hpt : pt < 1114112)  (q : ∀ h' s', Rf r h0 s' h' → Keep s s' → s'.1 22 = s.1 22 → (∀ g, g ∉ wL 65 → s'.2.2 g = s.2.2 g) → (∀ l, alW K E H pt = some l → Seg (s'.2.2 65) 0 l) → Q (some (.int (alI (alW K E H pt)))) h') : mWP (d + 12) 247 [.ref r, .int (nI p), .int (nI pt)] h Q := by
  refine z_in [some (.ref r), some (.int (nI p)), some (.int (nI pt)), none] (by rfl) rfl rfl rfl ?_
  refine z_aload 1 rfl rfl rfl ?_
  refine z_iload 2 rfl rfl rfl ?_
  refine z_iload 3 rfl rfl rfl ?_
  refine z_cv2 6 rfl rfl hR.1 rfl (Nat.le_refl _) (Nat.le_refl _) ?_
  refine r_find hR hp11 hk hK hT hW hpt (fun h s1 hR hO hF1 => ?_)
  rcases hfn : fnd K E pt with _ | ⟨ts, nn9, vv⟩
  · simp only [Option.isSome]
    refine z_bne 9 rfl rfl (fun h9 => absurd h9 (by decide)) (fun _ => ?_)
    refine z_push 10 (-1) rfl rfl rfl ?_
    refine z_ireti rfl (Nat.le_refl _) (Nat.le_refl _) ?_
    have e9 : alW K E H pt = none := by rw [alW, hfn]
    rw [e9] at q
    exact q h s1 hR (hO.keep (by decide)) (hO.1 22 (by decide)).1 (fun g hg => (hO.1 g (fun h9 => hg (by simp [wL] at h9 ⊢; omega))).2) (fun l hl => by cases hl)
  · simp only [Option.isSome]
    refine z_bne 9 rfl rfl (fun _ => ?_) (fun h9 => absurd h9 (by decide))
    refine z_aload 12 rfl rfl rfl ?_
    refine z_push 13 (nI 0) rfl rfl rfl ?_
    refine y_pi 16 hR rfl rfl rfl rfl rfl (mFi rfl) ?_
    intro h hR
    refine z_aload 17 rfl rfl rfl ?_
    refine z_aload 18 rfl rfl rfl ?_
    refine y_ga 21 hR rfl rfl rfl ?_
    refine y_po 24 (f := 65) hR rfl rfl rfl ?_
    intro h hR
    refine z_aload 25 rfl rfl rfl ?_
    refine z_push 26 (nI 0) rfl rfl rfl ?_
    refine y_pi 29 hR rfl rfl rfl rfl rfl (mFi rfl) ?_
    intro h hR
    refine z_aload 30 rfl rfl rfl ?_
    refine z_push 33 (nI 1200) rfl rfl rfl ?_
    refine y_pi 36 hR rfl rfl rfl rfl rfl (mFi rfl) ?_
    intro h hR
    refine z_aload 37 rfl rfl rfl ?_
    refine z_iload 38 rfl rfl rfl ?_
    refine z_cv1 41 rfl rfl hR.1 rfl (Nat.le_refl _) (Nat.le_refl _) ?_
    obtain ⟨hb1, hb2, hb3, hb4, hb5, hb6, hb7⟩ := fnd_b hW hpt hfn
    obtain ⟨g31, gX⟩ := hF1 ts nn9 vv hfn
    have hT1 := hO.tb (by decide) hT
    have hk1 : s1.2.2 1 p = K := by rw [(hO.1 1 (by decide)).2]; exact hk
    have hp48 : s1.1 48 = 0 := (hO.1 48 (by decide)).1.trans h48
    have hpl := pb_len (K := K) (st := 0) (ts := ts) (v := vv) (H := H) hb3
    have hgl := gh_len (K := K) (st := (pbW K H 0 ts nn9 vv).2) (H := H)
    have hw0 : WOut (stI 38 1200 (stI 37 0 (stO 65 (stI 34 0 s1)))) 65 false 1200 [] := ⟨rfl, hp48, gI_eq _ _ _, by repeat (first | with_reducible exact gI_eq _ _ _ | (with_reducible apply gI_ne; decide) | with_reducible apply gI_A | with_reducible apply gI_O | with_reducible rfl | exact gI_eq _ _ _), Nat.zero_le _, fun _ j hj => absurd hj (Nat.not_lt_zero j)⟩
    refine r_putPoint (s := (stI 38 1200 (stI 37 0 (stO 65 (stI 34 0 s1))))) (st := 0) hR hk1 hK hT1 hW (by decide) (by repeat (first | with_reducible exact gI_eq _ _ _ | (with_reducible apply gI_ne; decide) | with_reducible apply gI_A | with_reducible apply gI_O | with_reducible rfl | exact gI_eq _ _ _)) wA65 hw0 hb1 hb3 g31 gX (pb_ok hG (SOk0 K H) hfn).1 ⟨fun hle h s2 hR hO2 hw2 g34 => ?_, fun hlt => absurd hlt (by simp only [List.length_nil]; omega)⟩
    rw [List.nil_append] at hw2
    have hs2 := (pb_ok hG (SOk0 K H) hfn).2
    · skip
      refine z_istore 42 rfl rfl rfl rfl ?_
      refine z_aload 43 rfl rfl rfl ?_
      refine z_iload 44 rfl rfl rfl ?_
      refine z_cv1 47 rfl rfl hR.1 rfl (Nat.le_refl _) (Nat.le_refl _) ?_
      have hK12 : Keep s s2 := ((((((hO.keep (by decide)).I rfl).O).I rfl).I rfl)).trans (hO2.keep (by decide))
      refine r_goHome hR (by rw [(hK12 1 rfl).2]; exact hk) hK (hT.k hK12) hW hs2.1 g34 wA65 hw2 (gh_g hG hs2) ⟨fun hle2 h s3 hR hO3 hw3 g34b => ?_, fun hlt => absurd hlt (by omega)⟩
      have h37 : s3.1 37 = ((pbW K H 0 ts nn9 vv).1 ++ (ghW K H (pbW K H 0 ts nn9 vv).2).1).length := hw3.2.2.2.1
      · skip
        refine z_zne 50 rfl rfl (by omega) (fun h9 => absurd h9 (by omega)) (fun _ => ?_)
        refine z_iload 51 rfl rfl rfl ?_
        refine z_zne 54 rfl rfl (by omega) (fun h9 => absurd h9 (by omega)) (fun _ => ?_)
        refine z_aload 55 rfl rfl rfl ?_
        refine y_gi 58 _ hR rfl rfl rfl rfl rfl (by repeat (first | with_reducible exact gI_eq _ _ _ | (with_reducible apply gI_ne; decide) | with_reducible apply gI_A | with_reducible apply gI_O | with_reducible exact h37 | with_reducible rfl)) ?_
        refine z_goto rfl ?_
        refine z_ireti rfl (Nat.le_refl _) (Nat.le_refl _) ?_
        have e9 : alW K E H pt = some ((pbW K H 0 ts nn9 vv).1 ++ (ghW K H (pbW K H 0 ts nn9 vv).2).1) := by rw [alW, hfn]
        rw [e9] at q
        refine q h s3 hR (hK12.trans (hO3.keep (by decide))) ?_ (fun g hg => ?_) (fun l hl => by cases hl; exact hw3.2.2.2.2.2 rfl)
        · rw [(hO3.1 22 (by decide)).1, (hO2.1 22 (by decide)).1]
          exact (hO.1 22 (by decide)).1
        · rw [(hO3.1 g hg).2, (hO2.1 g hg).2]
          exact (hO.1 g (fun h9 => hg (by simp [wL] at h9 ⊢; omega))).2
def dfP (A : Ab) (P U v : Nat) : Bool := nPt v && !decide (alW (pgK A.pgs P) (pgE A.pgs P) (pgH A.pgs P) v = alW (pgK A.pgs U) (pgE A.pgs U) (pgH A.pgs U) v)
def sp_differ (A : Ab) (p q f : Int32) : Int32 × Ab :=
  if (0 ≤ p.toInt ∧ p.toInt < A.pgs.length) ∧ (0 ≤ q.toInt ∧ q.toInt < A.pgs.length) then
    if pgC A.pgs p.toInt.toNat = true ∧ pgC A.pgs q.toInt.toNat = true then
      if 0 ≤ f.toInt ∧ f.toInt ≤ 1114111 then
        match ffd (dfP A p.toInt.toNat q.toInt.toNat) (min (f.toInt.toNat + 4096) 1114112 - f.toInt.toNat) f.toInt.toNat with
        | some v => (nI v, A)
        | none => (-2, A.tell)
      else (-1, A.tell)
    else (-5, A.tell)
  else (-1, A.tell)
theorem minN (a b : Nat) : ∃ N, min a b = N ∧ N ≤ a ∧ N ≤ b ∧ (N = a ∨ N = b) := ⟨min a b, rfl, Nat.min_le_left _ _, Nat.min_le_right _ _, by omega⟩
theorem list_ext9 {a b : List Nat} (h : a.length = b.length) (h2 : ∀ k, k < a.length → a.getD k 0 = b.getD k 0) : a = b := by
  refine List.ext_getElem h (fun k h1 h3 => ?_)
  have := h2 k h1
  rw [List.getD_eq_getElem?_getD, List.getD_eq_getElem?_getD, List.getElem?_eq_getElem h1, List.getElem?_eq_getElem h3] at this
  exact this
theorem gw_b {H : List Sh} {to s : Nat} {sg : Bool} : ∀ (m n : Nat) (l : List Nat), gw H to sg s m n = some l → ∀ x, x ∈ l → x < H.length
  | 0, n, l, h => by cases h
  | m + 1, n, l, h => by
    unfold gw at h
    split at h
    · rename_i l' hl
      cases h
      exact ldW_b _ _ _ hl
    · exact gw_b m (n + 1) l h
theorem gP_v {E : List En} {H : List Sh} {to s : Nat} {sg : Bool} {l : List Nat} (hW : TbW E H) (h : gP H to sg s = some l) : ∀ x, x ∈ l.map (shV H) → x < 256 := by
  intro x hx
  obtain ⟨k, hk, rfl⟩ := List.mem_map.mp hx
  exact (hW.2.2.2 k (gw_b _ _ _ h k hk)).2.1
theorem byF_v (n v : Nat) : ∀ (k i x : Nat), x ∈ byF n v k i → x < 256
  | 0, i, x, h => by cases h
  | k + 1, i, x, h => by
    rw [byF] at h
    rcases List.mem_cons.mp h with rfl | h
    · exact bt_lt _ _ _
    · exact byF_v n v k (i + 1) x h
theorem pb_v {K st ts n v : Nat} {E : List En} {H : List Sh} (hW : TbW E H) : ∀ x, x ∈ (pbW K H st ts n v).1 → x < 256 := by
  unfold pbW
  split
  · split
    · rename_i l hl
      intro x hx
      rcases List.mem_append.mp hx with hx | hx
      · exact gP_v hW hl x hx
      · exact byF_v _ _ _ _ x hx
    · exact byF_v _ _ _ _
  · exact byF_v _ _ _ _
theorem gh_v {K st : Nat} {E : List En} {H : List Sh} (hW : TbW E H) : ∀ x, x ∈ (ghW K H st).1 → x < 256 := by
  unfold ghW
  split
  · split
    · rename_i l hl; exact gP_v hW hl
    · intro x hx; cases hx
  · intro x hx; cases hx
theorem alW_v {K pt : Nat} {E : List En} {H : List Sh} (hW : TbW E H) {l : List Nat} (h : alW K E H pt = some l) : ∀ x, x ∈ l → x < 256 := by
  unfold alW at h
  split at h
  · cases h
  · cases h
    intro x hx
    rcases List.mem_append.mp hx with hx | hx
    · exact pb_v hW x hx
    · exact gh_v hW x hx
set_option maxRecDepth 100000 in
theorem r_differ {d r : Nat} {h h0 : mH} {s : rS} {A : Ab} {p q f : Int32} {Q : mP} (hR : Rf r h0 s h) (hI : RInv s A) (hAW : AbW A)  (Q1 : ∀ h' s', Rf r h0 s' h' → RInv s' (sp_differ A p q f).2 → Q (some (.int (sp_differ A p q f).1)) h') : mWP (d + 13) 248 [.ref r, .int p, .int q, .int f] h Q := by
  have hG := hI.1
  have hG2 := hG.2.1
  obtain ⟨hB, hK, hGd, hbb, hub, hs1, hs2, hFW, hFd⟩ := hAW
  have f0 : s.1 0 = A.pgs.length := hI.1.1
  have f14 : s.1 14 = A.bys.length := hI.2.1.1
  have f16 : s.1 16 = A.uns.length := hI.2.2.1.1
  have f18 : s.1 18 = A.res.2.length := hI.2.2.2.1.1
  have f19 : s.1 19 = A.res.1 := hI.2.2.2.1.2.2.1
  have f22 : s.1 22 = A.plc := hI.2.2.2.2.2.2.2.1
  have f24 : s.1 24 = A.fnd := hI.2.2.2.2.2.2.2.2.2.1
  have f25 : s.1 25 = A.fbs.length := hI.2.2.2.2.2.1.1
  have f48 : s.1 48 = 0 := hI.2.2.2.2.2.2.2.2.2.2
  have l0 : A.pgs.length ≤ 10 := hI.1.2.1
  have l14 : A.bys.length ≤ 1000 := hI.2.1.2.1
  have l16 : A.uns.length ≤ 1000 := hI.2.2.1.2.1
  have l18 : A.res.2.length ≤ 6000 := hI.2.2.2.1.2.1
  have l25 : A.fbs.length ≤ 40 := hI.2.2.2.2.2.1.2.1
  refine z_in [some (.ref r), some (.int p), some (.int q), some (.int f), none, none, none, none] (by rfl) rfl rfl rfl ?_
  refine z_aload 1 rfl rfl rfl ?_
  refine z_iload 2 rfl rfl rfl ?_
  refine z_cv1 5 rfl rfl hR.1 rfl (Nat.le_refl _) (Nat.le_refl _) ?_
  refine r_isPage hR hG.1 hG.2.1 ?_
  first | refine z_beq 8 rfl rfl (fun hc5 => ?_) (fun hc5 => ?_)
  · refine z_aload 17 rfl rfl rfl ?_
    refine z_push 18 (-1) rfl rfl rfl ?_
    refine z_cv1 21 rfl rfl hR.1 rfl (Nat.le_refl _) (Nat.le_refl _) ?_
    refine r_tell hR (fun h9 => absurd h9 (by decide)) (fun _ h hR => ?_)
    refine z_ireti rfl (Nat.le_refl _) (Nat.le_refl _) ?_
    have e9 : sp_differ A p q f = (-1, A.tell) := if_neg (fun h9 => by
      first | (rw [decide_eq_false_iff_not] at hc5; exact hc5 h9.1) | (rw [decide_eq_false_iff_not] at hc13; exact hc13 h9.2))
    rw [e9] at Q1
    exact Q1 h _ hR hI.tell
  · rw [decide_eq_true_eq] at hc5
    obtain ⟨P, hP, rfl, hp1, hp2⟩ := ix_of hc5
    obtain ⟨hg1, hg2, hT⟩ := hG.2.2 P hP
    refine z_aload 9 rfl rfl rfl ?_
    refine z_iload 10 rfl rfl rfl ?_
    refine z_cv1 13 rfl rfl hR.1 rfl (Nat.le_refl _) (Nat.le_refl _) ?_
    refine r_isPage hR hG.1 hG.2.1 ?_
    first | refine z_bne 16 rfl rfl (fun hc13 => ?_) (fun hc13 => ?_)
    · rw [decide_eq_true_eq] at hc13
      obtain ⟨U, hU, rfl, hu1, hu2⟩ := ix_of hc13
      obtain ⟨hu3, hu4, hTU⟩ := hG.2.2 U hU
      refine z_aload 23 rfl rfl rfl ?_
      refine y_ga 26 hR rfl rfl rfl ?_
      refine z_iload 27 rfl rfl rfl ?_
      refine y_bb (f := 2) 28 _ hR rfl rfl rfl rfl (by omega) (by repeat (first | with_reducible exact hg2 | with_reducible exact hu4 | with_reducible exact gA_eq _ _ _ _ | (with_reducible apply gA_ne; decide) | with_reducible apply gA_I | with_reducible apply gA_O | (with_reducible apply gA_nj; omega) | with_reducible rfl)) ?_
      first | refine z_beq 31 rfl rfl (fun hc28 => ?_) (fun hc28 => ?_)
      · refine z_aload 41 rfl rfl rfl ?_
        refine z_push 43 (-5) rfl rfl rfl ?_
        refine z_cv1 46 rfl rfl hR.1 rfl (Nat.le_refl _) (Nat.le_refl _) ?_
        refine r_tell hR (fun h9 => absurd h9 (by decide)) (fun _ h hR => ?_)
        refine z_ireti rfl (Nat.le_refl _) (Nat.le_refl _) ?_
        have e9 : sp_differ A (nI P) (nI U) f = (-5, A.tell) := by
          rw [sp_differ, if_pos ⟨hc5, hc13⟩, hp2, hu2, if_neg ?_]
          intro h9
          first | (rw [hc28] at h9; exact absurd h9.1 (by decide)) | (rw [hc37] at h9; exact absurd h9.2 (by decide))
        rw [e9] at Q1
        exact Q1 h _ hR hI.tell
      · refine z_aload 32 rfl rfl rfl ?_
        refine y_ga 35 hR rfl rfl rfl ?_
        refine z_iload 36 rfl rfl rfl ?_
        refine y_bb (f := 2) 37 _ hR rfl rfl rfl rfl (by omega) (by repeat (first | with_reducible exact hg2 | with_reducible exact hu4 | with_reducible exact gA_eq _ _ _ _ | (with_reducible apply gA_ne; decide) | with_reducible apply gA_I | with_reducible apply gA_O | (with_reducible apply gA_nj; omega) | with_reducible rfl)) ?_
        first | refine z_bne 40 rfl rfl (fun hc37 => ?_) (fun hc37 => ?_)
        · refine z_iload 48 rfl rfl rfl ?_
          refine z_push 49 (nI 0) rfl rfl rfl ?_
          refine z_push 51 (nI 1114111) rfl rfl rfl ?_
          refine z_cs3 54 rfl rfl rfl (Nat.le_refl _) (Nat.le_refl _) ?_
          refine r_in ?_
          rw [jIn_l (by omega) (by omega)]
          first | refine z_bne 57 rfl rfl (fun hc54 => ?_) (fun hc54 => ?_)
          · rw [decide_eq_true_eq] at hc54
            obtain ⟨f, hfl, rfl, hf1, hf2⟩ := ix_of (x := f) (n := 1114112) (by omega)
            have e9 : sp_differ A (nI P) (nI U) (nI f) = (match ffd (dfP A P U) (min (f + 4096) 1114112 - f) f with | some v => (nI v, A) | none => (-2, A.tell)) := by
              rw [sp_differ, if_pos ⟨hc5, hc13⟩, hp2, hu2, if_pos ⟨hc28, hc37⟩, if_pos (by omega), hf2]
            obtain ⟨N, hN0, hN1, hN2, hN3⟩ := minN (f + 4096) 1114112
            rw [hN0] at e9
            clear hN0
            have loop : ∀ m v s1 h o5 o6 o7, N < v + m → v ≤ N → ffd (dfP A P U) (N - f) f = ffd (dfP A P U) (N - v) v → Rf r h0 s1 h → RInv s1 A → mZ (d + 12) tk_248 0 0 Q 66 [some (.ref r), some (.int (nI P)), some (.int (nI U)), some (.int (nI f)), some (.int (nI v)), o5, o6, o7] [] h 0 0 := by
              intro m
              induction m with
              | zero => intro v s1 h o5 o6 o7 h1 h2; omega
              | succ m ih =>
                intro v s1 h o5 o6 o7 h1 h2 hF hR hI1
                refine z_iload 68 rfl rfl rfl ?_
                refine z_iload 69 rfl rfl rfl ?_
                refine z_push 72 (nI 4096) rfl rfl rfl ?_
                refine z_bop 73 _ rfl rfl (by first | with_reducible exact zb_0 _ _ | exact zd_0 _ _) ?_
                refine z_nge 76 rfl rfl (by omega) (by omega) (fun hc73 => ?_) (fun hc73 => ?_)
                · refine z_aload 212 rfl rfl rfl ?_
                  refine z_push 214 (-2) rfl rfl rfl ?_
                  refine z_cv1 217 rfl rfl hR.1 rfl (Nat.le_refl _) (Nat.le_refl _) ?_
                  refine r_tell hR (fun h9 => absurd h9 (by decide)) (fun _ h hR => ?_)
                  refine z_ireti rfl (Nat.le_refl _) (Nat.le_refl _) ?_
                  rw [hF, show N - v = 0 by omega] at e9
                  have e9 : sp_differ A (nI P) (nI U) (nI f) = (-2, A.tell) := e9
                  rw [e9] at Q1
                  exact Q1 h _ hR hI1.tell
                · refine z_iload 78 rfl rfl rfl ?_
                  refine z_push 80 (nI 1114111) rfl rfl rfl ?_
                  refine z_ngt 83 rfl rfl (by omega) (by omega) (fun hc80 => ?_) (fun hc80 => ?_)
                  · refine z_aload 212 rfl rfl rfl ?_
                    refine z_push 214 (-2) rfl rfl rfl ?_
                    refine z_cv1 217 rfl rfl hR.1 rfl (Nat.le_refl _) (Nat.le_refl _) ?_
                    refine r_tell hR (fun h9 => absurd h9 (by decide)) (fun _ h hR => ?_)
                    refine z_ireti rfl (Nat.le_refl _) (Nat.le_refl _) ?_
                    rw [hF, show N - v = 0 by omega] at e9
                    have e9 : sp_differ A (nI P) (nI U) (nI f) = (-2, A.tell) := e9
                    rw [e9] at Q1
                    exact Q1 h _ hR hI1.tell
                  · refine z_iload 85 rfl rfl rfl ?_
                    refine z_cs1 88 rfl rfl rfl (Nat.le_refl _) (Nat.le_refl _) ?_
                    refine r_isPoint ?_
                    rw [jPoint_nn (by omega)]
                    generalize hjq : nPt v = jq
                    first | refine z_bne 91 rfl rfl (fun hc88 => ?_) (fun hc88 => ?_)
                    · refine z_aload 95 rfl rfl rfl ?_
                      refine z_iload 96 rfl rfl rfl ?_
                      refine z_iload 98 rfl rfl rfl ?_
                      refine z_cv2 101 rfl rfl hR.1 rfl (Nat.le_refl _) (Nat.le_refl _) ?_
                      refine r_aloneOf hR (by omega) (hI1.1.2.2 P hP).1 (hK P hP) (hI1.1.2.2 P hP).2.2 (hB P hP) (hGd P hP hc28) hI1.2.2.2.2.2.2.2.2.2.2 (by omega) (fun h s2 hR hKp2 g222 hfa2 hal2 => ?_)
                      have hI2 := hI1.k0 hKp2 g222
                      rcases ea1 : (alW (pgK A.pgs P) (pgE A.pgs P) (pgH A.pgs P) v) with _ | l1
                      · simp only [alI]
                        refine z_istore 103 rfl rfl rfl rfl ?_
                        refine z_push 104 (nI 0) rfl rfl rfl ?_
                        refine z_istore 106 rfl rfl rfl rfl ?_
                        refine z_iload 108 rfl rfl rfl ?_
                        refine z_iload 110 rfl rfl rfl ?_
                        refine z_tge 113 rfl rfl (fun _ => ?_) (fun h9 => absurd h9 (by decide))
                        refine z_aload 134 rfl rfl rfl ?_
                        refine z_iload 135 rfl rfl rfl ?_
                        refine z_iload 137 rfl rfl rfl ?_
                        refine z_cv2 140 rfl rfl hR.1 rfl (Nat.le_refl _) (Nat.le_refl _) ?_
                        refine r_aloneOf hR (by omega) (hI2.1.2.2 U hU).1 (hK U hU) (hI2.1.2.2 U hU).2.2 (hB U hU) (hGd U hU hc37) hI2.2.2.2.2.2.2.2.2.2.2 (by omega) (fun h s3 hR hKp3 g223 hfa3 hal3 => ?_)
                        have hI3 := hI2.k0 hKp3 g223
                        rcases ea2 : (alW (pgK A.pgs U) (pgE A.pgs U) (pgH A.pgs U) v) with _ | l2
                        · simp only [alI]
                          refine z_iload 142 rfl rfl rfl ?_
                          refine z_cne 145 rfl rfl (fun h9 => absurd h9 (by decide)) (fun _ => ?_)
                          refine z_push 146 (nI 1) rfl rfl rfl ?_
                          refine z_goto rfl ?_
                          refine z_istore 152 rfl rfl rfl rfl ?_
                          refine z_push 153 (nI 0) rfl rfl rfl ?_
                          refine z_istore 155 rfl rfl rfl rfl ?_
                          refine z_iload 157 rfl rfl rfl ?_
                          refine z_iload 159 rfl rfl rfl ?_
                          refine z_tge 162 rfl rfl (fun _ => ?_) (fun h9 => absurd h9 (by decide))
                          refine z_iload 199 rfl rfl rfl ?_
                          refine z_zne 202 rfl rfl (by omega) (fun _ => ?_) (fun h9 => absurd h9 (by omega))
                          refine z_iinc 208 _ rfl rfl rfl rfl (by first | with_reducible exact zi_1 _ | rfl) ?_
                          refine z_goto rfl ?_
                          have DV : dfP A P U v = false := by rw [dfP, hjq]; rw [ea1, ea2]; simp
                          have h9 := fun o5 o6 o7 => ih (v + 1) s3 h o5 o6 o7 (by omega) (by omega) (by rw [hF, ffd_no (by omega) DV]) hR hI3
                          exact h9 _ _ _
                        · simp only [alI]
                          have h16b := alW_len (hB U hU) (by omega) ea2
                          have hm1 : (nI l2.length).toInt = l2.length := nI_toInt (by omega)
                          have hneg : (-1 : Int32).toInt = -1 := by decide
                          refine z_iload 142 rfl rfl rfl ?_
                          refine z_tne 145 rfl rfl (fun _ => ?_) (fun h9 => absurd h9 (by omega))
                          refine z_push 150 (nI 0) rfl rfl rfl ?_
                          refine z_istore 152 rfl rfl rfl rfl ?_
                          refine z_push 153 (nI 0) rfl rfl rfl ?_
                          refine z_istore 155 rfl rfl rfl rfl ?_
                          refine z_iload 157 rfl rfl rfl ?_
                          refine z_iload 159 rfl rfl rfl ?_
                          refine z_tge 162 rfl rfl (fun _ => ?_) (fun h9 => absurd h9 (by decide))
                          refine z_iload 199 rfl rfl rfl ?_
                          refine z_zne 202 rfl rfl (by omega) (fun h9 => absurd h9 (by omega)) (fun _ => ?_)
                          refine z_iload 204 rfl rfl rfl ?_
                          refine z_ireti rfl (Nat.le_refl _) (Nat.le_refl _) ?_
                          have DV : dfP A P U v = true := by rw [dfP, hjq, hc88]; rw [ea1, ea2]; rfl
                          rw [hF, ffd_yes (by omega) DV] at e9
                          rw [e9] at Q1
                          exact Q1 h s3 hR hI3
                      · simp only [alI]
                        have h16 := alW_len (hB P hP) (by omega) ea1
                        have copy : ∀ m9 k s3 h, l1.length < k + m9 → k ≤ l1.length → Rf r h0 s3 h → RInv s3 A → (∀ j, j < l1.length → s3.2.2 65 j = l1.getD j 0) → (∀ j, j < k → s3.2.2 66 j = l1.getD j 0) → mZ (d + 12) tk_248 0 0 Q 106 [some (.ref r), some (.int (nI P)), some (.int (nI U)), some (.int (nI f)), some (.int (nI v)), some (.int (nI l1.length)), some (.int (nI k)), o7] [] h 0 0 := by
                          intro m9
                          induction m9 with
                          | zero => intro k s3 h h1 h2; omega
                          | succ m9 ihc =>
                            intro k s3 h h1 h2 hR hI3 w65 k66
                            refine z_iload 108 rfl rfl rfl ?_
                            refine z_iload 110 rfl rfl rfl ?_
                            refine z_nge 113 rfl rfl (by omega) (by omega) (fun hc110 => ?_) (fun hc110 => ?_)
                            · obtain rfl : k = l1.length := by omega
                              refine z_aload 134 rfl rfl rfl ?_
                              refine z_iload 135 rfl rfl rfl ?_
                              refine z_iload 137 rfl rfl rfl ?_
                              refine z_cv2 140 rfl rfl hR.1 rfl (Nat.le_refl _) (Nat.le_refl _) ?_
                              refine r_aloneOf hR (by omega) (hI3.1.2.2 U hU).1 (hK U hU) (hI3.1.2.2 U hU).2.2 (hB U hU) (hGd U hU hc37) hI3.2.2.2.2.2.2.2.2.2.2 (by omega) (fun h s4 hR hKp4 g224 hfa4 hal4 => ?_)
                              have hI4 := hI3.k0 hKp4 g224
                              rcases ea2 : (alW (pgK A.pgs U) (pgE A.pgs U) (pgH A.pgs U) v) with _ | l2
                              · simp only [alI]
                                have hm1 : (nI l1.length).toInt = l1.length := nI_toInt (by omega)
                                have hneg : (-1 : Int32).toInt = -1 := by decide
                                refine z_iload 142 rfl rfl rfl ?_
                                refine z_tne 145 rfl rfl (fun _ => ?_) (fun h9 => absurd h9 (by omega))
                                refine z_push 150 (nI 0) rfl rfl rfl ?_
                                refine z_istore 152 rfl rfl rfl rfl ?_
                                refine z_push 153 (nI 0) rfl rfl rfl ?_
                                refine z_istore 155 rfl rfl rfl rfl ?_
                                refine z_iload 157 rfl rfl rfl ?_
                                refine z_iload 159 rfl rfl rfl ?_
                                refine z_nge 162 rfl rfl (by omega) (by omega) (fun hc159 => ?_) (fun hc159 => ?_)
                                · refine z_iload 199 rfl rfl rfl ?_
                                  refine z_zne 202 rfl rfl (by omega) (fun h9 => absurd h9 (by omega)) (fun _ => ?_)
                                  refine z_iload 204 rfl rfl rfl ?_
                                  refine z_ireti rfl (Nat.le_refl _) (Nat.le_refl _) ?_
                                  have DV : dfP A P U v = true := by rw [dfP, hjq, hc88]; rw [ea1, ea2]; rfl
                                  rw [hF, ffd_yes (by omega) DV] at e9
                                  rw [e9] at Q1
                                  exact Q1 h s4 hR hI4
                                · refine z_iload 164 rfl rfl rfl ?_
                                  refine z_zeq 167 rfl rfl (by omega) (fun _ => ?_) (fun h9 => absurd h9 (by omega))
                                  refine z_iload 199 rfl rfl rfl ?_
                                  refine z_zne 202 rfl rfl (by omega) (fun h9 => absurd h9 (by omega)) (fun _ => ?_)
                                  refine z_iload 204 rfl rfl rfl ?_
                                  refine z_ireti rfl (Nat.le_refl _) (Nat.le_refl _) ?_
                                  have DV : dfP A P U v = true := by rw [dfP, hjq, hc88]; rw [ea1, ea2]; rfl
                                  rw [hF, ffd_yes (by omega) DV] at e9
                                  rw [e9] at Q1
                                  exact Q1 h s4 hR hI4
                              · simp only [alI]
                                have w65 : ∀ j, j < l2.length → s4.2.2 65 j = l2.getD j 0 := fun j hj => by have := hal4 l2 ea2 j hj; rw [Nat.zero_add] at this; exact this
                                have w66 : ∀ j, j < l1.length → s4.2.2 66 j = l1.getD j 0 := fun j hj => by rw [hfa4 66 (by decide)]; exact k66 j hj
                                have h16b := alW_len (hB U hU) (by omega) ea2
                                have cmp : l1.length = l2.length → ∀ m9 k, l1.length < k + m9 → k ≤ l1.length → (∀ j, j < k → l1.getD j 0 = l2.getD j 0) → mZ (d + 12) tk_248 0 0 Q 155 [some (.ref r), some (.int (nI P)), some (.int (nI U)), some (.int (nI f)), some (.int (nI v)), some (.int (nI l1.length)), some (.int (nI 1)), some (.int (nI k))] [] h 0 0 := by
                                  intro hc142 m9
                                  induction m9 with
                                  | zero => intro k h1 h2; omega
                                  | succ m9 ihc =>
                                    intro k h1 h2 hpre
                                    have hv1 := getD_all (alW_v (hB P hP) ea1) (by decide) k
                                    have hv2 := getD_all (alW_v (hB U hU) ea2) (by decide) k
                                    refine z_iload 157 rfl rfl rfl ?_
                                    refine z_iload 159 rfl rfl rfl ?_
                                    refine z_nge 162 rfl rfl (by omega) (by omega) (fun hc159 => ?_) (fun hc159 => ?_)
                                    · refine z_iload 199 rfl rfl rfl ?_
                                      refine z_zne 202 rfl rfl (by omega) (fun _ => ?_) (fun h9 => absurd h9 (by omega))
                                      refine z_iinc 208 _ rfl rfl rfl rfl (by first | with_reducible exact zi_1 _ | rfl) ?_
                                      refine z_goto rfl ?_
                                      have DV : dfP A P U v = false := by rw [dfP, hjq]; rw [ea1, ea2, list_ext9 hc142 (fun j hj => hpre j (by omega))]; simp
                                      have h9 := fun o5 o6 o7 => ih (v + 1) s4 h o5 o6 o7 (by omega) (by omega) (by rw [hF, ffd_no (by omega) DV]) hR hI4
                                      exact h9 _ _ _
                                    · refine z_iload 164 rfl rfl rfl ?_
                                      refine z_zeq 167 rfl rfl (by omega) (fun h9 => absurd h9 (by omega)) (fun _ => ?_)
                                      refine z_aload 168 rfl rfl rfl ?_
                                      refine y_ga 171 hR rfl rfl rfl ?_
                                      refine z_iload 173 rfl rfl rfl ?_
                                      refine y_al (f := 66) 174 _ hR rfl rfl rfl rfl (by omega) (by repeat (first | with_reducible exact w66 k (by omega) | with_reducible exact w65 k (by omega) | with_reducible exact gA_eq _ _ _ _ | (with_reducible apply gA_ne; decide) | with_reducible apply gA_I | with_reducible apply gA_O | (with_reducible apply gA_nj; omega) | with_reducible rfl)) ?_
                                      refine z_aload 175 rfl rfl rfl ?_
                                      refine y_ga 178 hR rfl rfl rfl ?_
                                      refine z_iload 180 rfl rfl rfl ?_
                                      refine y_al (f := 65) 181 _ hR rfl rfl rfl rfl (by omega) (by repeat (first | with_reducible exact w66 k (by omega) | with_reducible exact w65 k (by omega) | with_reducible exact gA_eq _ _ _ _ | (with_reducible apply gA_ne; decide) | with_reducible apply gA_I | with_reducible apply gA_O | (with_reducible apply gA_nj; omega) | with_reducible rfl)) ?_
                                      refine z_cne 184 rfl rfl (fun hc181 => ?_) (fun hc181 => ?_)
                                      · refine z_push 189 (nI 0) rfl rfl rfl ?_
                                        refine z_istore 191 rfl rfl rfl rfl ?_
                                        refine z_iinc 194 _ rfl rfl rfl rfl (by first | with_reducible exact zi_1 _ | rfl) ?_
                                        refine z_goto rfl ?_
                                        refine z_iload 157 rfl rfl rfl ?_
                                        refine z_iload 159 rfl rfl rfl ?_
                                        refine z_nge 162 rfl rfl (by omega) (by omega) (fun hc159 => ?_) (fun hc159 => ?_)
                                        · refine z_iload 199 rfl rfl rfl ?_
                                          refine z_zne 202 rfl rfl (by omega) (fun h9 => absurd h9 (by omega)) (fun _ => ?_)
                                          refine z_iload 204 rfl rfl rfl ?_
                                          refine z_ireti rfl (Nat.le_refl _) (Nat.le_refl _) ?_
                                          have DV : dfP A P U v = true := by rw [dfP, hjq, hc88]; rw [ea1, ea2]; simp only [Option.some.injEq, Bool.true_and, Bool.not_eq_true', decide_eq_false_iff_not]; intro h8; exact hc181 (by rw [h8])
                                          rw [hF, ffd_yes (by omega) DV] at e9
                                          rw [e9] at Q1
                                          exact Q1 h s4 hR hI4
                                        · refine z_iload 164 rfl rfl rfl ?_
                                          refine z_zeq 167 rfl rfl (by omega) (fun _ => ?_) (fun h9 => absurd h9 (by omega))
                                          refine z_iload 199 rfl rfl rfl ?_
                                          refine z_zne 202 rfl rfl (by omega) (fun h9 => absurd h9 (by omega)) (fun _ => ?_)
                                          refine z_iload 204 rfl rfl rfl ?_
                                          refine z_ireti rfl (Nat.le_refl _) (Nat.le_refl _) ?_
                                          have DV : dfP A P U v = true := by rw [dfP, hjq, hc88]; rw [ea1, ea2]; simp only [Option.some.injEq, Bool.true_and, Bool.not_eq_true', decide_eq_false_iff_not]; intro h8; exact hc181 (by rw [h8])
                                          rw [hF, ffd_yes (by omega) DV] at e9
                                          rw [e9] at Q1
                                          exact Q1 h s4 hR hI4
                                      · refine z_push 185 (nI 1) rfl rfl rfl ?_
                                        refine z_goto rfl ?_
                                        refine z_istore 191 rfl rfl rfl rfl ?_
                                        refine z_iinc 194 _ rfl rfl rfl rfl (by first | with_reducible exact zi_1 _ | rfl) ?_
                                        refine z_goto rfl ?_
                                        exact ihc (k + 1) (by omega) (by omega) (lt_s9 hpre ((nI_eq (by omega) (by omega)).mp hc181))
                                refine z_iload 142 rfl rfl rfl ?_
                                refine z_nne 145 rfl rfl (by omega) (by omega) (fun hc142 => ?_) (fun hc142 => ?_)
                                · refine z_push 150 (nI 0) rfl rfl rfl ?_
                                  refine z_istore 152 rfl rfl rfl rfl ?_
                                  refine z_push 153 (nI 0) rfl rfl rfl ?_
                                  refine z_istore 155 rfl rfl rfl rfl ?_
                                  refine z_iload 157 rfl rfl rfl ?_
                                  refine z_iload 159 rfl rfl rfl ?_
                                  refine z_nge 162 rfl rfl (by omega) (by omega) (fun hc159 => ?_) (fun hc159 => ?_)
                                  · refine z_iload 199 rfl rfl rfl ?_
                                    refine z_zne 202 rfl rfl (by omega) (fun h9 => absurd h9 (by omega)) (fun _ => ?_)
                                    refine z_iload 204 rfl rfl rfl ?_
                                    refine z_ireti rfl (Nat.le_refl _) (Nat.le_refl _) ?_
                                    have DV : dfP A P U v = true := by rw [dfP, hjq, hc88]; rw [ea1, ea2]; simp only [Option.some.injEq, Bool.true_and, Bool.not_eq_true', decide_eq_false_iff_not]; intro h8; exact hc142 (by rw [h8])
                                    rw [hF, ffd_yes (by omega) DV] at e9
                                    rw [e9] at Q1
                                    exact Q1 h s4 hR hI4
                                  · refine z_iload 164 rfl rfl rfl ?_
                                    refine z_zeq 167 rfl rfl (by omega) (fun _ => ?_) (fun h9 => absurd h9 (by omega))
                                    refine z_iload 199 rfl rfl rfl ?_
                                    refine z_zne 202 rfl rfl (by omega) (fun h9 => absurd h9 (by omega)) (fun _ => ?_)
                                    refine z_iload 204 rfl rfl rfl ?_
                                    refine z_ireti rfl (Nat.le_refl _) (Nat.le_refl _) ?_
                                    have DV : dfP A P U v = true := by rw [dfP, hjq, hc88]; rw [ea1, ea2]; simp only [Option.some.injEq, Bool.true_and, Bool.not_eq_true', decide_eq_false_iff_not]; intro h8; exact hc142 (by rw [h8])
                                    rw [hF, ffd_yes (by omega) DV] at e9
                                    rw [e9] at Q1
                                    exact Q1 h s4 hR hI4
                                · refine z_push 146 (nI 1) rfl rfl rfl ?_
                                  refine z_goto rfl ?_
                                  refine z_istore 152 rfl rfl rfl rfl ?_
                                  refine z_push 153 (nI 0) rfl rfl rfl ?_
                                  refine z_istore 155 rfl rfl rfl rfl ?_
                                  exact cmp hc142.symm (l1.length + 1) 0 (by omega) (by omega) (fun j hj => absurd hj (by omega))
                            · refine z_aload 114 rfl rfl rfl ?_
                              refine y_ga 117 hR rfl rfl rfl ?_
                              refine z_iload 119 rfl rfl rfl ?_
                              refine z_aload 120 rfl rfl rfl ?_
                              refine y_ga 123 hR rfl rfl rfl ?_
                              refine z_iload 125 rfl rfl rfl ?_
                              refine y_al (f := 65) 126 _ hR rfl rfl rfl rfl (by omega) (by repeat (first | with_reducible exact w65 k (by omega) | with_reducible exact gA_eq _ _ _ _ | (with_reducible apply gA_ne; decide) | with_reducible apply gA_I | with_reducible apply gA_O | (with_reducible apply gA_nj; omega) | with_reducible rfl)) ?_
                              refine y_as (f := 66) 127 hR rfl rfl rfl rfl (by omega) ?_
                              intro h hR
                              refine z_iinc 130 _ rfl rfl rfl rfl (by first | with_reducible exact zi_1 _ | rfl) ?_
                              refine z_goto rfl ?_
                              exact ihc (k + 1) _ h (by omega) (by omega) hR (hI3.k0 (Keep.rfl.A rfl) rfl) (fun j hj => (gA_ne (by decide) rfl).trans (w65 j hj)) (fun j hj => by by_cases e : j = k; (subst e; exact gA_eq _ _ _ _); exact (gA_nj e rfl).trans (k66 j (by omega)))
                        refine z_istore 103 rfl rfl rfl rfl ?_
                        refine z_push 104 (nI 0) rfl rfl rfl ?_
                        refine z_istore 106 rfl rfl rfl rfl ?_
                        exact copy (l1.length + 1) 0 s2 h (by omega) (by omega) hR hI2 (fun j hj => by have := hal2 l1 ea1 j hj; rw [Nat.zero_add] at this; exact this) (fun j hj => absurd hj (by omega))
                    · refine z_goto rfl ?_
                      refine z_iinc 208 _ rfl rfl rfl rfl (by first | with_reducible exact zi_1 _ | rfl) ?_
                      refine z_goto rfl ?_
                      have DV : dfP A P U v = false := by rw [dfP, hjq]; rw [hc88]; rfl
                      have h9 := fun o5 o6 o7 => ih (v + 1) s1 h o5 o6 o7 (by omega) (by omega) (by rw [hF, ffd_no (by omega) DV]) hR hI1
                      exact h9 _ _ _
            refine z_iload 64 rfl rfl rfl ?_
            refine z_istore 66 rfl rfl rfl rfl ?_
            exact loop (N + 1 - f) f s h _ _ _ (by omega) (by omega) rfl hR hI
          · refine z_aload 58 rfl rfl rfl ?_
            refine z_push 59 (-1) rfl rfl rfl ?_
            refine z_cv1 62 rfl rfl hR.1 rfl (Nat.le_refl _) (Nat.le_refl _) ?_
            refine r_tell hR (fun h9 => absurd h9 (by decide)) (fun _ h hR => ?_)
            refine z_ireti rfl (Nat.le_refl _) (Nat.le_refl _) ?_
            rw [decide_eq_false_iff_not] at hc54
            have e9 : sp_differ A (nI P) (nI U) f = (-1, A.tell) := by
              rw [sp_differ, if_pos ⟨hc5, hc13⟩, hp2, hu2, if_pos ⟨hc28, hc37⟩, if_neg (by omega)]
            rw [e9] at Q1
            exact Q1 h _ hR hI.tell
        · refine z_aload 41 rfl rfl rfl ?_
          refine z_push 43 (-5) rfl rfl rfl ?_
          refine z_cv1 46 rfl rfl hR.1 rfl (Nat.le_refl _) (Nat.le_refl _) ?_
          refine r_tell hR (fun h9 => absurd h9 (by decide)) (fun _ h hR => ?_)
          refine z_ireti rfl (Nat.le_refl _) (Nat.le_refl _) ?_
          have e9 : sp_differ A (nI P) (nI U) f = (-5, A.tell) := by
            rw [sp_differ, if_pos ⟨hc5, hc13⟩, hp2, hu2, if_neg ?_]
            intro h9
            first | (rw [hc28] at h9; exact absurd h9.1 (by decide)) | (rw [hc37] at h9; exact absurd h9.2 (by decide))
          rw [e9] at Q1
          exact Q1 h _ hR hI.tell
    · refine z_aload 17 rfl rfl rfl ?_
      refine z_push 18 (-1) rfl rfl rfl ?_
      refine z_cv1 21 rfl rfl hR.1 rfl (Nat.le_refl _) (Nat.le_refl _) ?_
      refine r_tell hR (fun h9 => absurd h9 (by decide)) (fun _ h hR => ?_)
      refine z_ireti rfl (Nat.le_refl _) (Nat.le_refl _) ?_
      have e9 : sp_differ A (nI P) q f = (-1, A.tell) := if_neg (fun h9 => by
        first | (rw [decide_eq_false_iff_not] at hc5; exact hc5 h9.1) | (rw [decide_eq_false_iff_not] at hc13; exact hc13 h9.2))
      rw [e9] at Q1
      exact Q1 h _ hR hI.tell
