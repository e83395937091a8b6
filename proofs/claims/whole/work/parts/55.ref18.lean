/-! the reference: decode, faults, detect, misread -/
theorem rdA_len {K rule sg : Nat} {E : List En} {H : List Sh} (hW : TbW E H) : ∀ (m a st pn : Nat) (bs us : List Nat) (fl : Nat), (∀ j, bs.getD j 0 < 256) → st < 4 → pn ≤ 4 → us.length ≤ 2 * a → (rdA K E H rule sg m a st pn bs us fl).2.1.length ≤ 2 * (a + bs.length) ∧ (rdA K E H rule sg m a st pn bs us fl).2.2 ≤ fl + bs.length
  | 0, a, st, pn, bs, us, fl, hb, h1, h2, h3 => ⟨by show us.length ≤ _; omega, by show fl ≤ _; omega⟩
  | m + 1, a, st, pn, bs, us, fl, hb, h1, h2, h3 => by
    unfold rdA
    split
    · exact ⟨by show us.length ≤ _; omega, by show fl ≤ _; omega⟩
    · rename_i hn
      obtain ⟨b1, b2, b3, b4, b5, b6, b7⟩ := rd1_b (K := K) (rule := rule) (sg := sg) (last := true) hW hb (by omega) h1 h2
      split
      · exact ⟨by show us.length ≤ _; omega, by show fl + 1 ≤ _; omega⟩
      · rename_i hx
        have := rdA_len (K := K) (rule := rule) (sg := sg) hW m (a + (rd1 K E H rule sg true st pn bs).1) (rd1 K E H rule sg true st pn bs).2.1 (rd1 K E H rule sg true st pn bs).2.2.1 (bs.drop (rd1 K E H rule sg true st pn bs).1) (us ++ (rd1 K E H rule sg true st pn bs).2.2.2.1) (fl + (rd1 K E H rule sg true st pn bs).2.2.2.2) (fun j => by rw [getD_drop9]; exact hb _) b2 b3 (by rw [List.length_append]; omega)
        rw [List.length_drop] at this
        omega
theorem rdAll_len {K rule sg : Nat} {E : List En} {H : List Sh} {bs : List Nat} (hW : TbW E H) (hb : ∀ j, bs.getD j 0 < 256) : (rdAll K E H rule sg bs).2.1.length ≤ 2 * bs.length ∧ (rdAll K E H rule sg bs).2.2 ≤ bs.length := by
  have := rdA_len (K := K) (rule := rule) (sg := sg) hW (bs.length + 1) 0 0 4 bs [] 0 hb (by decide) (by decide) (by decide)
  rw [rdAll]
  omega
theorem rdA_none {K rule sg : Nat} {E : List En} {H : List Sh} (hW : TbW E H) (hr : rule ≠ 0) : ∀ (m a st pn : Nat) (bs us : List Nat) (fl : Nat), (∀ j, bs.getD j 0 < 256) → st < 4 → pn ≤ 4 → (rdA K E H rule sg m a st pn bs us fl).1 = none
  | 0, a, st, pn, bs, us, fl, hb, h1, h2 => rfl
  | m + 1, a, st, pn, bs, us, fl, hb, h1, h2 => by
    unfold rdA
    split
    · rfl
    · rename_i hn
      obtain ⟨b1, b2, b3, b4, b5, b6, b7⟩ := rd1_b (K := K) (rule := rule) (sg := sg) (last := true) hW hb (by omega) h1 h2
      split
      · rename_i hx
        exact absurd (b7 hx rfl).1 hr
      · exact rdA_none hW hr m _ _ _ _ _ _ (fun j => by rw [getD_drop9]; exact hb _) b2 b3
theorem rdAll_none {K rule sg : Nat} {E : List En} {H : List Sh} {bs : List Nat} (hW : TbW E H) (hb : ∀ j, bs.getD j 0 < 256) (hr : rule ≠ 0) : (rdAll K E H rule sg bs).1 = none := rdA_none hW hr _ _ _ _ _ _ _ hb (by decide) (by decide)
def rdPg (A : Ab) (P rule : Nat) : Option Nat × List Nat × Nat := rdAll (pgK A.pgs P) (pgE A.pgs P) (pgH A.pgs P) rule A.sgn.1 A.bys
theorem RInv.res {s s1 : rS} {A : Ab} {x : Nat × List Nat} (h : RInv s A) (hO : On [18, 19, 20] s s1) (hx : RRe s1 x) : RInv s1 (A.wRes x) := by
  have n : ∀ c, c ≠ 18 → c ≠ 19 → c ≠ 20 → s1.1 c = s.1 c ∧ s1.2.2 c = s.2.2 c := fun c h1 h2 h3 => hO.1 c (by simp [h1, h2, h3])
  obtain ⟨a1, a2, a3, a4, a5, a6, a7, a8, a9, a10, a11⟩ := h
  refine ⟨?_, ?_, ?_, hx, ?_, ?_, fun d hd => ⟨fun e => ?_, fun m e => ?_⟩, (n 22 (by decide) (by decide) (by decide)).1.trans a8, ?_, (n 24 (by decide) (by decide) (by decide)).1.trans a10, (n 48 (by decide) (by decide) (by decide)).1.trans a11⟩
  · refine ⟨(n 0 (by decide) (by decide) (by decide)).1.trans a1.1, a1.2.1, fun p hp => ⟨?_, ?_, On.tb hO (by simp) (a1.2.2 p hp).2.2⟩⟩
    · rw [(n 1 (by decide) (by decide) (by decide)).2]; exact (a1.2.2 p hp).1
    · rw [(n 2 (by decide) (by decide) (by decide)).2]; exact (a1.2.2 p hp).2.1
  · simp only [RBy, (n 14 (by decide) (by decide) (by decide)).1, (n 15 (by decide) (by decide) (by decide)).2]; exact a2
  · simp only [RUn, (n 16 (by decide) (by decide) (by decide)).1, (n 17 (by decide) (by decide) (by decide)).2]; exact a3
  · simp only [RSg, (n 21 (by decide) (by decide) (by decide)).2]; exact a5
  · simp only [RFb, (n 25 (by decide) (by decide) (by decide)).1, (n 26 (by decide) (by decide) (by decide)).2, (n 27 (by decide) (by decide) (by decide)).2, (n 28 (by decide) (by decide) (by decide)).2]; exact a6
  · rw [(n 52 (by decide) (by decide) (by decide)).2]; exact (a7 d hd).1 e
  · have := (a7 d hd).2 m e
    have nn : ∀ c, 52 ≤ c → s1.2.2 c = s.2.2 c := fun c hc => (n c (by omega) (by omega) (by omega)).2
    simp only [RM1, nn 52 (by decide), nn 53 (by decide), nn 54 (by decide), nn 55 (by decide), nn 56 (by decide), nn 57 (by decide), nn 58 (by decide), nn 59 (by decide), nn 60 (by decide), nn 61 (by decide), nn 62 (by decide), nn 63 (by decide)]
    exact this
  · simp only [RBk, (n 23 (by decide) (by decide) (by decide)).2]; exact a9
def sp_decode (A : Ab) (p ru : Int32) : Int32 × Ab :=
  if 0 ≤ p.toInt ∧ p.toInt < A.pgs.length then
    if pgC A.pgs p.toInt.toNat = true then
      if 0 ≤ ru.toInt ∧ ru.toInt ≤ 3 then
        match (rdPg A p.toInt.toNat ru.toInt.toNat).1 with
        | some a => (-9, (A.wPlc a).tell)
        | none => (nI (rdPg A p.toInt.toNat ru.toInt.toNat).2.1.length, A.wRes (1, (rdPg A p.toInt.toNat ru.toInt.toNat).2.1))
      else (-1, A.tell)
    else (-5, A.tell)
  else (-1, A.tell)
def sp_faults (A : Ab) (p : Int32) : Int32 × Ab :=
  if 0 ≤ p.toInt ∧ p.toInt < A.pgs.length then
    if pgC A.pgs p.toInt.toNat = true then (nI (rdPg A p.toInt.toNat 2).2.2, A)
    else (-5, A.tell)
  else (-1, A.tell)
/-- the page with the fewest faults so far, and these -/
def dtS (A : Ab) (o : Option (Nat × Nat)) (p : Nat) : Option (Nat × Nat) := if pgC A.pgs p = true then (match o with
  | some x => if x.2 ≤ (rdPg A p 2).2.2 then some x else some (p, (rdPg A p 2).2.2)
  | none => some (p, (rdPg A p 2).2.2)) else o
def dtF (A : Ab) : Nat → Nat → Option (Nat × Nat) → Option (Nat × Nat)
  | 0, _, o => o
  | m + 1, p, o => dtF A m (p + 1) (dtS A o p)
def sp_detect (A : Ab) : Int32 × Ab := match dtF A A.pgs.length 0 none with
  | some x => (nI x.1, A)
  | none => (-2, A.tell)
def neL (a b : List Nat) (k : Nat) : Bool := !decide (a.getD k 0 = b.getD k 0)
def msC (a b : List Nat) : Nat := (max a.length b.length - min a.length b.length) + cnt9 (neL a b) (min a.length b.length)
def sp_misread (A : Ab) (p q : Int32) : Int32 × Ab :=
  if (0 ≤ p.toInt ∧ p.toInt < A.pgs.length) ∧ (0 ≤ q.toInt ∧ q.toInt < A.pgs.length) then
    if pgC A.pgs p.toInt.toNat = true ∧ pgC A.pgs q.toInt.toNat = true then (nI (msC (rdPg A p.toInt.toNat 3).2.1 (rdPg A q.toInt.toNat 3).2.1), A)
    else (-5, A.tell)
  else (-1, A.tell)
theorem dtF_s {A : Ab} {n p : Nat} {o : Option (Nat × Nat)} (h : p < n) : dtF A (n - p) p o = dtF A (n - (p + 1)) (p + 1) (dtS A o p) := by
  rw [show n - p = n - (p + 1) + 1 by omega]; rfl
set_option maxRecDepth 10000 in
theorem r_decode {d r : Nat} {h h0 : mH} {s : rS} {A : Ab} {p ru : Int32} {Q : mP} (hR : Rf r h0 s h) (hI : RInv s A) (hB : PgB A.pgs) (hK : ∀ P, P < A.pgs.length → pgK A.pgs P < 4) (hbb : ∀ j, A.bys.getD j 0 < 256) (hsg : A.sgn.1 < 1114112)  (q : ∀ h' s', Rf r h0 s' h' → RInv s' (sp_decode A p ru).2 → Q (some (.int (sp_decode A p ru).1)) h') : mWP (d + 7) 229 [.ref r, .int p, .int ru] h Q := by
  have hG := hI.1
  have hG2 := hG.2.1
  refine z_in [some (.ref r), some (.int p), some (.int ru), none] (by rfl) rfl rfl rfl ?_
  refine z_aload 1 rfl rfl rfl ?_
  refine z_iload 2 rfl rfl rfl ?_
  refine z_cv1 5 rfl rfl hR.1 rfl (Nat.le_refl _) (Nat.le_refl _) ?_
  refine r_isPage hR hG.1 hG.2.1 ?_
  first | refine z_bne 8 rfl rfl (fun hc5 => ?_) (fun hc5 => ?_)
  · rw [decide_eq_true_eq] at hc5
    obtain ⟨P, hPP, rfl, hp1, hp2⟩ := ix_of hc5
    obtain ⟨hg1, hg2, hT⟩ := hG.2.2 P hPP
    refine z_aload 15 rfl rfl rfl ?_
    refine y_ga 18 hR rfl rfl rfl ?_
    refine z_iload 19 rfl rfl rfl ?_
    refine y_bb (f := 2) 20 _ hR rfl rfl rfl rfl (by omega) (by repeat (first | with_reducible exact hg2 | with_reducible exact gA_eq _ _ _ _ | (with_reducible apply gA_ne; decide) | with_reducible apply gA_I | with_reducible apply gA_O | (with_reducible apply gA_nj; omega) | with_reducible rfl)) ?_
    first | refine z_bne 23 rfl rfl (fun hc20 => ?_) (fun hc20 => ?_)
    · refine z_iload 31 rfl rfl rfl ?_
      refine z_push 32 (nI 0) rfl rfl rfl ?_
      refine z_push 33 (nI 3) rfl rfl rfl ?_
      refine z_cs3 36 rfl rfl rfl (Nat.le_refl _) (Nat.le_refl _) ?_
      refine r_in ?_
      rw [jIn_l (by omega) (by omega)]
      first | refine z_bne 39 rfl rfl (fun hc36 => ?_) (fun hc36 => ?_)
      · rw [decide_eq_true_eq] at hc36
        obtain ⟨R, hRl, rfl, hr1, hr2⟩ := ix_of (x := ru) (n := 4) (by omega)
        have hln := (rdAll_len (K := pgK A.pgs P) (rule := R) (sg := A.sgn.1) (hB P hPP) hbb).1
        have hl0 := hI.2.1.2.1
        refine z_aload 46 rfl rfl rfl ?_
        refine z_iload 47 rfl rfl rfl ?_
        refine z_iload 48 rfl rfl rfl ?_
        refine z_aload 49 rfl rfl rfl ?_
        refine y_ga 52 hR rfl rfl rfl ?_
        refine z_cv3 55 rfl rfl hR.1 rfl (Nat.le_refl _) (Nat.le_refl _) ?_
        refine r_readAll (o := 43) hR (by omega) hg1 (hK P hPP) hT (hB P hPP) (by omega) hI.2.2.2.2.1.1 hsg hI.2.1 hbb (by decide) rfl (by decide) (fun h s1 hR hKp1 g221 hfa1 ho1 g391 => ?_)
        rcases hrd : (rdAll (pgK A.pgs P) (pgE A.pgs P) (pgH A.pgs P) R A.sgn.1 A.bys).1 with _ | a
        · rw [show rdR (rdAll (pgK A.pgs P) (pgE A.pgs P) (pgH A.pgs P) R A.sgn.1 A.bys) = nI (rdAll (pgK A.pgs P) (pgE A.pgs P) (pgH A.pgs P) R A.sgn.1 A.bys).2.1.length from by rw [rdR, hrd]]
          have hm9 : (nI (rdAll (pgK A.pgs P) (pgE A.pgs P) (pgH A.pgs P) R A.sgn.1 A.bys).2.1.length).toInt = ((rdAll (pgK A.pgs P) (pgE A.pgs P) (pgH A.pgs P) R A.sgn.1 A.bys).2.1.length : Int) := nI_toInt (by omega)
          refine z_istore 56 rfl rfl rfl rfl ?_
          refine z_iload 57 rfl rfl rfl ?_
          refine z_jge 60 rfl rfl (fun _ => ?_) (fun h9 => absurd h9 (by omega))
          refine z_aload 69 rfl rfl rfl ?_
          refine z_aload 70 rfl rfl rfl ?_
          refine y_ga 73 hR rfl rfl rfl ?_
          refine z_iload 74 rfl rfl rfl ?_
          refine z_push 75 (nI 1) rfl rfl rfl ?_
          refine z_cv3 78 rfl rfl hR.1 rfl (Nat.le_refl _) (Nat.le_refl _) ?_
          have hseg := ho1.2.2
          refine r_resultOf hR (f := 43) rfl (by decide) (by omega) (by omega) hseg (fun h s2 hR hO2 hre => ?_)
          refine z_ireti rfl (Nat.le_refl _) (Nat.le_refl _) ?_
          have e9 : sp_decode A (nI P) (nI R) = (nI (rdPg A P R).2.1.length, A.wRes (1, (rdPg A P R).2.1)) := by
            rw [sp_decode, if_pos hc5, hp2, if_pos hc20, if_pos (by omega), hr2, show (rdPg A P R).1 = none from hrd]
          rw [e9] at q
          have hI1 := hI.k0 hKp1 (by rw [g221, rdP, hrd])
          exact q h s2 hR (hI1.res hO2 hre)
        · rw [show rdR (rdAll (pgK A.pgs P) (pgE A.pgs P) (pgH A.pgs P) R A.sgn.1 A.bys) = -9 from by rw [rdR, hrd]]
          refine z_istore 56 rfl rfl rfl rfl ?_
          refine z_iload 57 rfl rfl rfl ?_
          refine z_jge 60 rfl rfl (fun h9 => absurd h9 (by decide)) (fun _ => ?_)
          refine z_aload 61 rfl rfl rfl ?_
          refine z_iload 62 rfl rfl rfl ?_
          refine z_cv1 65 rfl rfl hR.1 rfl (Nat.le_refl _) (Nat.le_refl _) ?_
          refine r_tell hR (fun h9 => absurd h9 (by decide)) (fun _ h hR => ?_)
          refine z_goto rfl ?_
          refine z_ireti rfl (Nat.le_refl _) (Nat.le_refl _) ?_
          have e9 : sp_decode A (nI P) (nI R) = (-9, (A.wPlc a).tell) := by
            rw [sp_decode, if_pos hc5, hp2, if_pos hc20, if_pos (by omega), hr2, rdPg, hrd]
          rw [e9] at q
          have hI1 := hI.k hKp1
          rw [g221, rdP, hrd] at hI1
          exact q h _ hR hI1.tell
      · refine z_aload 40 rfl rfl rfl ?_
        refine z_push 41 (-1) rfl rfl rfl ?_
        refine z_cv1 44 rfl rfl hR.1 rfl (Nat.le_refl _) (Nat.le_refl _) ?_
        refine r_tell hR (fun h9 => absurd h9 (by decide)) (fun _ h hR => ?_)
        refine z_ireti rfl (Nat.le_refl _) (Nat.le_refl _) ?_
        rw [decide_eq_false_iff_not] at hc36
        have e9 : sp_decode A (nI P) ru = (-1, A.tell) := by rw [sp_decode, if_pos hc5, hp2, if_pos hc20, if_neg (by omega)]
        rw [e9] at q
        exact q h _ hR hI.tell
    · refine z_aload 24 rfl rfl rfl ?_
      refine z_push 26 (-5) rfl rfl rfl ?_
      refine z_cv1 29 rfl rfl hR.1 rfl (Nat.le_refl _) (Nat.le_refl _) ?_
      refine r_tell hR (fun h9 => absurd h9 (by decide)) (fun _ h hR => ?_)
      refine z_ireti rfl (Nat.le_refl _) (Nat.le_refl _) ?_
      have e9 : sp_decode A (nI P) ru = (-5, A.tell) := by rw [sp_decode, if_pos hc5, hp2, if_neg (by rw [hc20]; decide)]
      rw [e9] at q
      exact q h _ hR hI.tell
  · refine z_aload 9 rfl rfl rfl ?_
    refine z_push 10 (-1) rfl rfl rfl ?_
    refine z_cv1 13 rfl rfl hR.1 rfl (Nat.le_refl _) (Nat.le_refl _) ?_
    refine r_tell hR (fun h9 => absurd h9 (by decide)) (fun _ h hR => ?_)
    refine z_ireti rfl (Nat.le_refl _) (Nat.le_refl _) ?_
    rw [decide_eq_false_iff_not] at hc5
    have e9 : sp_decode A p ru = (-1, A.tell) := if_neg hc5
    rw [e9] at q
    exact q h _ hR hI.tell
set_option maxRecDepth 10000 in
theorem r_faults {d r : Nat} {h h0 : mH} {s : rS} {A : Ab} {p : Int32} {Q : mP} (hR : Rf r h0 s h) (hI : RInv s A) (hB : PgB A.pgs) (hK : ∀ P, P < A.pgs.length → pgK A.pgs P < 4) (hbb : ∀ j, A.bys.getD j 0 < 256) (hsg : A.sgn.1 < 1114112)  (q : ∀ h' s', Rf r h0 s' h' → RInv s' (sp_faults A p).2 → Q (some (.int (sp_faults A p).1)) h') : mWP (d + 7) 250 [.ref r, .int p] h Q := by
  have hG := hI.1
  have hG2 := hG.2.1
  refine z_in [some (.ref r), some (.int p), none] (by rfl) rfl rfl rfl ?_
  refine z_aload 1 rfl rfl rfl ?_
  refine z_iload 2 rfl rfl rfl ?_
  refine z_cv1 5 rfl rfl hR.1 rfl (Nat.le_refl _) (Nat.le_refl _) ?_
  refine r_isPage hR hG.1 hG.2.1 ?_
  first | refine z_bne 8 rfl rfl (fun hc5 => ?_) (fun hc5 => ?_)
  · rw [decide_eq_true_eq] at hc5
    obtain ⟨P, hPP, rfl, hp1, hp2⟩ := ix_of hc5
    obtain ⟨hg1, hg2, hT⟩ := hG.2.2 P hPP
    refine z_aload 15 rfl rfl rfl ?_
    refine y_ga 18 hR rfl rfl rfl ?_
    refine z_iload 19 rfl rfl rfl ?_
    refine y_bb (f := 2) 20 _ hR rfl rfl rfl rfl (by omega) (by repeat (first | with_reducible exact hg2 | with_reducible exact g391 | with_reducible exact gA_eq _ _ _ _ | (with_reducible apply gA_ne; decide) | with_reducible apply gA_I | with_reducible apply gA_O | (with_reducible apply gA_nj; omega) | with_reducible rfl)) ?_
    first | refine z_bne 23 rfl rfl (fun hc20 => ?_) (fun hc20 => ?_)
    · refine z_aload 31 rfl rfl rfl ?_
      refine z_iload 32 rfl rfl rfl ?_
      refine z_push 33 (nI 2) rfl rfl rfl ?_
      refine z_aload 34 rfl rfl rfl ?_
      refine y_ga 37 hR rfl rfl rfl ?_
      refine z_cv3 40 rfl rfl hR.1 rfl (Nat.le_refl _) (Nat.le_refl _) ?_
      refine r_readAll (o := 43) hR (by omega) hg1 (hK P hPP) hT (hB P hPP) (by omega) hI.2.2.2.2.1.1 hsg hI.2.1 hbb (by decide) rfl (by decide) (fun h s1 hR hKp1 g221 hfa1 ho1 g391 => ?_)
      refine z_istore 41 rfl rfl rfl rfl ?_
      refine z_aload 42 rfl rfl rfl ?_
      refine y_gi 45 _ hR rfl rfl rfl rfl rfl (by repeat (first | with_reducible exact gI_eq _ _ _ | (with_reducible apply gI_ne; decide) | with_reducible apply gI_A | with_reducible apply gI_O | with_reducible exact hg2 | with_reducible exact g391 | with_reducible rfl)) ?_
      refine z_ireti rfl (Nat.le_refl _) (Nat.le_refl _) ?_
      have e9 : sp_faults A (nI P) = (nI (rdPg A P 2).2.2, A) := by rw [sp_faults, if_pos hc5, hp2, if_pos hc20]
      rw [e9] at q
      exact q h _ hR (hI.k0 hKp1 (by rw [g221, rdP, rdAll_none (hB P hPP) hbb (by decide)]))
    · refine z_aload 24 rfl rfl rfl ?_
      refine z_push 26 (-5) rfl rfl rfl ?_
      refine z_cv1 29 rfl rfl hR.1 rfl (Nat.le_refl _) (Nat.le_refl _) ?_
      refine r_tell hR (fun h9 => absurd h9 (by decide)) (fun _ h hR => ?_)
      refine z_ireti rfl (Nat.le_refl _) (Nat.le_refl _) ?_
      have e9 : sp_faults A (nI P) = (-5, A.tell) := by rw [sp_faults, if_pos hc5, hp2, if_neg (by rw [hc20]; decide)]
      rw [e9] at q
      exact q h _ hR hI.tell
  · refine z_aload 9 rfl rfl rfl ?_
    refine z_push 10 (-1) rfl rfl rfl ?_
    refine z_cv1 13 rfl rfl hR.1 rfl (Nat.le_refl _) (Nat.le_refl _) ?_
    refine r_tell hR (fun h9 => absurd h9 (by decide)) (fun _ h hR => ?_)
    refine z_ireti rfl (Nat.le_refl _) (Nat.le_refl _) ?_
    rw [decide_eq_false_iff_not] at hc5
    have e9 : sp_faults A p = (-1, A.tell) := if_neg hc5
    rw [e9] at q
    exact q h _ hR hI.tell
theorem dt_len {A : Ab} {s : rS} (hB : PgB A.pgs) (hbb : ∀ j, A.bys.getD j 0 < 256) (hI : RInv s A) : ∀ p, p < A.pgs.length → (rdPg A p 2).2.2 ≤ 1000 := fun p hp => by
  have := (rdAll_len (K := pgK A.pgs p) (rule := 2) (sg := A.sgn.1) (hB p hp) hbb).2
  have := hI.2.1.2.1
  rw [rdPg]
  omega
theorem dtS_b {A : Ab} {o : Option (Nat × Nat)} {p n : Nat} (h : ∀ x, o = some x → x.1 < n ∧ x.2 ≤ 1000) (hp : p < n) (hl : ∀ p, p < n → (rdPg A p 2).2.2 ≤ 1000) : ∀ x, dtS A o p = some x → x.1 < n ∧ x.2 ≤ 1000 := by
  intro x hx
  unfold dtS at hx
  split at hx
  · split at hx
    · split at hx
      · cases hx; exact h _ rfl
      · cases hx; exact ⟨hp, hl p hp⟩
    · cases hx; exact ⟨hp, hl p hp⟩
  · exact h x hx
set_option maxRecDepth 10000 in
theorem r_detect {d r : Nat} {h h0 : mH} {s : rS} {A : Ab} {Q : mP} (hR : Rf r h0 s h) (hI : RInv s A) (hB : PgB A.pgs) (hK : ∀ P, P < A.pgs.length → pgK A.pgs P < 4) (hbb : ∀ j, A.bys.getD j 0 < 256) (hsg : A.sgn.1 < 1114112)  (q : ∀ h' s', Rf r h0 s' h' → RInv s' (sp_detect A).2 → Q (some (.int (sp_detect A).1)) h') : mWP (d + 7) 251 [.ref r] h Q := by
  have hG2 := hI.1.2.1
  have loop : ∀ m p (o : Option (Nat × Nat)) s1 h o4, A.pgs.length < p + m → p ≤ A.pgs.length → dtF A A.pgs.length 0 none = dtF A (A.pgs.length - p) p o → Rf r h0 s1 h → RInv s1 A → (∀ x, o = some x → x.1 < A.pgs.length ∧ x.2 ≤ 1000) → mZ (d + 6) tk_251 0 0 Q 6 [some (.ref r), some (.int (oI (o.map (fun x => x.1)))), some (.int (nI (match o with | some x => x.2 | none => 0))), some (.int (nI p)), o4] [] h 0 0 := by
    intro m
    induction m with
    | zero => intro p o s1 h o4 h1 h2; omega
    | succ m ih =>
      intro p o s1 h o4 h1 h2 hD hR hI1 hob
      have hg := hI1.1
      have k0 : s1.1 0 = A.pgs.length := hg.1
      have hgc : ∀ p, p < A.pgs.length → s1.2.2 2 p = b2 (pgC A.pgs p) := fun p hp => (hg.2.2 p hp).2.1
      refine z_iload 7 rfl rfl rfl ?_
      refine z_aload 8 rfl rfl rfl ?_
      refine y_gi 11 _ hR rfl rfl rfl rfl rfl (by repeat (first | with_reducible exact gI_eq _ _ _ | (with_reducible apply gI_ne; decide) | with_reducible apply gI_A | with_reducible apply gI_O | with_reducible exact k0 | with_reducible exact hgc p (by omega) | with_reducible exact g39 | with_reducible rfl)) ?_
      refine z_nge 14 rfl rfl (by omega) (by omega) (fun hc11 => ?_) (fun hc11 => ?_)
      · rw [show A.pgs.length - p = 0 by omega] at hD
        have hD2 : dtF A A.pgs.length 0 none = o := hD
        rcases o with _ | ⟨xb, xf⟩
        · simp only [Option.map, oI]
          refine z_iload 67 rfl rfl rfl ?_
          refine z_jge 70 rfl rfl (fun h9 => absurd h9 (by decide)) (fun _ => ?_)
          refine z_aload 71 rfl rfl rfl ?_
          refine z_push 73 (-2) rfl rfl rfl ?_
          refine z_cv1 76 rfl rfl hR.1 rfl (Nat.le_refl _) (Nat.le_refl _) ?_
          refine r_tell hR (fun h9 => absurd h9 (by decide)) (fun _ h hR => ?_)
          refine z_goto rfl ?_
          refine z_ireti rfl (Nat.le_refl _) (Nat.le_refl _) ?_
          rw [show sp_detect A = (-2, A.tell) from by rw [sp_detect, hD2]] at q
          exact q h _ hR hI1.tell
        · simp only [Option.map, oI]
          obtain ⟨hx1, hx2⟩ := hob (xb, xf) rfl
          simp only at hx1 hx2
          refine z_iload 67 rfl rfl rfl ?_
          refine z_zge 70 rfl rfl (by omega) (fun _ => ?_) (fun h9 => absurd h9 (by omega))
          refine z_iload 80 rfl rfl rfl ?_
          refine z_ireti rfl (Nat.le_refl _) (Nat.le_refl _) ?_
          rw [show sp_detect A = (nI xb, A) from by rw [sp_detect, hD2]] at q
          exact q h s1 hR hI1
      · refine z_aload 15 rfl rfl rfl ?_
        refine y_ga 18 hR rfl rfl rfl ?_
        refine z_iload 19 rfl rfl rfl ?_
        refine y_bb (f := 2) 20 _ hR rfl rfl rfl rfl (by omega) (by repeat (first | with_reducible exact k0 | with_reducible exact hgc p (by omega) | with_reducible exact g39 | with_reducible exact gA_eq _ _ _ _ | (with_reducible apply gA_ne; decide) | with_reducible apply gA_I | with_reducible apply gA_O | (with_reducible apply gA_nj; omega) | with_reducible rfl)) ?_
        first | refine z_bne 23 rfl rfl (fun hc20 => ?_) (fun hc20 => ?_)
        · refine z_aload 27 rfl rfl rfl ?_
          refine z_iload 28 rfl rfl rfl ?_
          refine z_push 29 (nI 2) rfl rfl rfl ?_
          refine z_aload 30 rfl rfl rfl ?_
          refine y_ga 33 hR rfl rfl rfl ?_
          refine z_cv3 36 rfl rfl hR.1 rfl (Nat.le_refl _) (Nat.le_refl _) ?_
          refine r_readAll (o := 43) hR (by omega) (hg.2.2 p (by omega)).1 (hK p (by omega)) (hg.2.2 p (by omega)).2.2 (hB p (by omega)) (by omega) hI1.2.2.2.2.1.1 hsg hI1.2.1 hbb (by decide) rfl (by decide) (fun h s2 hR hKp g22 hfa ho g39 => ?_)
          have hI2 := hI1.k0 hKp (by rw [g22, rdP, rdAll_none (hB p (by omega)) hbb (by decide)])
          have hfl := (rdAll_len (K := pgK A.pgs p) (rule := 2) (sg := A.sgn.1) (hB p (by omega)) hbb).2
          have hby := hI1.2.1.2.1
          refine z_istore 38 rfl rfl rfl rfl ?_
          rcases o with _ | ⟨xb, xf⟩
          · simp only [Option.map, oI]
            refine z_iload 39 rfl rfl rfl ?_
            refine z_jlt 42 rfl rfl (fun _ => ?_) (fun h9 => absurd h9 (by decide))
            refine z_iload 54 rfl rfl rfl ?_
            refine z_istore 55 rfl rfl rfl rfl ?_
            refine z_aload 56 rfl rfl rfl ?_
            refine y_gi 59 _ hR rfl rfl rfl rfl rfl (by repeat (first | with_reducible exact gI_eq _ _ _ | (with_reducible apply gI_ne; decide) | with_reducible apply gI_A | with_reducible apply gI_O | with_reducible exact k0 | with_reducible exact hgc p (by omega) | with_reducible exact g39 | with_reducible rfl)) ?_
            refine z_istore 60 rfl rfl rfl rfl ?_
            refine z_iinc 63 _ rfl rfl rfl rfl (by first | with_reducible exact zi_1 _ | rfl) ?_
            refine z_goto rfl ?_
            have h9 := fun o4 => ih (p + 1) (dtS A none p) s2 h o4 (by omega) (by omega) (by rw [hD, dtF_s (by omega)]) hR hI2 (dtS_b hob (by omega) (dt_len hB hbb hI1))
            rw [show dtS A none p = some (p, (rdPg A p 2).2.2) from if_pos hc20] at h9
            exact h9 _
          · simp only [Option.map, oI]
            obtain ⟨hx1, hx2⟩ := hob (xb, xf) rfl
            simp only at hx1 hx2
            refine z_iload 39 rfl rfl rfl ?_
            refine z_zlt 42 rfl rfl (by omega) (fun h9 => absurd h9 (by omega)) (fun _ => ?_)
            refine z_aload 43 rfl rfl rfl ?_
            refine y_gi 46 _ hR rfl rfl rfl rfl rfl (by repeat (first | with_reducible exact gI_eq _ _ _ | (with_reducible apply gI_ne; decide) | with_reducible apply gI_A | with_reducible apply gI_O | with_reducible exact k0 | with_reducible exact hgc p (by omega) | with_reducible exact g39 | with_reducible rfl)) ?_
            refine z_iload 47 rfl rfl rfl ?_
            refine z_nlt 50 rfl rfl (by omega) (by omega) (fun hc47 => ?_) (fun hc47 => ?_)
            · refine z_iload 54 rfl rfl rfl ?_
              refine z_istore 55 rfl rfl rfl rfl ?_
              refine z_aload 56 rfl rfl rfl ?_
              refine y_gi 59 _ hR rfl rfl rfl rfl rfl (by repeat (first | with_reducible exact gI_eq _ _ _ | (with_reducible apply gI_ne; decide) | with_reducible apply gI_A | with_reducible apply gI_O | with_reducible exact k0 | with_reducible exact hgc p (by omega) | with_reducible exact g39 | with_reducible rfl)) ?_
              refine z_istore 60 rfl rfl rfl rfl ?_
              refine z_iinc 63 _ rfl rfl rfl rfl (by first | with_reducible exact zi_1 _ | rfl) ?_
              refine z_goto rfl ?_
              have h9 := fun o4 => ih (p + 1) (dtS A (some (xb, xf)) p) s2 h o4 (by omega) (by omega) (by rw [hD, dtF_s (by omega)]) hR hI2 (dtS_b hob (by omega) (dt_len hB hbb hI1))
              rw [show dtS A (some (xb, xf)) p = some (p, (rdPg A p 2).2.2) from by rw [dtS, if_pos hc20]; exact if_neg (by show ¬ xf ≤ _; exact Nat.not_le.mpr hc47)] at h9
              exact h9 _
            · refine z_goto rfl ?_
              refine z_iinc 63 _ rfl rfl rfl rfl (by first | with_reducible exact zi_1 _ | rfl) ?_
              refine z_goto rfl ?_
              have h9 := fun o4 => ih (p + 1) (dtS A (some (xb, xf)) p) s2 h o4 (by omega) (by omega) (by rw [hD, dtF_s (by omega)]) hR hI2 (dtS_b hob (by omega) (dt_len hB hbb hI1))
              rw [show dtS A (some (xb, xf)) p = some (xb, xf) from by rw [dtS, if_pos hc20]; exact if_pos (by show xf ≤ _; exact hc47)] at h9
              exact h9 _
        · refine z_goto rfl ?_
          refine z_iinc 63 _ rfl rfl rfl rfl (by first | with_reducible exact zi_1 _ | rfl) ?_
          refine z_goto rfl ?_
          have h9 := fun o4 => ih (p + 1) (dtS A o p) s1 h o4 (by omega) (by omega) (by rw [hD, dtF_s (by omega)]) hR hI1 (dtS_b hob (by omega) (dt_len hB hbb hI1))
          rw [show dtS A o p = o from if_neg (by rw [hc20]; decide)] at h9
          exact h9 _
  refine z_in [some (.ref r), none, none, none, none] (by rfl) rfl rfl rfl ?_
  refine z_push 1 (-1) rfl rfl rfl ?_
  refine z_istore 2 rfl rfl rfl rfl ?_
  refine z_push 3 (nI 0) rfl rfl rfl ?_
  refine z_istore 4 rfl rfl rfl rfl ?_
  refine z_push 5 (nI 0) rfl rfl rfl ?_
  refine z_istore 6 rfl rfl rfl rfl ?_
  exact loop (A.pgs.length + 1) 0 none s h _ (by omega) (by omega) (by rw [Nat.sub_zero]) hR hI (fun x hx => by cases hx)
theorem puU_ub {p : Nat} (h : p < 1114112) : ∀ x, x ∈ puU p → x < 65536 := by
  intro x hx
  unfold puU at hx
  split at hx
  · simp only [List.mem_singleton] at hx; omega
  · simp only [List.mem_cons, List.not_mem_nil, or_false] at hx
    rcases hx with hx | hx
    · rw [hx]; exact utF_lt h
    · rw [hx]; exact utS_lt
theorem rd1_ub {K st pn rule sg : Nat} {E : List En} {H : List Sh} {bs : List Nat} {last : Bool} (hW : TbW E H) (hb : ∀ j, bs.getD j 0 < 256) (hn : 1 ≤ bs.length) (hs : sg < 1114112) : ∀ x, x ∈ (rd1 K E H rule sg last st pn bs).2.2.2.1 → x < 65536 := by
  unfold rd1
  split
  · intro x hx; cases hx
  · split
    · rename_i h1
      exact puU_ub (lk_b hW hb hn h1).2.2
    · split
      · split <;> (intro x hx; cases hx)
      · split
        · intro x hx; cases hx
        · simp only
          split
          · exact puU_ub hs
          · split
            · intro x hx
              simp only [List.mem_singleton] at hx
              have := hb 0
              omega
            · intro x hx; cases hx
theorem rdA_ub {K rule sg : Nat} {E : List En} {H : List Sh} (hW : TbW E H) (hs : sg < 1114112) : ∀ (m a st pn : Nat) (bs us : List Nat) (fl : Nat), (∀ j, bs.getD j 0 < 256) → st < 4 → pn ≤ 4 → (∀ x, x ∈ us → x < 65536) → ∀ x, x ∈ (rdA K E H rule sg m a st pn bs us fl).2.1 → x < 65536
  | 0, a, st, pn, bs, us, fl, hb, h1, h2, h3 => h3
  | m + 1, a, st, pn, bs, us, fl, hb, h1, h2, h3 => by
    unfold rdA
    split
    · exact h3
    · rename_i hn
      obtain ⟨b1, b2, b3, b4, b5, b6, b7⟩ := rd1_b (K := K) (rule := rule) (sg := sg) (last := true) hW hb (by omega) h1 h2
      split
      · exact h3
      · refine rdA_ub hW hs m _ _ _ _ _ _ (fun j => by rw [getD_drop9]; exact hb _) b2 b3 (fun x hx => ?_)
        rcases List.mem_append.mp hx with hx | hx
        · exact h3 x hx
        · exact rd1_ub hW hb (by omega) hs x hx
theorem getD_all {l : List Nat} {n : Nat} (h : ∀ x, x ∈ l → x < n) (hn : 0 < n) (k : Nat) : l.getD k 0 < n := by
  rw [List.getD_eq_getElem?_getD]
  rcases hx : l[k]? with _ | x
  · exact hn
  · exact h x (List.mem_of_getElem? hx)
theorem rdPg_ub {A : Ab} {P rule : Nat} (hW : TbW (pgE A.pgs P) (pgH A.pgs P)) (hbb : ∀ j, A.bys.getD j 0 < 256) (hs : A.sgn.1 < 1114112) : ∀ x, x ∈ (rdPg A P rule).2.1 → x < 65536 := rdA_ub hW hs _ _ _ _ _ _ _ hbb (by decide) (by decide) (fun x hx => by cases hx)
theorem rd_ub {A : Ab} {P rule : Nat} (hW : TbW (pgE A.pgs P) (pgH A.pgs P)) (hbb : ∀ j, A.bys.getD j 0 < 256) (hs : A.sgn.1 < 1114112) (k : Nat) : (rdPg A P rule).2.1.getD k 0 < 2 ^ 31 := by
  have := getD_all (rdPg_ub (rule := rule) hW hbb hs) (by decide) k
  omega
set_option maxRecDepth 10000 in
theorem r_misread {d r : Nat} {h h0 : mH} {s : rS} {A : Ab} {p q : Int32} {Q : mP} (hR : Rf r h0 s h) (hI : RInv s A) (hB : PgB A.pgs) (hK : ∀ P, P < A.pgs.length → pgK A.pgs P < 4) (hbb : ∀ j, A.bys.getD j 0 < 256) (hsg : A.sgn.1 < 1114112)  (Q1 : ∀ h' s', Rf r h0 s' h' → RInv s' (sp_misread A p q).2 → Q (some (.int (sp_misread A p q).1)) h') : mWP (d + 7) 249 [.ref r, .int p, .int q] h Q := by
  have hG := hI.1
  have hG2 := hG.2.1
  refine z_in [some (.ref r), some (.int p), some (.int q), none, none, none, none] (by rfl) rfl rfl rfl ?_
  refine z_aload 1 rfl rfl rfl ?_
  refine z_iload 2 rfl rfl rfl ?_
  refine z_cv1 5 rfl rfl hR.1 rfl (Nat.le_refl _) (Nat.le_refl _) ?_
  refine r_isPage hR hG.1 hG.2.1 ?_
  first | refine z_beq 8 rfl rfl (fun hc5 => ?_) (fun hc5 => ?_)
  · refine z_aload 17 rfl rfl rfl ?_
    refine z_push 18 (-1) rfl rfl rfl ?_
    refine z_cv1 21 rfl rfl hR.1 rfl (Nat.le_refl _) (Nat.le_refl _) ?_
    refine r_tell hR (fun h9 => absurd h9 (by decide)) (fun _ h hR => ?_)
    refine z_ireti rfl (Nat.le_refl _) (Nat.le_refl _) ?_
    have e9 : sp_misread A p q = (-1, A.tell) := if_neg (fun h9 => by
      first | (rw [decide_eq_false_iff_not] at hc5; exact hc5 h9.1) | (rw [decide_eq_false_iff_not] at hc13; exact hc13 h9.2))
    rw [e9] at Q1
    exact Q1 h _ hR hI.tell
  · rw [decide_eq_true_eq] at hc5
    obtain ⟨P, hPP, rfl, hp1, hp2⟩ := ix_of hc5
    obtain ⟨hg1, hg2, hT⟩ := hG.2.2 P hPP
    refine z_aload 9 rfl rfl rfl ?_
    refine z_iload 10 rfl rfl rfl ?_
    refine z_cv1 13 rfl rfl hR.1 rfl (Nat.le_refl _) (Nat.le_refl _) ?_
    refine r_isPage hR hG.1 hG.2.1 ?_
    first | refine z_bne 16 rfl rfl (fun hc13 => ?_) (fun hc13 => ?_)
    · rw [decide_eq_true_eq] at hc13
      obtain ⟨U, hU, rfl, hu1, hu2⟩ := ix_of hc13
      obtain ⟨hu3, hu4, hTU⟩ := hG.2.2 U hU
      refine z_aload 23 rfl rfl rfl ?_
      refine y_ga 26 hR rfl rfl rfl ?_
      refine z_iload 27 rfl rfl rfl ?_
      refine y_bb (f := 2) 28 _ hR rfl rfl rfl rfl (by omega) (by repeat (first | with_reducible exact hg2 | with_reducible exact hu4 | with_reducible exact gA_eq _ _ _ _ | (with_reducible apply gA_ne; decide) | with_reducible apply gA_I | with_reducible apply gA_O | (with_reducible apply gA_nj; omega) | with_reducible rfl)) ?_
      first | refine z_beq 31 rfl rfl (fun hc28 => ?_) (fun hc28 => ?_)
      · refine z_aload 41 rfl rfl rfl ?_
        refine z_push 43 (-5) rfl rfl rfl ?_
        refine z_cv1 46 rfl rfl hR.1 rfl (Nat.le_refl _) (Nat.le_refl _) ?_
        refine r_tell hR (fun h9 => absurd h9 (by decide)) (fun _ h hR => ?_)
        refine z_ireti rfl (Nat.le_refl _) (Nat.le_refl _) ?_
        have e9 : sp_misread A (nI P) (nI U) = (-5, A.tell) := by
          rw [sp_misread, if_pos ⟨hc5, hc13⟩, hp2, hu2, if_neg ?_]
          intro h9
          first | (rw [hc28] at h9; exact absurd h9.1 (by decide)) | (rw [hc37] at h9; exact absurd h9.2 (by decide))
        rw [e9] at Q1
        exact Q1 h _ hR hI.tell
      · refine z_aload 32 rfl rfl rfl ?_
        refine y_ga 35 hR rfl rfl rfl ?_
        refine z_iload 36 rfl rfl rfl ?_
        refine y_bb (f := 2) 37 _ hR rfl rfl rfl rfl (by omega) (by repeat (first | with_reducible exact hg2 | with_reducible exact hu4 | with_reducible exact gA_eq _ _ _ _ | (with_reducible apply gA_ne; decide) | with_reducible apply gA_I | with_reducible apply gA_O | (with_reducible apply gA_nj; omega) | with_reducible rfl)) ?_
        first | refine z_bne 40 rfl rfl (fun hc37 => ?_) (fun hc37 => ?_)
        · refine z_aload 48 rfl rfl rfl ?_
          refine z_iload 49 rfl rfl rfl ?_
          refine z_push 50 (nI 3) rfl rfl rfl ?_
          refine z_aload 51 rfl rfl rfl ?_
          refine y_ga 54 hR rfl rfl rfl ?_
          refine z_cv3 57 rfl rfl hR.1 rfl (Nat.le_refl _) (Nat.le_refl _) ?_
          refine r_readAll (o := 43) hR (by omega) hg1 (hK P hPP) hT (hB P hPP) (by omega) hI.2.2.2.2.1.1 hsg hI.2.1 hbb (by decide) rfl (by decide) (fun h s1 hR hKp1 g221 hfa1 ho1 g391 => ?_)
          have n1 := rdAll_none (K := pgK A.pgs P) (rule := 3) (sg := A.sgn.1) (hB P hPP) hbb (by decide)
          have l1 := (rdAll_len (K := pgK A.pgs P) (rule := 3) (sg := A.sgn.1) (hB P hPP) hbb).1
          have hI1 := hI.k0 hKp1 (by rw [g221, rdP, n1])
          rw [show rdR (rdAll (pgK A.pgs P) (pgE A.pgs P) (pgH A.pgs P) 3 A.sgn.1 A.bys) = nI (rdPg A P 3).2.1.length from by rw [rdR, n1]; rfl]
          refine z_istore 58 rfl rfl rfl rfl ?_
          refine z_aload 59 rfl rfl rfl ?_
          refine z_iload 60 rfl rfl rfl ?_
          refine z_push 61 (nI 3) rfl rfl rfl ?_
          refine z_aload 62 rfl rfl rfl ?_
          refine y_ga 65 hR rfl rfl rfl ?_
          refine z_cv3 68 rfl rfl hR.1 rfl (Nat.le_refl _) (Nat.le_refl _) ?_
          refine r_readAll (o := 44) hR (by omega) (hI1.1.2.2 U hU).1 (hK U hU) (hI1.1.2.2 U hU).2.2 (hB U hU) (by omega) hI1.2.2.2.2.1.1 hsg hI1.2.1 hbb (by decide) rfl (by decide) (fun h s2 hR hKp2 g222 hfa2 ho2 g392 => ?_)
          have n2 := rdAll_none (K := pgK A.pgs U) (rule := 3) (sg := A.sgn.1) (hB U hU) hbb (by decide)
          have l2 := (rdAll_len (K := pgK A.pgs U) (rule := 3) (sg := A.sgn.1) (hB U hU) hbb).1
          have hI2 := hI1.k0 hKp2 (by rw [g222, rdP, n2])
          rw [show rdR (rdAll (pgK A.pgs U) (pgE A.pgs U) (pgH A.pgs U) 3 A.sgn.1 A.bys) = nI (rdPg A U 3).2.1.length from by rw [rdR, n2]; rfl]
          have hby := hI.2.1.2.1
          have l1' : (rdPg A P 3).2.1.length ≤ 2 * A.bys.length := l1
          have l2' : (rdPg A U 3).2.1.length ≤ 2 * A.bys.length := l2
          have w1 : ∀ j, j < (rdPg A P 3).2.1.length → s2.2.2 43 j = (rdPg A P 3).2.1.getD j 0 := fun j hj => by rw [hfa2 43 (by decide)]; have := ho1.2.2 j hj; rw [Nat.zero_add] at this; exact this
          have w2 : ∀ j, j < (rdPg A U 3).2.1.length → s2.2.2 44 j = (rdPg A U 3).2.1.getD j 0 := fun j hj => by have := ho2.2.2 j hj; rw [Nat.zero_add] at this; exact this
          refine z_istore 70 rfl rfl rfl rfl ?_
          have vb1 := rd_ub (A := A) (P := P) (rule := 3) (hB P hPP) hbb hsg
          have vb2 := rd_ub (A := A) (P := U) (rule := 3) (hB U hU) hbb hsg
          have loop : ∀ D0, D0 ≤ 2000 → msC (rdPg A P 3).2.1 (rdPg A U 3).2.1 = D0 + cnt9 (neL (rdPg A P 3).2.1 (rdPg A U 3).2.1) (min (rdPg A P 3).2.1.length (rdPg A U 3).2.1.length) → ∀ m i, min (rdPg A P 3).2.1.length (rdPg A U 3).2.1.length < i + m → i ≤ min (rdPg A P 3).2.1.length (rdPg A U 3).2.1.length → mZ (d + 6) tk_249 0 0 Q 92 [some (.ref r), some (.int (nI P)), some (.int (nI U)), some (.int (nI (rdPg A P 3).2.1.length)), some (.int (nI (rdPg A U 3).2.1.length)), some (.int (nI (D0 + cnt9 (neL (rdPg A P 3).2.1 (rdPg A U 3).2.1) i))), some (.int (nI i))] [] h 0 0 := by
            intro D0 hD0 hms m
            induction m with
            | zero => intro i h1 h2; omega
            | succ m ih =>
              intro i h1 h2
              have hcn := cnt9_le (neL (rdPg A P 3).2.1 (rdPg A U 3).2.1) i
              have hb9 : ∀ (l : List Nat) k, (∀ x ∈ l, x < 2 ^ 31) → l.getD k 0 < 2 ^ 31 := fun l k hl => by
                rw [List.getD_eq_getElem?_getD]
                rcases hx : l[k]? with _ | x
                · decide
                · exact hl x (List.mem_of_getElem? hx)
              refine z_iload 94 rfl rfl rfl ?_
              refine z_iload 95 rfl rfl rfl ?_
              refine z_nge 98 rfl rfl (by omega) (by omega) (fun hc95 => ?_) (fun hc95 => ?_)
              · refine z_iload 140 rfl rfl rfl ?_
                refine z_ireti rfl (Nat.le_refl _) (Nat.le_refl _) ?_
                have e9 : sp_misread A (nI P) (nI U) = (nI (msC (rdPg A P 3).2.1 (rdPg A U 3).2.1), A) := by
                  rw [sp_misread, if_pos ⟨hc5, hc13⟩, hp2, hu2, if_pos ⟨hc28, hc37⟩]
                rw [e9, hms] at Q1
                obtain rfl : i = min (rdPg A P 3).2.1.length (rdPg A U 3).2.1.length := by omega
                exact Q1 h s2 hR hI2
              · refine z_iload 100 rfl rfl rfl ?_
                refine z_iload 102 rfl rfl rfl ?_
                refine z_nge 105 rfl rfl (by omega) (by omega) (fun hc102 => ?_) (fun hc102 => ?_)
                · refine z_iload 140 rfl rfl rfl ?_
                  refine z_ireti rfl (Nat.le_refl _) (Nat.le_refl _) ?_
                  have e9 : sp_misread A (nI P) (nI U) = (nI (msC (rdPg A P 3).2.1 (rdPg A U 3).2.1), A) := by
                    rw [sp_misread, if_pos ⟨hc5, hc13⟩, hp2, hu2, if_pos ⟨hc28, hc37⟩]
                  rw [e9, hms] at Q1
                  obtain rfl : i = min (rdPg A P 3).2.1.length (rdPg A U 3).2.1.length := by omega
                  exact Q1 h s2 hR hI2
                · refine z_iload 107 rfl rfl rfl ?_
                  refine z_aload 108 rfl rfl rfl ?_
                  refine y_ga 111 hR rfl rfl rfl ?_
                  refine z_iload 113 rfl rfl rfl ?_
                  refine y_al (f := 43) 114 _ hR rfl rfl rfl rfl (by omega) (by repeat (first | with_reducible exact w1 i (by omega) | with_reducible exact w2 i (by omega) | with_reducible exact gA_eq _ _ _ _ | (with_reducible apply gA_ne; decide) | with_reducible apply gA_I | with_reducible apply gA_O | (with_reducible apply gA_nj; omega) | with_reducible rfl)) ?_
                  refine z_aload 115 rfl rfl rfl ?_
                  refine y_ga 118 hR rfl rfl rfl ?_
                  refine z_iload 120 rfl rfl rfl ?_
                  refine y_al (f := 44) 121 _ hR rfl rfl rfl rfl (by omega) (by repeat (first | with_reducible exact w1 i (by omega) | with_reducible exact w2 i (by omega) | with_reducible exact gA_eq _ _ _ _ | (with_reducible apply gA_ne; decide) | with_reducible apply gA_I | with_reducible apply gA_O | (with_reducible apply gA_nj; omega) | with_reducible rfl)) ?_
                  refine z_cne 124 rfl rfl (fun hc121 => ?_) (fun hc121 => ?_)
                  · have ne9 : ¬ (rdPg A P 3).2.1.getD i 0 = (rdPg A U 3).2.1.getD i 0 := fun e => hc121 (by rw [e])
                    refine z_push 129 (nI 1) rfl rfl rfl ?_
                    refine z_bop 130 _ rfl rfl (by first | with_reducible exact zb_0 _ _ | exact zd_0 _ _) ?_
                    refine z_istore 132 rfl rfl rfl rfl ?_
                    refine z_iinc 135 _ rfl rfl rfl rfl (by first | with_reducible exact zi_1 _ | rfl) ?_
                    refine z_goto rfl ?_
                    have h9 := ih (i + 1) (by omega) (by omega)
                    rw [show cnt9 (neL (rdPg A P 3).2.1 (rdPg A U 3).2.1) (i + 1) = cnt9 (neL (rdPg A P 3).2.1 (rdPg A U 3).2.1) i + 1 from by rw [cnt9, if_pos (by rw [neL, decide_eq_false ne9]; rfl)]] at h9
                    exact h9
                  · have eq9 : (rdPg A P 3).2.1.getD i 0 = (rdPg A U 3).2.1.getD i 0 := (nI_eq (vb1 i) (vb2 i)).mp hc121
                    refine z_push 125 (nI 0) rfl rfl rfl ?_
                    refine z_goto rfl ?_
                    refine z_bop 130 _ rfl rfl (by first | with_reducible exact zb_0 _ _ | exact zd_0 _ _) ?_
                    refine z_istore 132 rfl rfl rfl rfl ?_
                    refine z_iinc 135 _ rfl rfl rfl rfl (by first | with_reducible exact zi_1 _ | rfl) ?_
                    refine z_goto rfl ?_
                    have h9 := ih (i + 1) (by omega) (by omega)
                    rw [show cnt9 (neL (rdPg A P 3).2.1 (rdPg A U 3).2.1) (i + 1) = cnt9 (neL (rdPg A P 3).2.1 (rdPg A U 3).2.1) i + 0 from by rw [cnt9, if_neg (by rw [neL, decide_eq_true eq9]; decide)]] at h9
                    exact h9
          refine z_iload 71 rfl rfl rfl ?_
          refine z_iload 73 rfl rfl rfl ?_
          refine z_nle 76 rfl rfl (by omega) (by omega) (fun hc73 => ?_) (fun hc73 => ?_)
          · refine z_iload 85 rfl rfl rfl ?_
            refine z_iload 86 rfl rfl rfl ?_
            refine z_bop 87 _ rfl rfl (by first | with_reducible exact zb_1 (by omega) | exact zd_1 _ _) ?_
            refine z_istore 89 rfl rfl rfl rfl ?_
            refine z_push 90 (nI 0) rfl rfl rfl ?_
            refine z_istore 92 rfl rfl rfl rfl ?_
            rw [show (rdPg A U 3).2.1.length - (rdPg A P 3).2.1.length = ((rdPg A U 3).2.1.length - (rdPg A P 3).2.1.length) + cnt9 (neL (rdPg A P 3).2.1 (rdPg A U 3).2.1) 0 from rfl]
            exact loop _ (by omega) (by rw [msC]; congr 1; omega) (min (rdPg A P 3).2.1.length (rdPg A U 3).2.1.length + 1) 0 (by omega) (by omega)
          · refine z_iload 77 rfl rfl rfl ?_
            refine z_iload 79 rfl rfl rfl ?_
            refine z_bop 80 _ rfl rfl (by first | with_reducible exact zb_1 (by omega) | exact zd_1 _ _) ?_
            refine z_goto rfl ?_
            refine z_istore 89 rfl rfl rfl rfl ?_
            refine z_push 90 (nI 0) rfl rfl rfl ?_
            refine z_istore 92 rfl rfl rfl rfl ?_
            rw [show (rdPg A P 3).2.1.length - (rdPg A U 3).2.1.length = ((rdPg A P 3).2.1.length - (rdPg A U 3).2.1.length) + cnt9 (neL (rdPg A P 3).2.1 (rdPg A U 3).2.1) 0 from rfl]
            exact loop _ (by omega) (by rw [msC]; congr 1; omega) (min (rdPg A P 3).2.1.length (rdPg A U 3).2.1.length + 1) 0 (by omega) (by omega)
        · refine z_aload 41 rfl rfl rfl ?_
          refine z_push 43 (-5) rfl rfl rfl ?_
          refine z_cv1 46 rfl rfl hR.1 rfl (Nat.le_refl _) (Nat.le_refl _) ?_
          refine r_tell hR (fun h9 => absurd h9 (by decide)) (fun _ h hR => ?_)
          refine z_ireti rfl (Nat.le_refl _) (Nat.le_refl _) ?_
          have e9 : sp_misread A (nI P) (nI U) = (-5, A.tell) := by
            rw [sp_misread, if_pos ⟨hc5, hc13⟩, hp2, hu2, if_neg ?_]
            intro h9
            first | (rw [hc28] at h9; exact absurd h9.1 (by decide)) | (rw [hc37] at h9; exact absurd h9.2 (by decide))
          rw [e9] at Q1
          exact Q1 h _ hR hI.tell
    · refine z_aload 17 rfl rfl rfl ?_
      refine z_push 18 (-1) rfl rfl rfl ?_
      refine z_cv1 21 rfl rfl hR.1 rfl (Nat.le_refl _) (Nat.le_refl _) ?_
      refine r_tell hR (fun h9 => absurd h9 (by decide)) (fun _ h hR => ?_)
      refine z_ireti rfl (Nat.le_refl _) (Nat.le_refl _) ?_
      have e9 : sp_misread A (nI P) q = (-1, A.tell) := if_neg (fun h9 => by
        first | (rw [decide_eq_false_iff_not] at hc5; exact hc5 h9.1) | (rw [decide_eq_false_iff_not] at hc13; exact hc13 h9.2))
      rw [e9] at Q1
      exact Q1 h _ hR hI.tell
