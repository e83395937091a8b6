/-! the class: decode, faults, detect, misread -/
theorem CI.swap {h h' : mH} {A : Ab} {pad : Nat → Nat} {sp : Option Nat} {res wrk k : Nat} {l : List Nat} (a : CI h A pad sp res wrk) (hw : RwAt h wrk 6000 l) (e1 : h'.2 1 = oX A.pgs.length sp wrk k res A.plc A.fnd) (f : ∀ x, x ≠ 1 → h'.2 x = h.2 x) (hs : h'.1 = h.1) : CI h' (A.wRes (k, l)) pad sp wrk res := by
  obtain ⟨c1, cr, cp, cb, cu, cq, ⟨_, s2, s3, s4, s5⟩, ck, cru, cm⟩ := a
  have cs2 : CSc h res := ⟨⟨_, cq⟩, s2, s3, s4, s5⟩
  exact ⟨e1, by omega, cp.e (f _ (by omega)) (fun x x1 x2 => f x (by omega)) (by omega), cb.e (fun x x1 x2 => f x (by omega)), cu.e (fun x x1 x2 => f x (by omega)), hw.e (fun x x1 x2 => f x (by omega)), cs2.e (fun x x1 x2 => f x (by omega)) (fun x x1 x2 => f x (by omega)) (fun x x1 x2 => f x (by omega)) (f _ (by omega)), ck.e (f _ (by omega)), cru.e (fun x x1 x2 => f x (by omega)), cm.e (f _ (by omega)) (fun x x1 x2 => f x (by omega))⟩
set_option maxRecDepth 100000 in
theorem c_keepN {d : Nat} {h : mH} {A : Ab} {pad : Nat → Nat} {sp : Option Nat} {res wrk : Nat} {v k : Int32} {Q : mP} (hC : CI h A pad sp res wrk) (hv : v.toInt < 0)  (q : Q (some (.int v)) h) : mWP (d + 1) 161 [.ref 1, .int v, .int k] h Q := by
  refine z_in [some (.ref 1), some (.int v), some (.int k), none] (by rfl) rfl rfl rfl ?_
  refine z_iload 1 rfl rfl rfl ?_
  refine z_jlt 4 rfl rfl (fun _ => ?_) (fun h9 => absurd h9 (by omega))
  refine z_iload 28 rfl rfl rfl ?_
  refine z_ireti rfl (Nat.le_refl _) (Nat.le_refl _) ?_
  exact q
set_option maxRecDepth 100000 in
theorem c_keepP {d : Nat} {h : mH} {A : Ab} {pad : Nat → Nat} {sp : Option Nat} {res wrk : Nat} {v : Int32} {k : Nat} {l : List Nat} {Q : mP} (hC : CI h A pad sp res wrk) (hw : RwAt h wrk 6000 l) (hv : 0 ≤ v.toInt)  (q : ∀ h', CI h' (A.wRes (k, l)) pad sp wrk res → Fr 1 2 h h' → Q (some (.int v)) h') : mWP (d + 1) 161 [.ref 1, .int v, .int (nI k)] h Q := by
  refine z_in [some (.ref 1), some (.int v), some (.int (nI k)), none] (by rfl) rfl rfl rfl ?_
  refine z_iload 1 rfl rfl rfl ?_
  refine z_jlt 4 rfl rfl (fun h9 => absurd h9 (by omega)) (fun _ => ?_)
  refine z_aload 5 rfl rfl rfl ?_
  refine z_get 8 rfl rfl (by first | exact hC.1 | exact mg_eq _ _ _ | fail "lk") rfl ?_
  refine z_astore 9 rfl rfl rfl rfl ?_
  refine z_aload 10 rfl rfl rfl ?_
  refine z_aload 11 rfl rfl rfl ?_
  refine z_get 14 rfl rfl (by first | exact hC.1 | exact mg_eq _ _ _ | fail "lk") rfl ?_
  refine z_put 17 rfl rfl (by first | exact hC.1 | exact mg_eq _ _ _ | fail "lk") rfl (mFo rfl) ?_
  refine z_aload 18 rfl rfl rfl ?_
  refine z_aload 19 rfl rfl rfl ?_
  refine z_put 22 rfl rfl (by first | exact hC.1 | exact mg_eq _ _ _ | fail "lk") rfl (mFo rfl) ?_
  refine z_aload 23 rfl rfl rfl ?_
  refine z_iload 24 rfl rfl rfl ?_
  refine z_put 27 rfl rfl (by first | exact hC.1 | exact mg_eq _ _ _ | fail "lk") rfl (mFi rfl) ?_
  refine z_ab 1 (oX A.pgs.length sp wrk k res A.plc A.fnd) h (mg_eq _ _ _) (fun x hx => by simp only [mSet, if_neg hx]) rfl (fun h2 hc2 kh2 zh2 => ?_)
  refine z_iload 28 rfl rfl rfl ?_
  refine z_ireti rfl (Nat.le_refl _) (Nat.le_refl _) ?_
  exact q h2 (hC.swap hw hc2 kh2 zh2) ⟨zh2, fun x hx => kh2 x (by omega)⟩
theorem rdA_some {K rule sg : Nat} {E : List En} {H : List Sh} (hW : TbW E H) (hr : rule ≠ 0) : ∀ (m a st pn : Nat) (bs us : List Nat) (fl : Nat), (∀ j, bs.getD j 0 < 256) → st < 4 → pn ≤ 4 → ∀ b us' fl', rdA K E H rule sg m a st pn bs us fl ≠ (some b, us', fl')
  | 0, a, st, pn, bs, us, fl, _, _, _, b, us', fl' => by rw [rdA]; exact fun h => by cases h
  | m + 1, a, st, pn, bs, us, fl, hb, hst, hpn, b, us', fl' => by
    rw [rdA]
    split
    · exact fun h => by cases h
    · rename_i h0
      have hrb := rd1_b (rule := rule) (sg := sg) (last := true) (K := K) (st := st) (pn := pn) hW hb (show 1 ≤ bs.length by omega) hst hpn
      split
      · rename_i h1
        exact absurd (hrb.2.2.2.2.2.2 h1 rfl).1 hr
      · exact rdA_some hW hr m _ _ _ _ _ _ (fun j => by rw [getD_drop9]; exact hb _) hrb.2.1 hrb.2.2.1 b us' fl'
theorem rdPg_some {A : Ab} {P rule : Nat} (hA : AbW A) (hP : P < A.pgs.length) (hr : rule ≠ 0) {b : Nat} {us : List Nat} {fl : Nat} : rdPg A P rule ≠ (some b, us, fl) := rdA_some (hA.1 P hP) hr _ _ _ _ _ _ _ hA.2.2.2.1 (by decide) (by decide) b us fl
set_option maxRecDepth 100000 in
theorem c_malformedBytes {d : Nat} {h : mH} {A : Ab} {pad : Nat → Nat} {sp : Option Nat} {res wrk : Nat} {P : Nat} {Q : mP} (hC : CI h A pad sp res wrk) (hA : AbW A) (hP : P < A.pgs.length) (hcl : pgC A.pgs P = true)  (q : ∀ h', CI h' A pad sp res wrk → (∀ x, (x < 41 ∨ 43 ≤ x) → (x < wrk ∨ wrk + 2 ≤ x) → h'.2 x = h.2 x) → h'.1 = h.1 → Q (some (.int (nI (rdPg A P 2).2.2))) h') : mWP (d + 7) 163 [.ref 1, .ref (pad P)] h Q := by
  obtain ⟨c1, cr, cp, cb, cu, cq, cs, ck, cru, cm⟩ := id hC
  obtain ⟨cp0, ⟨pf, cp1, cp2⟩, cp3, cp4, cp5⟩ := id cp
  obtain ⟨lw, hlw⟩ := cs.1
  refine z_in [some (.ref 1), some (.ref (pad P))] (by rfl) rfl rfl rfl ?_
  refine z_aload 1 rfl rfl rfl ?_
  refine z_aload 2 rfl rfl rfl ?_
  refine z_push 3 (nI 2) rfl rfl rfl ?_
  refine z_aload 4 rfl rfl rfl ?_
  refine z_get 7 rfl rfl (by first | exact c1 | exact hC2.1 | exact hr2.1 | fail "lk") rfl ?_
  refine z_cv3 10 rfl rfl (by first | exact c1 | exact hC2.1 | exact hr2.1 | fail "lk") rfl (Nat.le_refl _) (Nat.le_refl _) ?_
  refine c_readAll hC hA hP hcl (by decide) (Or.inl ⟨rfl, rfl⟩) hlw (fun us fl hX h2 hC2 hw2 hr9 hF2 hs2 => ?_) (fun a us fl hX => absurd hX (rdPg_some hA hP (by decide)))
  obtain ⟨st2, pn2, hr2⟩ := hr9
  refine z_pop 11 rfl rfl ?_
  refine z_aload 12 rfl rfl rfl ?_
  refine z_get 15 rfl rfl (by first | exact c1 | exact hC2.1 | exact hr2.1 | fail "lk") rfl ?_
  refine z_get 18 rfl rfl (by first | exact c1 | exact hC2.1 | exact hr2.1 | fail "lk") rfl ?_
  refine z_ireti rfl (Nat.le_refl _) (Nat.le_refl _) ?_
  have e2 : (rdPg A P 2).2.2 = fl := by rw [hX]
  rw [e2] at q
  exact q h2 hC2 hF2 hs2
set_option maxRecDepth 100000 in
theorem c_faults {d : Nat} {h : mH} {A : Ab} {pad : Nat → Nat} {sp : Option Nat} {res wrk : Nat} {p : Int32} {Q : mP} (hC : CI h A pad sp res wrk) (hA : AbW A)  (q : ∀ h', CInv h' (sp_faults A p).2 → KpX h h' → Q (some (.int (sp_faults A p).1)) h') : mWP (d + 8) 133 [.ref 1, .int p] h Q := by
  obtain ⟨c1, cr, cp, cb, cu, cq, cs, ck, cru, cm⟩ := id hC
  obtain ⟨cp0, ⟨pf, cp1, cp2⟩, cp3, cp4, cp5⟩ := id cp
  refine z_in [some (.ref 1), some (.int p), none] (by rfl) rfl rfl rfl ?_
  refine z_aload 1 rfl rfl rfl ?_
  refine z_iload 2 rfl rfl rfl ?_
  refine z_cv1 5 rfl rfl (by first | exact c1 | exact cp1 | fail "lk") rfl (Nat.le_refl _) (Nat.le_refl _) ?_
  refine c_closedFinding hC ?_
  refine z_istore 6 rfl rfl rfl rfl ?_
  refine z_iload 7 rfl rfl rfl ?_
  first | refine z_ieq 10 rfl rfl (fun hc7 => ?_) (fun hc7 => ?_)
  · obtain ⟨hr, hcl⟩ := cf_0 hc7
    obtain ⟨P, hP, rfl, hp1, hp2⟩ := ixP cp0 (inR_t hr)
    rw [hp2] at hcl
    refine z_aload 17 rfl rfl rfl ?_
    refine z_aload 18 rfl rfl rfl ?_
    refine z_get 21 rfl rfl (by first | exact c1 | exact cp1 | fail "lk") rfl ?_
    refine z_iload 22 rfl rfl rfl ?_
    refine z_qld 23 rfl rfl (by first | exact c1 | exact cp1 | fail "lk") (by decide) rfl (by omega) (by omega) (cp2 P hP) ?_
    refine z_cv1 26 rfl rfl (by first | exact c1 | exact cp1 | fail "lk") rfl (Nat.le_refl _) (Nat.le_refl _) ?_
    refine c_malformedBytes hC hA hP hcl (fun h2 hC2 hF2 hs2 => ?_)
    refine z_ireti rfl (Nat.le_refl _) (Nat.le_refl _) ?_
    have e9 : sp_faults A (nI P) = (nI (rdPg A P 2).2.2, A) := by rw [sp_faults, if_pos hr, hp2, if_pos hcl]
    rw [e9] at q
    exact q h2 hC2.inv ⟨fun x hx => hF2 x (by omega) (by omega), by rw [hs2]; exact Nat.le_refl _⟩
  · refine z_aload 11 rfl rfl rfl ?_
    refine z_iload 12 rfl rfl rfl ?_
    refine z_cv1 15 rfl rfl (by first | exact c1 | exact cp1 | fail "lk") rfl (Nat.le_refl _) (Nat.le_refl _) ?_
    refine c_ansN hC (cfI_n hc7) (fun h1 hC1 hX1 => ?_)
    refine z_ireti rfl (Nat.le_refl _) (Nat.le_refl _) ?_
    have e9 : sp_faults A p = (cfI A.pgs p, A.tell) := cf_sp hc7
    rw [e9] at q
    exact q h1 hC1.inv hX1
set_option maxRecDepth 100000 in
theorem c_decode {d : Nat} {h : mH} {A : Ab} {pad : Nat → Nat} {sp : Option Nat} {res wrk : Nat} {p ru : Int32} {Q : mP} (hC : CI h A pad sp res wrk) (hA : AbW A)  (q : ∀ h', CInv h' (sp_decode A p ru).2 → KpX h h' → Q (some (.int (sp_decode A p ru).1)) h') : mWP (d + 8) 119 [.ref 1, .int p, .int ru] h Q := by
  obtain ⟨c1, cr, cp, cb, cu, cq, cs, ck, cru, cm⟩ := id hC
  obtain ⟨cp0, ⟨pf, cp1, cp2⟩, cp3, cp4, cp5⟩ := id cp
  obtain ⟨lw, hlw⟩ := cs.1
  refine z_in [some (.ref 1), some (.int p), some (.int ru), none] (by rfl) rfl rfl rfl ?_
  refine z_aload 1 rfl rfl rfl ?_
  refine z_iload 2 rfl rfl rfl ?_
  refine z_cv1 5 rfl rfl (by first | exact c1 | exact cp1 | exact hC2.1 | exact hC3.1 | fail "lk") rfl (Nat.le_refl _) (Nat.le_refl _) ?_
  refine c_closedFinding hC ?_
  refine z_istore 6 rfl rfl rfl rfl ?_
  refine z_iload 7 rfl rfl rfl ?_
  first | refine z_ine 10 rfl rfl (fun hc7 => ?_) (fun hc7 => ?_)
  · refine z_iload 20 rfl rfl rfl ?_
    refine z_ieq 23 rfl rfl (fun h9 => absurd h9 hc7) (fun _ => ?_)
    refine z_aload 24 rfl rfl rfl ?_
    refine z_iload 25 rfl rfl rfl ?_
    refine z_cv1 28 rfl rfl (by first | exact c1 | exact cp1 | exact hC2.1 | exact hC3.1 | fail "lk") rfl (Nat.le_refl _) (Nat.le_refl _) ?_
    refine c_ansN hC (cfI_n hc7) (fun h1 hC1 hX1 => ?_)
    refine z_ireti rfl (Nat.le_refl _) (Nat.le_refl _) ?_
    have e9 : sp_decode A p ru = (cfI A.pgs p, A.tell) := cf_sp hc7
    rw [e9] at q
    exact q h1 hC1.inv hX1
  · refine z_iload 11 rfl rfl rfl ?_
    refine z_cs1 14 rfl rfl rfl (Nat.le_refl _) (Nat.le_refl _) ?_
    refine c_isReadRule ?_
    first | refine z_bne 17 rfl rfl (fun hc14 => ?_) (fun hc14 => ?_)
    · refine z_iload 20 rfl rfl rfl ?_
      refine z_ieq 23 rfl rfl (fun _ => ?_) (fun h9 => absurd hc7 h9)
      have hru8 : 0 ≤ ru.toInt ∧ ru.toInt ≤ 3 := of_decide_eq_true hc14
      obtain ⟨hr, hcl⟩ := cf_0 hc7
      obtain ⟨P, hP, rfl, hp1, hp2⟩ := ixP cp0 (inR_t hr)
      rw [hp2] at hcl
      obtain ⟨RU, hRU, rfl, hru1, hru2⟩ := ix_of (x := ru) (n := 4) (by omega)
      refine z_aload 30 rfl rfl rfl ?_
      refine z_aload 31 rfl rfl rfl ?_
      refine z_aload 32 rfl rfl rfl ?_
      refine z_aload 33 rfl rfl rfl ?_
      refine z_get 36 rfl rfl (by first | exact c1 | exact cp1 | exact hC2.1 | exact hC3.1 | fail "lk") rfl ?_
      refine z_iload 37 rfl rfl rfl ?_
      refine z_qld 38 rfl rfl (by first | exact c1 | exact cp1 | exact hC2.1 | exact hC3.1 | fail "lk") (by decide) rfl (by omega) (by omega) (cp2 P hP) ?_
      refine z_iload 39 rfl rfl rfl ?_
      refine z_aload 40 rfl rfl rfl ?_
      refine z_get 43 rfl rfl (by first | exact c1 | exact cp1 | exact hC2.1 | exact hC3.1 | fail "lk") rfl ?_
      refine z_cv3 46 rfl rfl (by first | exact c1 | exact cp1 | exact hC2.1 | exact hC3.1 | fail "lk") rfl (Nat.le_refl _) (Nat.le_refl _) ?_
      refine c_readAll hC hA hP hcl (by omega) (Or.inl ⟨rfl, rfl⟩) hlw (fun us fl hX h2 hC2 hw2 hr9 hF2 hs2 => ?_) (fun a us fl hX h2 hC2 hF2 hs2 => ?_)
      · skip
        refine z_push 47 (nI 1) rfl rfl rfl ?_
        refine z_cv2 50 rfl rfl (by first | exact c1 | exact cp1 | exact hC2.1 | exact hC3.1 | fail "lk") rfl (Nat.le_refl _) (Nat.le_refl _) ?_
        have hul := hw2.2.1
        refine c_keepP hC2 hw2 (by rw [nI_toInt (by omega)]; omega) (fun h3 hC3 hF3 => ?_)
        refine z_cv1 53 rfl rfl (by first | exact c1 | exact cp1 | exact hC2.1 | exact hC3.1 | fail "lk") rfl (Nat.le_refl _) (Nat.le_refl _) ?_
        refine c_ansP hC3 (by rw [nI_toInt (by omega)]; omega) ?_
        refine z_ireti rfl (Nat.le_refl _) (Nat.le_refl _) ?_
        have e9 : sp_decode A (nI P) (nI RU) = (nI us.length, A.wRes (1, us)) := by
          rw [sp_decode, if_pos hr, hp2, if_pos hcl, if_pos hru8, hru2, hX]
        rw [e9] at q
        exact q h3 hC3.inv ⟨fun x hx => (hF3.2 x (by omega)).trans (hF2 x (by omega) (by omega)), by rw [hF3.1, hs2]; exact Nat.le_refl _⟩
      · skip
        refine z_push 47 (nI 1) rfl rfl rfl ?_
        refine z_cv2 50 rfl rfl (by first | exact c1 | exact cp1 | exact hC2.1 | exact hC3.1 | fail "lk") rfl (Nat.le_refl _) (Nat.le_refl _) ?_
        refine c_keepN hC2 (by decide) ?_
        refine z_cv1 53 rfl rfl (by first | exact c1 | exact cp1 | exact hC2.1 | exact hC3.1 | fail "lk") rfl (Nat.le_refl _) (Nat.le_refl _) ?_
        refine c_ansN hC2 (by decide) (fun h3 hC3 hX3 => ?_)
        refine z_ireti rfl (Nat.le_refl _) (Nat.le_refl _) ?_
        have e9 : sp_decode A (nI P) (nI RU) = (-9, (A.wPlc a).tell) := by
          rw [sp_decode, if_pos hr, hp2, if_pos hcl, if_pos hru8, hru2, hX]
        rw [e9] at q
        exact q h3 hC3.inv (KpX.trans (h1 := h2) ⟨fun x hx => hF2 x (by omega) (by omega) (by omega), by rw [hs2]; exact Nat.le_refl _⟩ hX3)
    · refine z_push 18 (-1) rfl rfl rfl ?_
      refine z_istore 19 rfl rfl rfl rfl ?_
      refine z_iload 20 rfl rfl rfl ?_
      refine z_jeq 23 rfl rfl (fun h9 => absurd h9 (by decide)) (fun _ => ?_)
      refine z_aload 24 rfl rfl rfl ?_
      refine z_iload 25 rfl rfl rfl ?_
      refine z_cv1 28 rfl rfl (by first | exact c1 | exact cp1 | exact hC2.1 | exact hC3.1 | fail "lk") rfl (Nat.le_refl _) (Nat.le_refl _) ?_
      refine c_ansN hC (by decide) (fun h1 hC1 hX1 => ?_)
      refine z_ireti rfl (Nat.le_refl _) (Nat.le_refl _) ?_
      obtain ⟨hr, hcl⟩ := cf_0 hc7
      obtain ⟨P, hP, rfl, hp1, hp2⟩ := ixP cp0 (inR_t hr)
      rw [hp2] at hcl
      have e9 : sp_decode A (nI P) ru = (-1, A.tell) := by
        rw [sp_decode, if_pos hr, hp2, if_pos hcl, if_neg (of_decide_eq_false hc14)]
      rw [e9] at q
      exact q h1 hC1.inv hX1
def dtB : Option (Nat × Nat) → Int32
  | none => -2
  | some x => nI x.1
def dtC : Option (Nat × Nat) → Nat
  | none => 1001
  | some x => x.2
set_option maxRecDepth 100000 in
theorem c_detect {d : Nat} {h0 : mH} {A : Ab} {pad : Nat → Nat} {sp : Option Nat} {res wrk : Nat}  {Q : mP} (hC : CI h0 A pad sp res wrk) (hA : AbW A)  (q : ∀ h', CInv h' (sp_detect A).2 → KpX h0 h' → Q (some (.int (sp_detect A).1)) h') : mWP (d + 8) 134 [.ref 1] h0 Q := by
  have loop : ∀ m9 p o9 h o4, A.pgs.length < p + m9 → p ≤ A.pgs.length → dtF A A.pgs.length 0 none = dtF A (A.pgs.length - p) p o9 → (∀ x, o9 = some x → x.1 < A.pgs.length ∧ x.2 ≤ 1000) → CI h A pad sp res wrk → KpX h0 h → mZ (d + 7) tk_134 0 0 Q 9 [some (.ref 1), some (.int (dtB o9)), some (.int (nI (dtC o9))), some (.int (nI p)), o4] [] h 0 0 := by
    intro m9
    induction m9 with
    | zero => intro p o9 h o4 h1 h2; omega
    | succ m9 ih =>
      intro p o9 h o4 h1 h2 hD ho hC hK
      obtain ⟨c1, cr, cp, cb, cu, cq, cs, ck, cru, cm⟩ := id hC
      obtain ⟨cp0, ⟨pf, cp1, cp2⟩, cp3, cp4, cp5⟩ := id cp
      have hoc : dtC o9 ≤ 1001 := by
        cases o9 with
        | none => exact Nat.le_refl _
        | some x => have := (ho x rfl).2; show x.2 ≤ 1001; omega
      refine z_iload 10 rfl rfl rfl ?_
      refine z_aload 11 rfl rfl rfl ?_
      refine z_get 14 rfl rfl (by first | exact c1 | exact cp1 | exact hpg | exact hC2.1 | fail "lk") rfl ?_
      refine z_nge 17 rfl rfl (by omega) (by omega) (fun hc14 => ?_) (fun hc14 => ?_)
      · obtain rfl : p = A.pgs.length := by omega
        rw [Nat.sub_self, dtF] at hD
        cases o9 with
        | none =>
          have e9 : sp_detect A = (-2, A.tell) := by rw [sp_detect, hD]
          rw [e9] at q
          refine z_aload 63 rfl rfl rfl ?_
          refine z_iload 64 rfl rfl rfl ?_
          refine z_cv1 67 rfl rfl (by first | exact c1 | fail "lk") rfl (Nat.le_refl _) (Nat.le_refl _) ?_
          refine c_ansN hC (by decide) (fun h1 hC1 hX1 => ?_)
          refine z_ireti rfl (Nat.le_refl _) (Nat.le_refl _) ?_
          exact q h1 hC1.inv (hK.trans hX1)
        | some x =>
          have hx9 := ho x rfl
          have e9 : sp_detect A = (nI x.1, A) := by rw [sp_detect, hD]
          rw [e9] at q
          have hxx : 0 ≤ (nI x.1).toInt := by rw [nI_toInt (by omega)]; omega
          refine z_aload 63 rfl rfl rfl ?_
          refine z_iload 64 rfl rfl rfl ?_
          refine z_cv1 67 rfl rfl (by first | exact c1 | fail "lk") rfl (Nat.le_refl _) (Nat.le_refl _) ?_
          refine c_ansP hC hxx ?_
          refine z_ireti rfl (Nat.le_refl _) (Nat.le_refl _) ?_
          exact q h hC.inv hK
      · have hp : p < A.pgs.length := by omega
        obtain ⟨m8, rc8, hpg⟩ := hC.pg hp
        rw [dtF_s hp] at hD
        refine z_aload 18 rfl rfl rfl ?_
        refine z_get 21 rfl rfl (by first | exact c1 | exact cp1 | exact hpg | exact hC2.1 | fail "lk") rfl ?_
        refine z_iload 22 rfl rfl rfl ?_
        refine z_qld 23 rfl rfl (by first | exact c1 | exact cp1 | exact hpg | exact hC2.1 | fail "lk") (by decide) rfl (by omega) (by omega) (cp2 p hp) ?_
        refine z_get 26 rfl rfl (by first | exact c1 | exact cp1 | exact hpg | exact hC2.1 | fail "lk") rfl ?_
        first | refine z_beq 29 rfl rfl (fun hc26 => ?_) (fun hc26 => ?_)
        · refine z_iload 43 rfl rfl rfl ?_
          refine z_istore 45 rfl rfl rfl rfl ?_
          refine z_iload 47 rfl rfl rfl ?_
          refine z_iload 48 rfl rfl rfl ?_
          refine z_nge 51 rfl rfl (by omega) (by omega) (fun _ => ?_) (fun h9 => absurd h9 (by omega))
          refine z_iinc 59 _ rfl rfl rfl rfl (by first | with_reducible exact zi_1 _ | rfl) ?_
          refine z_goto rfl ?_
          refine ih (p + 1) o9 h _ (by omega) (by omega) ?_ ho hC hK
          rw [hD]
          unfold dtS
          rw [if_neg (by rw [hc26]; decide)]
        · refine z_aload 30 rfl rfl rfl ?_
          refine z_aload 31 rfl rfl rfl ?_
          refine z_get 34 rfl rfl (by first | exact c1 | exact cp1 | exact hpg | exact hC2.1 | fail "lk") rfl ?_
          refine z_iload 35 rfl rfl rfl ?_
          refine z_qld 36 rfl rfl (by first | exact c1 | exact cp1 | exact hpg | exact hC2.1 | fail "lk") (by decide) rfl (by omega) (by omega) (cp2 p hp) ?_
          refine z_cv1 39 rfl rfl (by first | exact c1 | exact cp1 | exact hpg | exact hC2.1 | fail "lk") rfl (Nat.le_refl _) (Nat.le_refl _) ?_
          have hfl : (rdPg A p 2).2.2 ≤ 1000 := Nat.le_trans (rdAll_len (hA.1 p hp) hA.2.2.2.1).2 cb.2.1
          refine c_malformedBytes hC hA hp hc26 (fun h2 hC2 hF2 hs2 => ?_)
          have hK2 : KpX h0 h2 := hK.trans ⟨fun x hx => hF2 x (by omega) (by omega), by rw [hs2]; exact Nat.le_refl _⟩
          refine z_goto rfl ?_
          refine z_istore 45 rfl rfl rfl rfl ?_
          refine z_iload 47 rfl rfl rfl ?_
          refine z_iload 48 rfl rfl rfl ?_
          refine z_nge 51 rfl rfl (by omega) (by omega) (fun hc48 => ?_) (fun hc48 => ?_)
          · refine z_iinc 59 _ rfl rfl rfl rfl (by first | with_reducible exact zi_1 _ | rfl) ?_
            refine z_goto rfl ?_
            refine ih (p + 1) o9 h2 _ (by omega) (by omega) ?_ ho hC2 hK2
            rw [hD]
            unfold dtS
            rw [if_pos hc26]
            cases o9 with
            | none => exact absurd hc48 (show ¬ 1001 ≤ _ by omega)
            | some x => simp only; rw [if_pos (show x.2 ≤ _ from hc48)]
          · refine z_iload 52 rfl rfl rfl ?_
            refine z_istore 53 rfl rfl rfl rfl ?_
            refine z_iload 55 rfl rfl rfl ?_
            refine z_istore 56 rfl rfl rfl rfl ?_
            refine z_iinc 59 _ rfl rfl rfl rfl (by first | with_reducible exact zi_1 _ | rfl) ?_
            refine z_goto rfl ?_
            refine ih (p + 1) (some (p, (rdPg A p 2).2.2)) h2 _ (by omega) (by omega) ?_ (fun x hx => by cases hx; exact ⟨hp, hfl⟩) hC2 hK2
            rw [hD]
            unfold dtS
            rw [if_pos hc26]
            cases o9 with
            | none => rfl
            | some x => simp only; rw [if_neg (show ¬ x.2 ≤ _ from by have h9 : (rdPg A p 2).2.2 < x.2 := hc48; omega)]
  refine z_in [some (.ref 1), none, none, none, none] (by rfl) rfl rfl rfl ?_
  refine z_push 2 (-2) rfl rfl rfl ?_
  refine z_istore 3 rfl rfl rfl rfl ?_
  refine z_push 6 (nI 1001) rfl rfl rfl ?_
  refine z_istore 7 rfl rfl rfl rfl ?_
  refine z_push 8 (nI 0) rfl rfl rfl ?_
  refine z_istore 9 rfl rfl rfl rfl ?_
  exact loop (A.pgs.length + 1) 0 none h0 _ (by omega) (by omega) (by rw [Nat.sub_zero]) (fun x hx => by cases hx) hC KpX.rfl
