/-! the class: feeding and ending machines -/
theorem setM2 {ms : Nat → Option Mc} {D : Nat} {x y : Mc} : setM (setM ms D x) D y = setM ms D y := by
  funext i
  unfold setM
  split <;> rfl
theorem wM2 {A : Ab} {D : Nat} {x y : Mc} : (A.wMcs (setM A.mcs D x)).wMcs (setM (A.wMcs (setM A.mcs D x)).mcs D y) = A.wMcs (setM A.mcs D y) := by
  show A.wMcs (setM (setM A.mcs D x) D y) = _
  rw [setM2]
theorem spR_ok {A : Ab} {D : Nat} {m : Mc} {last : Bool} {sr pn : Nat} {ks us : List Nat} (h : rdX A m last = (false, sr, pn, ks, us)) : sp_reads A D m last = (nI (m.2.2.2.2.2.2.2.2.length + us.length), A.wMcs (setM A.mcs D (m.1, m.2.1, m.2.2.1, sr, pn, ks, m.2.2.2.2.2.2.1, m.2.2.2.2.2.2.2.1, m.2.2.2.2.2.2.2.2 ++ us))) := by
  unfold sp_reads
  rw [h]
  rfl
theorem spR_no {A : Ab} {D : Nat} {m : Mc} {last : Bool} {sr pn : Nat} {ks us : List Nat} (h : rdX A m last = (true, sr, pn, ks, us)) : sp_reads A D m last = (-9, ((A.wPlc (m.2.2.2.2.2.2.1 - ks.length)).wMcs (setM A.mcs D (m.1, m.2.1, m.2.2.1, sr, 4, [], m.2.2.2.2.2.2.1, 2, m.2.2.2.2.2.2.2.2 ++ us))).tell) := by
  unfold sp_reads
  rw [h]
  rfl
theorem spW_ok {A : Ab} {D : Nat} {m : Mc} {v : Option Nat} {ao st : Nat} {ks us : List Nat} (h : wsM A m v = (false, ao, st, ks, us)) : sp_writes A D m v = (nI (m.2.2.2.2.2.2.2.2.length + us.length), A.wMcs (setM A.mcs D (m.1, m.2.1, m.2.2.1, st, m.2.2.2.2.1, ks, m.2.2.2.2.2.2.1, m.2.2.2.2.2.2.2.1, m.2.2.2.2.2.2.2.2 ++ us))) := by
  unfold sp_writes
  rw [h]
  rfl
theorem spW_no {A : Ab} {D : Nat} {m : Mc} {v : Option Nat} {ao st : Nat} {ks us : List Nat} (h : wsM A m v = (true, ao, st, ks, us)) : sp_writes A D m v = (-10, ((A.wPlc (m.2.2.2.2.2.2.1 - (if v.isSome = true then 1 else 0) - m.2.2.2.2.2.1.length + ao)).wMcs (setM A.mcs D (m.1, m.2.1, m.2.2.1, st, 4, [], m.2.2.2.2.2.2.1, 2, m.2.2.2.2.2.2.2.2 ++ us))).tell) := by
  unfold sp_writes
  rw [h]
  rfl
theorem CI.plc {h h' : mH} {A : Ab} {pad : Nat → Nat} {sp : Option Nat} {res wrk pl : Nat} (a : CI h A pad sp res wrk) (e1 : h'.2 1 = oX A.pgs.length sp res A.res.1 wrk pl A.fnd) (f : ∀ x, x ≠ 1 → h'.2 x = h.2 x) (hs : h'.1 = h.1) : CI h' (A.wPlc pl) pad sp res wrk := a.x (A' := A.wPlc pl) e1 f hs rfl rfl rfl rfl rfl rfl rfl rfl
set_option maxRecDepth 100000 in
theorem c_fedN {d : Nat} {h : mH} {A : Ab} {pad : Nat → Nat} {sp : Option Nat} {res wrk : Nat} {a k fed pl fi wt : Nat} {wr : Bool} {ph v : Int32} {Q : mP} (hC : CI h A pad sp res wrk) (hm : h.2 a = oMc a wr ph k fed pl fi wt) (hv : v.toInt < 0) (ha : a ≠ 1)  (q : ∀ h', CI h' (A.wPlc pl).tell pad sp res wrk → KpX h h' → Q (some (.int v)) h') : mWP (d + 2) 168 [.ref 1, .ref a, .int v] h Q := by
  refine z_in [some (.ref 1), some (.ref a), some (.int v)] (by rfl) rfl rfl rfl ?_
  refine z_iload 1 rfl rfl rfl ?_
  refine z_jge 4 rfl rfl (fun h9 => absurd h9 (by omega)) (fun _ => ?_)
  refine z_aload 5 rfl rfl rfl ?_
  refine z_aload 6 rfl rfl rfl ?_
  refine z_get 9 rfl rfl (by first | exact hC.1 | exact hm | exact hc2 | fail "lk") rfl ?_
  refine z_put 12 rfl rfl (by first | exact hC.1 | exact hm | exact hc2 | fail "lk") rfl (mFi rfl) ?_
  refine z_ab 1 (oX A.pgs.length sp res A.res.1 wrk pl A.fnd) h (mg_eq _ _ _) (fun x hx => by simp only [mSet, if_neg hx]) rfl (fun h2 hc2 kh2 zh2 => ?_)
  have hC2 := hC.plc hc2 kh2 zh2
  refine z_aload 13 rfl rfl rfl ?_
  refine z_iload 14 rfl rfl rfl ?_
  refine z_cv1 17 rfl rfl (by first | exact hC.1 | exact hm | exact hc2 | fail "lk") rfl (Nat.le_refl _) (Nat.le_refl _) ?_
  refine c_ansN hC2 hv (fun h1 hC1 hX1 => ?_)
  refine z_ireti rfl (Nat.le_refl _) (Nat.le_refl _) ?_
  exact q h1 hC1 ⟨fun x hx => (hX1.1 x hx).trans (kh2 x (by omega)), by rw [← zh2]; exact hX1.2⟩
set_option maxRecDepth 100000 in
theorem c_fedP {d : Nat} {h : mH} {A : Ab} {pad : Nat → Nat} {sp : Option Nat} {res wrk : Nat} {a : Nat} {v : Int32} {Q : mP} (hC : CI h A pad sp res wrk) (hv : 0 ≤ v.toInt)  (q : Q (some (.int v)) h) : mWP (d + 2) 168 [.ref 1, .ref a, .int v] h Q := by
  refine z_in [some (.ref 1), some (.ref a), some (.int v)] (by rfl) rfl rfl rfl ?_
  refine z_iload 1 rfl rfl rfl ?_
  refine z_jge 4 rfl rfl (fun _ => ?_) (fun h9 => absurd h9 (by omega))
  refine z_aload 13 rfl rfl rfl ?_
  refine z_iload 14 rfl rfl rfl ?_
  refine z_cv1 17 rfl rfl hC.1 rfl (Nat.le_refl _) (Nat.le_refl _) ?_
  refine c_ansP hC hv ?_
  refine z_ireti rfl (Nat.le_refl _) (Nat.le_refl _) ?_
  exact q
theorem gf_0 {mcs : Nat → Option Mc} {dd : Int32} (h : gfI mcs dd = 0) : ∃ (D P : Nat) (wr : Bool) (ru st pn : Nat) (ks : List Nat) (fed : Nat) (q9 : List Nat), D < 4 ∧ dd = nI D ∧ dd.toInt = D ∧ dd.toInt.toNat = D ∧ mcs D = some (P, wr, ru, st, pn, ks, fed, 0, q9) := by
  unfold gfI at h
  by_cases e : 0 ≤ dd.toInt ∧ dd.toInt ≤ 3
  · rw [if_pos e] at h
    obtain ⟨D, hD, hd0, hd1, hd2⟩ := ix_of (x := dd) (n := 4) (by omega)
    rw [hd2] at h
    rcases hm : mcs D with _ | ⟨P, wr, ru, st, pn, ks, fed, md, q9⟩
    · rw [hm] at h; exact absurd h (by decide)
    · rw [hm] at h
      simp only at h
      by_cases e2 : md = 0
      · subst e2; exact ⟨D, P, wr, ru, st, pn, ks, fed, q9, hD, hd0, hd1, hd2, hm⟩
      · rw [if_neg e2] at h; exact absurd h (by decide)
  · rw [if_neg e] at h; exact absurd h (by decide)
theorem gf_sp {mcs : Nat → Option Mc} {dd : Int32} {Y : Mc → Int32 × Ab} {T : Ab} (h : ¬ gfI mcs dd = 0) : (if 0 ≤ dd.toInt ∧ dd.toInt ≤ 3 then (match mcs dd.toInt.toNat with
  | none => (-2, T)
  | some m => if m.2.2.2.2.2.2.2.1 = 0 then Y m else (-2, T)) else (-1, T)) = (gfI mcs dd, T) := by
  unfold gfI at h ⊢
  by_cases e : 0 ≤ dd.toInt ∧ dd.toInt ≤ 3
  · rw [if_pos e] at h ⊢
    rw [if_pos e]
    rcases hm : mcs dd.toInt.toNat with _ | m
    · rfl
    · rw [hm] at h
      simp only at h ⊢
      by_cases e2 : m.2.2.2.2.2.2.2.1 = 0
      · rw [if_pos e2] at h; exact absurd rfl h
      · rw [if_neg e2, if_neg e2]
  · rw [if_neg e, if_neg e]
theorem wsX_k0 {F : List Fb} {K : Nat} {E : List En} {H : List Sh} {rule sg st ao st' : Nat} {ks ks' us : List Nat} {v : Option Nat} {b : Bool} (h0 : K ≠ 0 → st = 0) (h : wsX F K E H rule sg st ks v = (b, ao, st', ks', us)) : K ≠ 0 → st' = 0 := by
  have hL : ∀ a y b ao st' ks' us, (K ≠ 0 → y.2 = 0) → wsL F K E H rule sg a v y = (b, ao, st', ks', us) → K ≠ 0 → st' = 0 := by
    intro a y b ao st' ks' us hy hh hK
    unfold wsL at hh
    split at hh
    · rw [Prod.mk.injEq, Prod.mk.injEq, Prod.mk.injEq] at hh
      rw [← hh.2.2.1, ghW, if_neg hK]; exact hy hK
    · split at hh
      · rw [Prod.mk.injEq, Prod.mk.injEq, Prod.mk.injEq] at hh
        rw [← hh.2.2.1]; exact hy hK
      · split at hh
        · rw [Prod.mk.injEq, Prod.mk.injEq, Prod.mk.injEq] at hh
          rw [← hh.2.2.1]; exact hy hK
        · rename_i z hz
          rw [Prod.mk.injEq, Prod.mk.injEq, Prod.mk.injEq] at hh
          rw [← hh.2.2.1]
          split at hz
          · exact wl1_k0 hy hz hK
          · exact wp1_k0 hy hz hK
  unfold wsX at h
  split at h
  · exact hL _ _ _ _ _ _ _ h0 h
  · split at h
    · split at h
      · rw [Prod.mk.injEq, Prod.mk.injEq, Prod.mk.injEq] at h
        rw [← h.2.2.1]; exact h0
      · rename_i y hy
        rw [Prod.mk.injEq, Prod.mk.injEq, Prod.mk.injEq] at h
        rw [← h.2.2.1]; exact wp1_k0 h0 hy
    · split at h
      · rw [Prod.mk.injEq, Prod.mk.injEq, Prod.mk.injEq] at h
        rw [← h.2.2.1]; exact h0
      · rename_i y hy
        exact hL _ _ _ _ _ _ _ (wl1_k0 h0 hy) h
set_option maxRecDepth 100000 in
theorem c_feed {d : Nat} {h : mH} {A : Ab} {pad : Nat → Nat} {sp : Option Nat} {res wrk : Nat} {dd v : Int32} {Q : mP} (hC : CI h A pad sp res wrk) (hA : AbW A) (hN : ∀ x, fbN A.fbs 40 x ≤ 16) (hMM : AbM A)  (q : ∀ h', CInv h' (sp_feed A dd v).2 → KpX h h' → Q (some (.int (sp_feed A dd v).1)) h') : mWP (d + 11) 126 [.ref 1, .int dd, .int v] h Q := by
  obtain ⟨c1, cr, cp, cb, cu, cq, cs, ck, cru, cm⟩ := id hC
  obtain ⟨cp0, ⟨pf, cp1, cp2⟩, cp3, cp4, cp5⟩ := id cp
  obtain ⟨⟨mf, cm1, cm2⟩, cm3⟩ := id cm
  refine z_in [some (.ref 1), some (.int dd), some (.int v), none, none] (by rfl) rfl rfl rfl ?_
  refine z_aload 1 rfl rfl rfl ?_
  refine z_iload 2 rfl rfl rfl ?_
  refine z_cv1 5 rfl rfl (by first | exact c1 | exact cm1 | exact hM.1 | exact (hF2.2 1 (by omega)).trans c1 | exact hM2.1 | fail "lk") rfl (Nat.le_refl _) (Nat.le_refl _) ?_
  refine c_goingFinding hC (fun D m hm => (hMM D m hm).2.2.2.2.2.1.2) ?_
  refine z_istore 6 rfl rfl rfl rfl ?_
  refine z_iload 7 rfl rfl rfl ?_
  first | refine z_ieq 10 rfl rfl (fun hc7 => ?_) (fun hc7 => ?_)
  · obtain ⟨D, P, wr, ru, st, pn, ks, fed, q9, hD, rfl, hd1, hd2, hmm⟩ : ∃ (D P : Nat) (wr : Bool) (ru st pn : Nat) (ks : List Nat) (fed : Nat) (q9 : List Nat), D < 4 ∧ dd = nI D ∧ dd.toInt = D ∧ dd.toInt.toNat = D ∧ A.mcs D = some (P, wr, ru, st, pn, ks, fed, 0, q9) := gf_0 hc7
    obtain ⟨hPB, hKb, hGd, hbb, hub, hsg1, hsg2, hFW, hFd⟩ := id hA
    obtain ⟨mw1, mw2, mw3, mw4, mw5, ⟨mw6, _⟩, mw7, mw8⟩ : MW A (P, wr, ru, st, pn, ks, fed, 0, q9) := hMM D _ hmm
    simp only at mw1 mw2 mw3 mw4 mw5 mw6 mw7 mw8
    have cmD := cm3 D hD
    rw [hmm] at cmD
    obtain ⟨sr, sw, pl, fi, hM, hx2, hx3⟩ : ∃ sr sw pl fi, McAt h (48 + 12 * D) 16 (pad P) wr (nI 0) ru sr pn sw ks fed pl fi q9 ∧ (wr = true → sw = st ∧ pn = 4 ∧ (pgK A.pgs P ≠ 0 → st = 0)) ∧ (wr = false → sr = st ∧ ks.length ≤ 3) := cmD
    have hq429 := hM.2.2.2.1.2.1
    obtain ⟨hpad, hpad2, hPR⟩ := cp3 P mw1
    have hPC : PgC h (pad P) (pgK A.pgs P) (pgE A.pgs P) (pgH A.pgs P) := PgR.cl (by rw [← mw2]; exact hPR)
    have hW := hPB P mw1
    have hG := hGd P mw1 mw2
    have hs1 := nPt_lt hsg1
    have hs2 := nPt_lt hsg2
    refine z_aload 17 rfl rfl rfl ?_
    refine z_get 20 rfl rfl (by first | exact c1 | exact cm1 | exact hM.1 | exact (hF2.2 1 (by omega)).trans c1 | exact hM2.1 | fail "lk") rfl ?_
    refine z_iload 21 rfl rfl rfl ?_
    refine z_qld 22 rfl rfl (by first | exact c1 | exact cm1 | exact hM.1 | exact (hF2.2 1 (by omega)).trans c1 | exact hM2.1 | fail "lk") (by decide) rfl (by omega) (by omega) (cm2 D hD) ?_
    refine z_astore 24 rfl rfl rfl rfl ?_
    refine z_iload 25 rfl rfl rfl ?_
    first | refine z_jlt 28 rfl rfl (fun hc25 => ?_) (fun hc25 => ?_)
    · refine z_aload 49 rfl rfl rfl ?_
      refine z_push 50 (-1) rfl rfl rfl ?_
      refine z_cv1 53 rfl rfl (by first | exact c1 | exact cm1 | exact hM.1 | exact (hF2.2 1 (by omega)).trans c1 | exact hM2.1 | fail "lk") rfl (Nat.le_refl _) (Nat.le_refl _) ?_
      refine c_ansN hC (by decide) (fun h1 hC1 hX1 => ?_)
      refine z_ireti rfl (Nat.le_refl _) (Nat.le_refl _) ?_
      have e9 : sp_feed A (nI D) v = (-1, A.tell) := by
        rw [sp_feed, if_pos (by omega), hd2, hmm]
        simp only
        rw [if_pos trivial, if_neg (fun h9 => absurd h9.1 (by omega))]
      rw [e9] at q
      exact q h1 hC1.inv hX1
    · refine z_iload 29 rfl rfl rfl ?_
      refine z_aload 31 rfl rfl rfl ?_
      refine z_get 34 rfl rfl (by first | exact c1 | exact cm1 | exact hM.1 | exact (hF2.2 1 (by omega)).trans c1 | exact hM2.1 | fail "lk") rfl ?_
      first | refine z_beq 37 rfl rfl (fun hc34 => ?_) (fun hc34 => ?_)
      · refine z_push 45 (nI 255) rfl rfl rfl ?_
        refine z_kle 48 rfl rfl (by omega) (fun hc45 => ?_) (fun hc45 => ?_)
        · obtain ⟨V, hV, rfl, hv1, hv2⟩ := ix_of (x := v) (n := 256) (by omega)
          refine z_aload 56 rfl rfl rfl ?_
          refine z_get 59 rfl rfl (by first | exact c1 | exact cm1 | exact hM.1 | exact (hF2.2 1 (by omega)).trans c1 | exact hM2.1 | fail "lk") rfl ?_
          refine z_push 62 (nI 300) rfl rfl rfl ?_
          refine z_nle 65 rfl rfl (by omega) (by omega) (fun hc62 => ?_) (fun hc62 => ?_)
          · refine z_aload 73 rfl rfl rfl ?_
            refine z_aload 75 rfl rfl rfl ?_
            refine z_aload 77 rfl rfl rfl ?_
            refine z_get 80 rfl rfl (by first | exact c1 | exact cm1 | exact hM.1 | exact (hF2.2 1 (by omega)).trans c1 | exact hM2.1 | fail "lk") rfl ?_
            refine z_beq 83 rfl rfl (fun _ => ?_) (fun h9 => absurd h9 (by rw [hc34]; decide))
            refine z_aload 94 rfl rfl rfl ?_
            refine z_iload 95 rfl rfl rfl ?_
            refine z_cv1 98 rfl rfl (by first | exact c1 | exact cm1 | exact hM.1 | exact (hF2.2 1 (by omega)).trans c1 | exact hM2.1 | fail "lk") rfl (Nat.le_refl _) (Nat.le_refl _) ?_
            obtain ⟨h31, h32⟩ := hx3 hc34
            obtain ⟨n1, n2, n3, n4⟩ := mw8 hc34
            subst h31
            refine c_Mc_acceptByte (K := pgK A.pgs P) (E := pgE A.pgs P) (H := pgH A.pgs P) (v := V) hM cru.1 hPC hW n3 n2 mw6 n1 hs1 mw4 (by omega) (by omega) (by omega) h32 (by omega) (fun sr' pn' ks' us hX h2 hM2 hF2 => ?_) (fun sr' pn' ks' us hX h2 hM2 hF2 => ?_)
            · skip
              refine z_cv2 101 rfl rfl (by first | exact c1 | exact cm1 | exact hM.1 | exact (hF2.2 1 (by omega)).trans c1 | exact hM2.1 | fail "lk") rfl (Nat.le_refl _) (Nat.le_refl _) ?_
              have e31 := rdK_end hW _ _ _ _ _ (Nat.lt_succ_self _) (getD_apb9 n3 (show V < 256 by omega)) n2 mw6 _ _ _ _ hX
              have hC2 := hC.mc (m := (P, wr, ru, sr', pn', ks', fed + 1, 0, q9 ++ us)) hD ⟨sr', sw, _, fi, hM2, fun h9 => absurd (hc34.symm.trans h9) (by decide), fun _ => ⟨rfl, e31.2.2.2.2.2.2 rfl⟩⟩ (fun x hx => hF2.2 x hx) hF2.1
              have hu9 := hM2.2.2.2.1.2.1
              rw [List.length_append] at hu9
              refine c_fedP hC2 (by rw [nI_toInt (by omega)]; omega) ?_
              refine z_ireti rfl (Nat.le_refl _) (Nat.le_refl _) ?_
              have hX9 : rdX (A.wMcs (setM A.mcs D (mFk (P, wr, ru, sr, pn, ks, fed, 0, q9) V))) (mFk (P, wr, ru, sr, pn, ks, fed, 0, q9) V) false = (false, sr', pn', ks', us) := hX
              have e9 : sp_feed A (nI D) (nI V) = (nI (q9.length + us.length), A.wMcs (setM A.mcs D (P, wr, ru, sr', pn', ks', fed + 1, 0, q9 ++ us))) := by
                subst hc34
                rw [sp_feed, if_pos (by omega), hd2, hmm]
                simp only
                rw [if_pos trivial, if_pos (by exact ⟨by omega, by show _ ≤ (255 : Int); omega⟩), if_pos (by omega), if_neg (by decide), hv2, spR_ok hX9]
                rw [wM2]
                rfl
              rw [e9] at q
              exact q h2 hC2.inv (KpX.of hF2 (by omega) (by omega))
            · skip
              refine z_cv2 101 rfl rfl (by first | exact c1 | exact cm1 | exact hM.1 | exact (hF2.2 1 (by omega)).trans c1 | exact hM2.1 | fail "lk") rfl (Nat.le_refl _) (Nat.le_refl _) ?_
              have hC2 := hC.mc (m := (P, wr, ru, sr', 4, [], fed + 1, 2, q9 ++ us)) hD ⟨sr', sw, _, fi, hM2, fun h9 => absurd (hc34.symm.trans h9) (by decide), fun _ => ⟨rfl, Nat.zero_le _⟩⟩ (fun x hx => hF2.2 x hx) hF2.1
              refine c_fedN hC2 hM2.1 (by decide) (by omega) (fun h3 hC3 hX3 => ?_)
              refine z_ireti rfl (Nat.le_refl _) (Nat.le_refl _) ?_
              have hX9 : rdX (A.wMcs (setM A.mcs D (mFk (P, wr, ru, sr, pn, ks, fed, 0, q9) V))) (mFk (P, wr, ru, sr, pn, ks, fed, 0, q9) V) false = (true, sr', pn', ks', us) := hX
              have e9 : sp_feed A (nI D) (nI V) = (-9, ((A.wPlc (fed + 1 - ks'.length)).wMcs (setM A.mcs D (P, wr, ru, sr', 4, [], fed + 1, 2, q9 ++ us))).tell) := by
                subst hc34
                rw [sp_feed, if_pos (by omega), hd2, hmm]
                simp only
                rw [if_pos trivial, if_pos (by exact ⟨by omega, by show _ ≤ (255 : Int); omega⟩), if_pos (by omega), if_neg (by decide), hv2, spR_no hX9]
                show (_, (((A.wPlc _).wMcs (setM (setM A.mcs D _) D _))).tell) = _
                rw [setM2]
                rfl
              rw [e9] at q
              exact q h3 hC3.inv ((KpX.of hF2 (by omega) (by omega)).trans hX3)
          · refine z_aload 66 rfl rfl rfl ?_
            refine z_push 68 (-6) rfl rfl rfl ?_
            refine z_cv1 71 rfl rfl (by first | exact c1 | exact cm1 | exact hM.1 | exact (hF2.2 1 (by omega)).trans c1 | exact hM2.1 | fail "lk") rfl (Nat.le_refl _) (Nat.le_refl _) ?_
            refine c_ansN hC (by decide) (fun h1 hC1 hX1 => ?_)
            refine z_ireti rfl (Nat.le_refl _) (Nat.le_refl _) ?_
            have e9 : sp_feed A (nI D) (nI V) = (-6, A.tell) := by
              rw [sp_feed, if_pos (by omega), hd2, hmm]
              simp only
              rw [if_pos trivial, if_pos (by rw [hc34]; exact ⟨by omega, by show _ ≤ (255 : Int); omega⟩), if_neg (by omega)]
            rw [e9] at q
            exact q h1 hC1.inv hX1
        · refine z_aload 49 rfl rfl rfl ?_
          refine z_push 50 (-1) rfl rfl rfl ?_
          refine z_cv1 53 rfl rfl (by first | exact c1 | exact cm1 | exact hM.1 | exact (hF2.2 1 (by omega)).trans c1 | exact hM2.1 | fail "lk") rfl (Nat.le_refl _) (Nat.le_refl _) ?_
          refine c_ansN hC (by decide) (fun h1 hC1 hX1 => ?_)
          refine z_ireti rfl (Nat.le_refl _) (Nat.le_refl _) ?_
          have e9 : sp_feed A (nI D) v = (-1, A.tell) := by
            rw [sp_feed, if_pos (by omega), hd2, hmm]
            simp only
            rw [if_pos trivial, if_neg (fun h9 => ?_)]
            have h8 := h9.2
            rw [hc34] at h8
            have h7 : v.toInt ≤ 255 := h8
            omega
          rw [e9] at q
          exact q h1 hC1.inv hX1
      · refine z_push 39 (nI 65535) rfl rfl rfl ?_
        refine z_goto rfl ?_
        refine z_kle 48 rfl rfl (by omega) (fun hc45 => ?_) (fun hc45 => ?_)
        · obtain ⟨V, hV, rfl, hv1, hv2⟩ := ix_of (x := v) (n := 65536) (by omega)
          refine z_aload 56 rfl rfl rfl ?_
          refine z_get 59 rfl rfl (by first | exact c1 | exact cm1 | exact hM.1 | exact (hF2.2 1 (by omega)).trans c1 | exact hM2.1 | fail "lk") rfl ?_
          refine z_push 62 (nI 300) rfl rfl rfl ?_
          refine z_nle 65 rfl rfl (by omega) (by omega) (fun hc62 => ?_) (fun hc62 => ?_)
          · refine z_aload 73 rfl rfl rfl ?_
            refine z_aload 75 rfl rfl rfl ?_
            refine z_aload 77 rfl rfl rfl ?_
            refine z_get 80 rfl rfl (by first | exact c1 | exact cm1 | exact hM.1 | exact (hF2.2 1 (by omega)).trans c1 | exact hM2.1 | fail "lk") rfl ?_
            refine z_beq 83 rfl rfl (fun h9 => absurd h9 (by rw [hc34]; decide)) (fun _ => ?_)
            refine z_aload 85 rfl rfl rfl ?_
            refine z_iload 86 rfl rfl rfl ?_
            refine z_cv1 89 rfl rfl (by first | exact c1 | exact cm1 | exact hM.1 | exact (hF2.2 1 (by omega)).trans c1 | exact hM2.1 | fail "lk") rfl (Nat.le_refl _) (Nat.le_refl _) ?_
            obtain ⟨h31, h32, h33⟩ := hx2 hc34
            obtain ⟨n1, n2⟩ := mw7 hc34
            subst h31
            refine c_Mc_acceptUnit (v := V) hM ⟨cru, hPC, hW, hG, hFW, hFd, hN, hs2, mw3⟩ n1 h33 (by omega) (by omega) n2 mw4 (by omega) (by omega) (fun ao st' ks' us hX h2 hM2 hF2 => ?_) (fun ao st' ks' us hX h2 hM2 hF2 => ?_)
            · skip
              refine z_goto rfl ?_
              refine z_cv2 101 rfl rfl (by first | exact c1 | exact cm1 | exact hM.1 | exact (hF2.2 1 (by omega)).trans c1 | exact hM2.1 | fail "lk") rfl (Nat.le_refl _) (Nat.le_refl _) ?_
              have hC2 := hC.mc (m := (P, wr, ru, st', 4, [], fed + 1, 2, q9 ++ us)) hD ⟨sr, st', _, fi, (by rw [h32] at hM2; exact hM2), fun _ => ⟨rfl, rfl, fun hK => wsX_k0 (by exact h33) hX hK⟩, fun h9 => absurd (hc34.symm.trans h9) (by decide)⟩ (fun x hx => hF2.2 x hx) hF2.1
              refine c_fedN hC2 hM2.1 (by decide) (by omega) (fun h3 hC3 hX3 => ?_)
              refine z_ireti rfl (Nat.le_refl _) (Nat.le_refl _) ?_
              have hX9 : wsM (A.wMcs (setM A.mcs D (mFd (P, wr, ru, sw, pn, ks, fed, 0, q9)))) (mFd (P, wr, ru, sw, pn, ks, fed, 0, q9)) (some V) = (true, ao, st', ks', us) := hX
              have e9 : sp_feed A (nI D) (nI V) = (-10, ((A.wPlc (fed + 1 - 1 - ks.length + ao)).wMcs (setM A.mcs D (P, wr, ru, st', 4, [], fed + 1, 2, q9 ++ us))).tell) := by
                subst hc34
                rw [sp_feed, if_pos (by omega), hd2, hmm]
                simp only
                rw [if_pos trivial, if_pos (by exact ⟨by omega, by show _ ≤ (65535 : Int); omega⟩), if_pos (by omega), if_pos trivial, hv2, spW_no hX9]
                show (_, (((A.wPlc _).wMcs (setM (setM A.mcs D _) D _))).tell) = _
                rw [setM2]
                rfl
              rw [e9] at q
              exact q h3 hC3.inv ((KpX.of hF2 (by omega) (by omega)).trans hX3)
            · skip
              refine z_goto rfl ?_
              refine z_cv2 101 rfl rfl (by first | exact c1 | exact cm1 | exact hM.1 | exact (hF2.2 1 (by omega)).trans c1 | exact hM2.1 | fail "lk") rfl (Nat.le_refl _) (Nat.le_refl _) ?_
              have hC2 := hC.mc (m := (P, wr, ru, st', pn, ks', fed + 1, 0, q9 ++ us)) hD ⟨sr, st', _, fi, hM2, fun _ => ⟨rfl, h32, fun hK => wsX_k0 (by exact h33) hX hK⟩, fun h9 => absurd (hc34.symm.trans h9) (by decide)⟩ (fun x hx => hF2.2 x hx) hF2.1
              have hu9 := hM2.2.2.2.1.2.1
              rw [List.length_append] at hu9
              refine c_fedP hC2 (by rw [nI_toInt (by omega)]; omega) ?_
              refine z_ireti rfl (Nat.le_refl _) (Nat.le_refl _) ?_
              have hX9 : wsM (A.wMcs (setM A.mcs D (mFd (P, wr, ru, sw, pn, ks, fed, 0, q9)))) (mFd (P, wr, ru, sw, pn, ks, fed, 0, q9)) (some V) = (false, ao, st', ks', us) := hX
              have e9 : sp_feed A (nI D) (nI V) = (nI (q9.length + us.length), A.wMcs (setM A.mcs D (P, wr, ru, st', pn, ks', fed + 1, 0, q9 ++ us))) := by
                subst hc34
                rw [sp_feed, if_pos (by omega), hd2, hmm]
                simp only
                rw [if_pos trivial, if_pos (by exact ⟨by omega, by show _ ≤ (65535 : Int); omega⟩), if_pos (by omega), if_pos trivial, hv2, spW_ok hX9]
                rw [wM2]
                rfl
              rw [e9] at q
              exact q h2 hC2.inv (KpX.of hF2 (by omega) (by omega))
          · refine z_aload 66 rfl rfl rfl ?_
            refine z_push 68 (-6) rfl rfl rfl ?_
            refine z_cv1 71 rfl rfl (by first | exact c1 | exact cm1 | exact hM.1 | exact (hF2.2 1 (by omega)).trans c1 | exact hM2.1 | fail "lk") rfl (Nat.le_refl _) (Nat.le_refl _) ?_
            refine c_ansN hC (by decide) (fun h1 hC1 hX1 => ?_)
            refine z_ireti rfl (Nat.le_refl _) (Nat.le_refl _) ?_
            have e9 : sp_feed A (nI D) (nI V) = (-6, A.tell) := by
              rw [sp_feed, if_pos (by omega), hd2, hmm]
              simp only
              rw [if_pos trivial, if_pos (by rw [hc34]; exact ⟨by omega, by show _ ≤ (65535 : Int); omega⟩), if_neg (by omega)]
            rw [e9] at q
            exact q h1 hC1.inv hX1
        · refine z_aload 49 rfl rfl rfl ?_
          refine z_push 50 (-1) rfl rfl rfl ?_
          refine z_cv1 53 rfl rfl (by first | exact c1 | exact cm1 | exact hM.1 | exact (hF2.2 1 (by omega)).trans c1 | exact hM2.1 | fail "lk") rfl (Nat.le_refl _) (Nat.le_refl _) ?_
          refine c_ansN hC (by decide) (fun h1 hC1 hX1 => ?_)
          refine z_ireti rfl (Nat.le_refl _) (Nat.le_refl _) ?_
          have e9 : sp_feed A (nI D) v = (-1, A.tell) := by
            rw [sp_feed, if_pos (by omega), hd2, hmm]
            simp only
            rw [if_pos trivial, if_neg (fun h9 => ?_)]
            have h8 := h9.2
            rw [hc34] at h8
            have h7 : v.toInt ≤ 65535 := h8
            omega
          rw [e9] at q
          exact q h1 hC1.inv hX1
  · refine z_aload 11 rfl rfl rfl ?_
    refine z_iload 12 rfl rfl rfl ?_
    refine z_cv1 15 rfl rfl (by first | exact c1 | exact cm1 | exact hM.1 | exact (hF2.2 1 (by omega)).trans c1 | exact hM2.1 | fail "lk") rfl (Nat.le_refl _) (Nat.le_refl _) ?_
    refine c_ansN hC (gfI_n hc7) (fun h1 hC1 hX1 => ?_)
    refine z_ireti rfl (Nat.le_refl _) (Nat.le_refl _) ?_
    have e9 : sp_feed A dd v = (gfI A.mcs dd, A.tell) := gf_sp (Y := fun m => _) hc7
    rw [e9] at q
    exact q h1 hC1.inv hX1
theorem edA_s {x : Int32 × Ab} {D : Nat} {m : Mc} (h : x.2.mcs D = some m) : edA x D = (x.1, x.2.wMcs (setM x.2.mcs D (mEd m))) := by unfold edA; rw [h]
theorem setM_at {ms : Nat → Option Mc} {D : Nat} {x : Mc} : setM ms D x D = some x := if_pos rfl
theorem wM3 {A : Ab} {D : Nat} {x : Mc} (pl : Nat) (h : mEd x = x) : (((A.wPlc pl).wMcs (setM A.mcs D x)).tell).wMcs (setM (((A.wPlc pl).wMcs (setM A.mcs D x)).tell).mcs D (mEd x)) = ((A.wPlc pl).wMcs (setM A.mcs D x)).tell := by
  rw [h]
  show ((A.wPlc pl).wMcs (setM (setM A.mcs D x) D x)).tell = _
  rw [setM2]
set_option maxRecDepth 100000 in
theorem c_end {d : Nat} {h : mH} {A : Ab} {pad : Nat → Nat} {sp : Option Nat} {res wrk : Nat} {dd : Int32} {Q : mP} (hC : CI h A pad sp res wrk) (hA : AbW A) (hN : ∀ x, fbN A.fbs 40 x ≤ 16) (hMM : AbM A)  (q : ∀ h', CInv h' (sp_end A dd).2 → KpX h h' → Q (some (.int (sp_end A dd).1)) h') : mWP (d + 11) 127 [.ref 1, .int dd] h Q := by
  obtain ⟨c1, cr, cp, cb, cu, cq, cs, ck, cru, cm⟩ := id hC
  obtain ⟨cp0, ⟨pf, cp1, cp2⟩, cp3, cp4, cp5⟩ := id cp
  obtain ⟨⟨mf, cm1, cm2⟩, cm3⟩ := id cm
  refine z_in [some (.ref 1), some (.int dd), none, none] (by rfl) rfl rfl rfl ?_
  refine z_aload 1 rfl rfl rfl ?_
  refine z_iload 2 rfl rfl rfl ?_
  refine z_cv1 5 rfl rfl (by first | exact c1 | exact cm1 | exact hM.1 | exact (hF2.2 1 (by omega)).trans c1 | exact hM2.1 | fail "lk") rfl (Nat.le_refl _) (Nat.le_refl _) ?_
  refine c_goingFinding hC (fun D m hm => (hMM D m hm).2.2.2.2.2.1.2) ?_
  refine z_istore 6 rfl rfl rfl rfl ?_
  refine z_iload 7 rfl rfl rfl ?_
  first | refine z_ieq 10 rfl rfl (fun hc7 => ?_) (fun hc7 => ?_)
  · obtain ⟨D, P, wr, ru, st, pn, ks, fed, q9, hD, rfl, hd1, hd2, hmm⟩ : ∃ (D P : Nat) (wr : Bool) (ru st pn : Nat) (ks : List Nat) (fed : Nat) (q9 : List Nat), D < 4 ∧ dd = nI D ∧ dd.toInt = D ∧ dd.toInt.toNat = D ∧ A.mcs D = some (P, wr, ru, st, pn, ks, fed, 0, q9) := gf_0 hc7
    obtain ⟨hPB, hKb, hGd, hbb, hub, hsg1, hsg2, hFW, hFd⟩ := id hA
    obtain ⟨mw1, mw2, mw3, mw4, mw5, ⟨mw6, _⟩, mw7, mw8⟩ : MW A (P, wr, ru, st, pn, ks, fed, 0, q9) := hMM D _ hmm
    simp only at mw1 mw2 mw3 mw4 mw5 mw6 mw7 mw8
    have cmD := cm3 D hD
    rw [hmm] at cmD
    obtain ⟨sr, sw, pl, fi, hM, hx2, hx3⟩ : ∃ sr sw pl fi, McAt h (48 + 12 * D) 16 (pad P) wr (nI 0) ru sr pn sw ks fed pl fi q9 ∧ (wr = true → sw = st ∧ pn = 4 ∧ (pgK A.pgs P ≠ 0 → st = 0)) ∧ (wr = false → sr = st ∧ ks.length ≤ 3) := cmD
    have hq429 := hM.2.2.2.1.2.1
    obtain ⟨hpad, hpad2, hPR⟩ := cp3 P mw1
    have hPC : PgC h (pad P) (pgK A.pgs P) (pgE A.pgs P) (pgH A.pgs P) := PgR.cl (by rw [← mw2]; exact hPR)
    have hW := hPB P mw1
    have hG := hGd P mw1 mw2
    have hs1 := nPt_lt hsg1
    have hs2 := nPt_lt hsg2
    refine z_aload 17 rfl rfl rfl ?_
    refine z_get 20 rfl rfl (by first | exact c1 | exact cm1 | exact hM.1 | exact (hF2.2 1 (by omega)).trans c1 | exact hM2.1 | fail "lk") rfl ?_
    refine z_iload 21 rfl rfl rfl ?_
    refine z_qld 22 rfl rfl (by first | exact c1 | exact cm1 | exact hM.1 | exact (hF2.2 1 (by omega)).trans c1 | exact hM2.1 | fail "lk") (by decide) rfl (by omega) (by omega) (cm2 D hD) ?_
    refine z_astore 23 rfl rfl rfl rfl ?_
    refine z_aload 24 rfl rfl rfl ?_
    refine z_get 27 rfl rfl (by first | exact c1 | exact cm1 | exact hM.1 | exact (hF2.2 1 (by omega)).trans c1 | exact hM2.1 | fail "lk") rfl ?_
    refine z_push 30 (nI 300) rfl rfl rfl ?_
    refine z_nle 33 rfl rfl (by omega) (by omega) (fun hc30 => ?_) (fun hc30 => ?_)
    · refine z_aload 41 rfl rfl rfl ?_
      refine z_aload 42 rfl rfl rfl ?_
      refine z_aload 43 rfl rfl rfl ?_
      refine z_get 46 rfl rfl (by first | exact c1 | exact cm1 | exact hM.1 | exact (hF2.2 1 (by omega)).trans c1 | exact hM2.1 | fail "lk") rfl ?_
      first | refine z_beq 49 rfl rfl (fun hc46 => ?_) (fun hc46 => ?_)
      · refine z_aload 57 rfl rfl rfl ?_
        refine z_cv0 60 rfl rfl (by first | exact c1 | exact cm1 | exact hM.1 | exact (hF2.2 1 (by omega)).trans c1 | exact hM2.1 | fail "lk") rfl (Nat.le_refl _) (Nat.le_refl _) ?_
        obtain ⟨h31, h32⟩ := hx3 hc46
        obtain ⟨n1, n2, n3, n4⟩ := mw8 hc46
        subst h31
        refine c_Mc_endBytes (K := pgK A.pgs P) (E := pgE A.pgs P) (H := pgH A.pgs P) hM cru.1 hPC hW n3 n2 mw6 n1 hs1 mw4 (by omega) (by omega) (by omega) (fun sr' pn' ks' us hX h2 hM2 hF2 => ?_) (fun sr' pn' ks' us hX h2 hM2 hF2 => ?_)
        · skip
          refine z_cv2 63 rfl rfl (by first | exact c1 | exact cm1 | exact hM.1 | exact (hF2.2 1 (by omega)).trans c1 | exact hM2.1 | fail "lk") rfl (Nat.le_refl _) (Nat.le_refl _) ?_
          have hC2 := hC.mc (m := (P, wr, ru, sr', 4, [], fed, 1, q9 ++ us)) hD ⟨sr', sw, _, fi, hM2, fun h9 => absurd (hc46.symm.trans h9) (by decide), fun _ => ⟨rfl, Nat.zero_le _⟩⟩ (fun x hx => hF2.2 x hx) hF2.1
          have hu9 := hM2.2.2.2.1.2.1
          rw [List.length_append] at hu9
          refine c_fedP hC2 (by rw [nI_toInt (by omega)]; omega) ?_
          refine z_ireti rfl (Nat.le_refl _) (Nat.le_refl _) ?_
          have hX9 : rdX A (P, wr, ru, sr, pn, ks, fed, 0, q9) true = (false, sr', pn', ks', us) := hX
          have e9 : sp_end A (nI D) = (nI (q9.length + us.length), A.wMcs (setM A.mcs D (P, wr, ru, sr', 4, [], fed, 1, q9 ++ us))) := by
            subst hc46
            rw [sp_end, if_pos (by omega), hd2, hmm]
            simp only
            rw [if_pos trivial, if_pos (by omega), if_neg (by decide), spR_ok hX9]
            rw [edA_s (m := (P, false, ru, sr', pn', ks', fed, 0, q9 ++ us)) (by exact setM_at), wM2]
            rfl
          rw [e9] at q
          exact q h2 hC2.inv (KpX.of hF2 (by omega) (by omega))
        · skip
          refine z_cv2 63 rfl rfl (by first | exact c1 | exact cm1 | exact hM.1 | exact (hF2.2 1 (by omega)).trans c1 | exact hM2.1 | fail "lk") rfl (Nat.le_refl _) (Nat.le_refl _) ?_
          have hC2 := hC.mc (m := (P, wr, ru, sr', 4, [], fed, 2, q9 ++ us)) hD ⟨sr', sw, _, fi, hM2, fun h9 => absurd (hc46.symm.trans h9) (by decide), fun _ => ⟨rfl, Nat.zero_le _⟩⟩ (fun x hx => hF2.2 x hx) hF2.1
          refine c_fedN hC2 hM2.1 (by decide) (by omega) (fun h3 hC3 hX3 => ?_)
          refine z_ireti rfl (Nat.le_refl _) (Nat.le_refl _) ?_
          have hX9 : rdX A (P, wr, ru, sr, pn, ks, fed, 0, q9) true = (true, sr', pn', ks', us) := hX
          have e9 : sp_end A (nI D) = (-9, ((A.wPlc (fed - ks'.length)).wMcs (setM A.mcs D (P, wr, ru, sr', 4, [], fed, 2, q9 ++ us))).tell) := by
            subst hc46
            rw [sp_end, if_pos (by omega), hd2, hmm]
            simp only
            rw [if_pos trivial, if_pos (by omega), if_neg (by decide), spR_no hX9]
            rw [edA_s (m := (P, false, ru, sr', 4, [], fed, 2, q9 ++ us)) (by exact setM_at)]
            exact Prod.ext rfl (wM3 _ rfl)
          rw [e9] at q
          exact q h3 hC3.inv ((KpX.of hF2 (by omega) (by omega)).trans hX3)
      · refine z_aload 50 rfl rfl rfl ?_
        refine z_cv0 53 rfl rfl (by first | exact c1 | exact cm1 | exact hM.1 | exact (hF2.2 1 (by omega)).trans c1 | exact hM2.1 | fail "lk") rfl (Nat.le_refl _) (Nat.le_refl _) ?_
        obtain ⟨h31, h32, h33⟩ := hx2 hc46
        obtain ⟨n1, n2⟩ := mw7 hc46
        subst h31
        refine c_Mc_endUnits hM ⟨cru, hPC, hW, hG, hFW, hFd, hN, hs2, mw3⟩ n1 h33 (by omega) (by omega) n2 mw4 (by omega) (fun ao st' ks' us hX h2 hM2 hF2 => ?_) (fun ao st' ks' us hX h2 hM2 hF2 => ?_)
        · skip
          refine z_goto rfl ?_
          refine z_cv2 63 rfl rfl (by first | exact c1 | exact cm1 | exact hM.1 | exact (hF2.2 1 (by omega)).trans c1 | exact hM2.1 | fail "lk") rfl (Nat.le_refl _) (Nat.le_refl _) ?_
          have hC2 := hC.mc (m := (P, wr, ru, st', 4, [], fed, 2, q9 ++ us)) hD ⟨sr, st', _, fi, (by rw [h32] at hM2; exact hM2), fun _ => ⟨rfl, rfl, fun hK => wsX_k0 (by exact h33) hX hK⟩, fun h9 => absurd (hc46.symm.trans h9) (by decide)⟩ (fun x hx => hF2.2 x hx) hF2.1
          refine c_fedN hC2 hM2.1 (by decide) (by omega) (fun h3 hC3 hX3 => ?_)
          refine z_ireti rfl (Nat.le_refl _) (Nat.le_refl _) ?_
          have hX9 : wsM A (P, wr, ru, sw, pn, ks, fed, 0, q9) none = (true, ao, st', ks', us) := hX
          have e9 : sp_end A (nI D) = (-10, ((A.wPlc (fed - 0 - ks.length + ao)).wMcs (setM A.mcs D (P, wr, ru, st', 4, [], fed, 2, q9 ++ us))).tell) := by
            subst hc46
            rw [sp_end, if_pos (by omega), hd2, hmm]
            simp only
            rw [if_pos trivial, if_pos (by omega), if_pos trivial, spW_no hX9]
            rw [edA_s (m := (P, true, ru, st', 4, [], fed, 2, q9 ++ us)) (by exact setM_at)]
            exact Prod.ext rfl (wM3 _ rfl)
          rw [e9] at q
          exact q h3 hC3.inv ((KpX.of hF2 (by omega) (by omega)).trans hX3)
        · skip
          refine z_goto rfl ?_
          refine z_cv2 63 rfl rfl (by first | exact c1 | exact cm1 | exact hM.1 | exact (hF2.2 1 (by omega)).trans c1 | exact hM2.1 | fail "lk") rfl (Nat.le_refl _) (Nat.le_refl _) ?_
          have hC2 := hC.mc (m := (P, wr, ru, st', 4, [], fed, 1, q9 ++ us)) hD ⟨sr, st', _, fi, (by rw [h32] at hM2; exact hM2), fun _ => ⟨rfl, rfl, fun hK => wsX_k0 (by exact h33) hX hK⟩, fun h9 => absurd (hc46.symm.trans h9) (by decide)⟩ (fun x hx => hF2.2 x hx) hF2.1
          have hu9 := hM2.2.2.2.1.2.1
          rw [List.length_append] at hu9
          refine c_fedP hC2 (by rw [nI_toInt (by omega)]; omega) ?_
          refine z_ireti rfl (Nat.le_refl _) (Nat.le_refl _) ?_
          have hX9 : wsM A (P, wr, ru, sw, pn, ks, fed, 0, q9) none = (false, ao, st', ks', us) := hX
          have e9 : sp_end A (nI D) = (nI (q9.length + us.length), A.wMcs (setM A.mcs D (P, wr, ru, st', 4, [], fed, 1, q9 ++ us))) := by
            subst hc46
            rw [sp_end, if_pos (by omega), hd2, hmm]
            simp only
            rw [if_pos trivial, if_pos (by omega), if_pos trivial, spW_ok hX9]
            rw [edA_s (m := (P, true, ru, st', pn, ks', fed, 0, q9 ++ us)) (by exact setM_at), wM2]
            rfl
          rw [e9] at q
          exact q h2 hC2.inv (KpX.of hF2 (by omega) (by omega))
    · refine z_aload 34 rfl rfl rfl ?_
      refine z_push 36 (-6) rfl rfl rfl ?_
      refine z_cv1 39 rfl rfl (by first | exact c1 | exact cm1 | exact hM.1 | exact (hF2.2 1 (by omega)).trans c1 | exact hM2.1 | fail "lk") rfl (Nat.le_refl _) (Nat.le_refl _) ?_
      refine c_ansN hC (by decide) (fun h1 hC1 hX1 => ?_)
      refine z_ireti rfl (Nat.le_refl _) (Nat.le_refl _) ?_
      have e9 : sp_end A (nI D) = (-6, A.tell) := by
        rw [sp_end, if_pos (by omega), hd2, hmm]
        simp only
        rw [if_pos trivial, if_neg (by omega)]
      rw [e9] at q
      exact q h1 hC1.inv hX1
  · refine z_aload 11 rfl rfl rfl ?_
    refine z_iload 12 rfl rfl rfl ?_
    refine z_cv1 15 rfl rfl (by first | exact c1 | exact cm1 | exact hM.1 | exact (hF2.2 1 (by omega)).trans c1 | exact hM2.1 | fail "lk") rfl (Nat.le_refl _) (Nat.le_refl _) ?_
    refine c_ansN hC (gfI_n hc7) (fun h1 hC1 hX1 => ?_)
    refine z_ireti rfl (Nat.le_refl _) (Nat.le_refl _) ?_
    have e9 : sp_end A dd = (gfI A.mcs dd, A.tell) := gf_sp (Y := fun m => _) hc7
    rw [e9] at q
    exact q h1 hC1.inv hX1
