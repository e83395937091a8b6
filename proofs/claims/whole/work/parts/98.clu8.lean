/-! the class: Page.settle -/
theorem msF_congr {s g s' g' : Nat → Nat} {kf kf' : Nat → Bool} {gl c : Nat} (h : ∀ i, i < c → s i = s' i ∧ g i = g' i ∧ kf i = kf' i) : ∀ (m i : Nat) (w : Nat → Nat), i + m ≤ c → msF s g kf gl m i w = msF s' g' kf' gl m i w
  | 0, _, _, _ => rfl
  | m + 1, i, w, hl => by
    obtain ⟨h1, h2, h3⟩ := h i (by omega)
    rw [msF, msF, show msS s g kf gl w i = msS s' g' kf' gl w i from by unfold msS; rw [h1, sBy_congr h2 h3]]
    exact msF_congr h m (i + 1) _ (by omega)
theorem msK_congr {s g s' g' : Nat → Nat} {kf kf' : Nat → Bool} {gl c : Nat} (h : ∀ i, i < c → s i = s' i ∧ g i = g' i ∧ kf i = kf' i) : ∀ (k : Nat) (w : Nat → Nat), msK s g kf gl c k w = msK s' g' kf' gl c k w
  | 0, _ => rfl
  | k + 1, w => by rw [msK, msK, msF_congr h c 0 w (by omega), msK_congr h k]
theorem lsF_congr {w s g v s' g' v' : Nat → Nat} {kf kf' : Nat → Bool} {gl st lf c : Nat} (h : ∀ i, i < c → s i = s' i ∧ v i = v' i ∧ g i = g' i ∧ kf i = kf' i) : ∀ (m i : Nat) (b : Option Nat), i + m ≤ c → (∀ j, b = some j → j < c) → lsF w s g v kf gl st lf m i b = lsF w s' g' v' kf' gl st lf m i b
  | 0, _, _, _, _ => rfl
  | m + 1, i, b, hl, hb => by
    obtain ⟨h1, h2, h3, h4⟩ := h i (by omega)
    have e : lsS w s g v kf gl st lf b i = lsS w s' g' v' kf' gl st lf b i := by
      unfold lsS
      rw [h1, sBy_congr h3 h4, show lsB v b i = lsB v' b i from by
        rcases b with _ | j
        · rfl
        · show decide (v i < v j) = decide (v' i < v' j)
          rw [h2, (h j (hb j rfl)).2.1]]
    rw [lsF, lsF, e]
    exact lsF_congr h m (i + 1) _ (by omega) (lsS_in hb (by omega))
theorem wkF_congr {w s g v s' g' v' : Nat → Nat} {kf kf' : Nat → Bool} {gl c : Nat} (h : ∀ i, i < c → s i = s' i ∧ v i = v' i ∧ g i = g' i ∧ kf i = kf' i) : ∀ (lf st : Nat) (tx : Int32) (ln : Nat), wkF w s g v kf gl c lf st tx ln = wkF w s' g' v' kf' gl c lf st tx ln
  | 0, _, _, _ => rfl
  | lf + 1, st, tx, ln => by
    rw [wkF, wkF, lsF_congr h c 0 none (by omega) (fun j hj => by cases hj)]
    rcases hb : lsF w s' g' v' kf' gl st (lf + 1) c 0 none with _ | b
    · rfl
    · have hbc := lsF_in (c := c) c 0 (by omega) (fun j hj => by cases hj) b hb
      obtain ⟨h1, h2, h3, h4⟩ := h b hbc
      simp only []
      rw [h2, h3, h4]
      exact wkF_congr h lf _ _ _
theorem plV_congr {s g v s' g' v' : Nat → Nat} {kf kf' : Nat → Bool} {c : Nat} (h : ∀ i, i < c → s i = s' i ∧ v i = v' i ∧ g i = g' i ∧ kf i = kf' i) (j : Nat) : plV s g v kf c j = plV s' g' v' kf' c j := by
  have e : ∀ gl, wG s g kf c gl = wG s' g' kf' c gl := fun gl => msK_congr (fun i hi => ⟨(h i hi).1, (h i hi).2.2.1, (h i hi).2.2.2⟩) 3 _
  rw [plV, plV, e, wkR, wkR, wkF_congr h]
theorem gd2_no {E : List En} : ∀ (m i : Nat) (ob : Option Nat), gd2 E m i ob = none → ob = none ∧ ∀ k, i ≤ k → k < i + m → cnt9 (pf2 E (enP E k)) E.length = 1
  | 0, i, ob, h => ⟨h, fun k h1 h2 => by omega⟩
  | m + 1, i, ob, h => by
    rw [gd2] at h
    obtain ⟨h1, h2⟩ := gd2_no m (i + 1) _ h
    have h3 : cnt9 (pf2 E (enP E i)) E.length = 1 ∧ ob = none := by
      unfold ls2 at h1
      split at h1
      · rename_i hc; exact ⟨hc, h1⟩
      · split at h1
        · cases h1
        · split at h1 <;> cases h1
    refine ⟨h3.2, fun k h4 h5 => ?_⟩
    by_cases e : k = i
    · subst e; exact h3.1
    · exact h2 k (by omega) (by omega)
theorem cnt9_one_le {p : Nat → Bool} {i : Nat} : ∀ {n : Nat}, i < n → p i = true → 1 ≤ cnt9 p n
  | 0, h, _ => absurd h (Nat.not_lt_zero _)
  | n + 1, h, hp => by
    simp only [cnt9]
    by_cases e : i = n
    · subst e; rw [hp, if_pos rfl]; omega
    · have := cnt9_one_le (n := n) (by omega) hp; omega
theorem cnt9_two {p : Nat → Bool} {i j : Nat} : ∀ {n : Nat}, i < j → j < n → p i = true → p j = true → 2 ≤ cnt9 p n
  | 0, _, h, _, _ => absurd h (Nat.not_lt_zero _)
  | n + 1, h1, h2, h3, h4 => by
    simp only [cnt9]
    by_cases e : j = n
    · subst e
      have : 1 ≤ cnt9 p j := cnt9_one_le h1 h3
      rw [h4, if_pos rfl]; omega
    · have := cnt9_two (n := n) h1 (by omega) h3 h4
      omega
theorem pref_u {E : List En} (h : gd2 E E.length 0 none = none) : ∀ i j, i < E.length → j < E.length → enF E i = true → enF E j = true → i ≠ j → enP E i ≠ enP E j := by
  intro i j hi hj hfi hfj hne he
  have h1 := (gd2_no _ 0 _ h).2 i (by omega) (by omega)
  have p1 : pf2 E (enP E i) i = true := pf2_iff.mpr ⟨rfl, hfi⟩
  have p2 : pf2 E (enP E i) j = true := pf2_iff.mpr ⟨he.symm, hfj⟩
  rcases (by omega : i < j ∨ j < i) with h9 | h9
  · have := cnt9_two h9 hj p1 p2; omega
  · have := cnt9_two h9 hi p2 p1; omega
/-- an open table -/
def PgO (h : mH) (p : Nat) (E : List En) (H : List Sh) : Prop := ∃ (m rc : Nat) (hd nx od T N A : Nat → Int32) (S : Nat → Nat), TbP h p false m rc E H hd nx ∧ h.2 (p + 19) = aI 100 od ∧ RoAt h (p + 1) T N A (fun j => nI (S j)) ∧ ∀ j, 4 ≤ j → S j = 0
def SetP (h : mH) (p m rc : Nat) (E : List En) (H : List Sh) (hd nx od T N A : Nat → Int32) (S : Nat → Nat) : Prop := TbP h p true m rc E H hd nx ∧ h.2 (p + 19) = aI 100 od ∧ RoAt h (p + 1) T N A (fun j => nI (S j))
set_option maxRecDepth 100000 in
theorem c_settle {d : Nat} {h0 : mH} {p : Nat} {E : List En} {H : List Sh} {Q : mP} (hPO : PgO h0 p E H) (hW : TbW E H) (hgd : gdA E H = none)  (q : ∀ h', PgC0 h' p E H → Fr p (p + 20) h0 h' → Q none h') : mWP (d + 5) 45 [.ref p] h0 Q := by
  obtain ⟨m, rc, hd, nx, od1, T, N, A, S, hP, ho, hRo, hS0⟩ := hPO
  have hE1 := hW.1
  have hH1 := hW.2.1
  have hgd2 : gd2 E E.length 0 none = none := by
    unfold gdA at hgd
    rcases h1 : gd1 E H (E.length + H.length) 0 with _ | x1
    · rw [h1] at hgd
      rcases h2 : gd2 E E.length 0 none with _ | x2
      · rfl
      · rw [h2] at hgd; cases hgd
    · rw [h1] at hgd; cases hgd
  have hUq := pref_u hgd2
  have hN := (gd_of hW hgd).1
  obtain ⟨hE0, s9, t9, n9, p9, f9, hE, hEF⟩ := id hP.2.1
  obtain ⟨hH0, sS, vS, gS9, kS, hS, hSF⟩ := id hP.2.2.1
  have hs4 : ∀ j, j < H.length → sS j < 4 := fun j hj => by rw [(hSF j hj).1]; exact (hW.2.2.2 j hj).1
  have hg4 : ∀ j, j < H.length → gS9 j < 4 := fun j hj => by rw [(hSF j hj).2.2.1]; exact (hW.2.2.2 j hj).2.2.1
  have hv4 : ∀ j, j < H.length → vS j < 256 := fun j hj => by rw [(hSF j hj).2.1]; exact (hW.2.2.2 j hj).2.1
  have hG : ∀ k, k < H.length → shS H k < 4 ∧ shG H k < 4 := fun k hk => ⟨(hW.2.2.2 k hk).1, (hW.2.2.2 k hk).2.2.1⟩
  have hV : ∀ k, k < H.length → shV H k < 256 := fun k hk => (hW.2.2.2 k hk).2.1
  have hrq := rch_eq hG hSF
  refine z_in [some (.ref p), none, none] (by rfl) rfl rfl rfl ?_
  refine z_aload 1 rfl rfl rfl ?_
  refine z_push 2 (nI 1) rfl rfl rfl ?_
  refine z_put 5 rfl rfl (by first | exact hP.1 | exact hr1 | exact hr2 | exact hRo2.1 | exact hS2.1 | exact hp3 | exact hS1.1 | fail "lk") rfl (mFb rfl (by decide)) ?_
  obtain ⟨h1, hhh1⟩ : ∃ h9 : mH, h9 = mSet h0 p (oPg 0 true p m rc) := ⟨_, rfl⟩
  refine z_gen h1 hhh1.symm ?_
  have hr1 : h1.2 p = oPg 0 true p m rc := by rw [hhh1]; exact mg_eq _ _ _
  have kh1 : ∀ x, x ≠ p → h1.2 x = h0.2 x := fun x hx => by rw [hhh1]; exact mg_ne hx rfl
  have zh1 : h1.1 = h0.1 := by rw [hhh1]; rfl
  have hS1 : ShAt h1 (p + 12) 10 (fun j => nI (sS j)) (fun j => nI (vS j)) (fun j => nI (gS9 j)) (fun j => bI (kS j)) H.length := ⟨(kh1 _ (by omega)).trans hS.1, (kh1 _ (by omega)).trans hS.2.1, (kh1 _ (by omega)).trans hS.2.2.1, (kh1 _ (by omega)).trans hS.2.2.2.1, (kh1 _ (by omega)).trans hS.2.2.2.2⟩
  refine z_aload 6 rfl rfl rfl ?_
  refine z_aload 7 rfl rfl rfl ?_
  refine z_get 10 rfl rfl (by first | exact hP.1 | exact hr1 | exact hr2 | exact hRo2.1 | exact hS2.1 | exact hp3 | exact hS1.1 | fail "lk") rfl ?_
  refine z_cv0 13 rfl rfl (by first | exact hP.1 | exact hr1 | exact hr2 | exact hRo2.1 | exact hS2.1 | exact hp3 | exact hS1.1 | fail "lk") rfl (Nat.le_refl _) (Nat.le_refl _) ?_
  refine c_Sh_reachedStates hS1 (by decide) (by omega) hs4 hg4 ?_
  rw [hrq]
  refine z_put 16 rfl rfl (by first | exact hP.1 | exact hr1 | exact hr2 | exact hRo2.1 | exact hS2.1 | exact hp3 | exact hS1.1 | fail "lk") rfl (mFi rfl) ?_
  obtain ⟨h2, hhh2⟩ : ∃ h9 : mH, h9 = mSet h1 p (oPg 0 true p m (rchd H)) := ⟨_, rfl⟩
  refine z_gen h2 hhh2.symm ?_
  have hr2 : h2.2 p = oPg 0 true p m (rchd H) := by rw [hhh2]; exact mg_eq _ _ _
  have kh2 : ∀ x, x ≠ p → h2.2 x = h1.2 x := fun x hx => by rw [hhh2]; exact mg_ne hx rfl
  have zh2 : h2.1 = h1.1 := by rw [hhh2]; rfl
  have hS2 : ShAt h2 (p + 12) 10 (fun j => nI (sS j)) (fun j => nI (vS j)) (fun j => nI (gS9 j)) (fun j => bI (kS j)) H.length := ⟨(kh2 _ (by omega)).trans hS1.1, (kh2 _ (by omega)).trans hS1.2.1, (kh2 _ (by omega)).trans hS1.2.2.1, (kh2 _ (by omega)).trans hS1.2.2.2.1, (kh2 _ (by omega)).trans hS1.2.2.2.2⟩
  have hRo2 : RoAt h2 (p + 1) T N A (fun j => nI (S j)) := hRo.e (fun x x1 x2 => (kh2 x (by omega)).trans (kh1 x (by omega)))
  refine z_aload 17 rfl rfl rfl ?_
  refine z_get 20 rfl rfl (by first | exact hP.1 | exact hr1 | exact hr2 | exact hRo2.1 | exact hS2.1 | exact hp3 | exact hS1.1 | fail "lk") rfl ?_
  refine z_aload 21 rfl rfl rfl ?_
  refine z_get 24 rfl rfl (by first | exact hP.1 | exact hr1 | exact hr2 | exact hRo2.1 | exact hS2.1 | exact hp3 | exact hS1.1 | fail "lk") rfl ?_
  refine z_cv1 27 rfl rfl (by first | exact hP.1 | exact hr1 | exact hr2 | exact hRo2.1 | exact hS2.1 | exact hp3 | exact hS1.1 | fail "lk") rfl (Nat.le_refl _) (Nat.le_refl _) ?_
  refine c_Ro_plan hRo2 hS0 hS2 (by omega) (by decide) (by omega) hs4 hg4 hv4 (fun h3 w1 hw1 hR3 hF3 => ?_)
  obtain ⟨T1, hT1⟩ : ∃ T1, T1 = plT (fun j => (plV sS gS9 vS kS H.length j).1) T 20 := ⟨_, rfl⟩
  obtain ⟨N1, hN1⟩ : ∃ N1, N1 = plT (fun j => nI (plV sS gS9 vS kS H.length j).2.1) N 20 := ⟨_, rfl⟩
  obtain ⟨A1, hA1⟩ : ∃ A1, A1 = plT (fun j => nI (plV sS gS9 vS kS H.length j).2.2) A 20 := ⟨_, rfl⟩
  rw [← hT1, ← hN1, ← hA1] at hR3
  have hrt : RtOk H T1 N1 A1 := plan_ok hG hV hN.2.2 (fun j hj => by
    rw [hT1, hN1, hA1, ← plV_congr (fun i hi => hSF i hi) j]
    exact ⟨if_pos hj, if_pos hj, if_pos hj⟩)
  obtain ⟨rc1, hrc1⟩ : ∃ rc1, rc1 = rchd H := ⟨_, rfl⟩
  have hp3 : h3.2 p = oPg 0 true p m rc1 := by rw [hrc1]; exact (hF3.2 p (by omega)).trans hr2
  have hE3 := hP.2.1.e (h' := h3) (fun x x1 x2 => (hF3.2 x (by omega)).trans ((kh2 x (by omega)).trans (kh1 x (by omega))))
  have hS3 := hP.2.2.1.e (h' := h3) (fun x x1 x2 => (hF3.2 x (by omega)).trans ((kh2 x (by omega)).trans (kh1 x (by omega))))
  have h173 : h3.2 (p + 17) = aI 1024 hd := (hF3.2 _ (by omega)).trans ((kh2 _ (by omega)).trans ((kh1 _ (by omega)).trans hP.2.2.2.1))
  have h183 : h3.2 (p + 18) = aI 110 nx := (hF3.2 _ (by omega)).trans ((kh2 _ (by omega)).trans ((kh1 _ (by omega)).trans hP.2.2.2.2))
  have h193 : h3.2 (p + 19) = aI 100 od1 := (hF3.2 _ (by omega)).trans ((kh2 _ (by omega)).trans ((kh1 _ (by omega)).trans ho))
  have hfr3 : Fr p (p + 20) h0 h3 := ⟨hF3.1.trans (zh2.trans zh1), fun x hx => (hF3.2 x (by omega)).trans ((kh2 x (by omega)).trans (kh1 x (by omega)))⟩
  clear hE hEF hS hSF hE0 hH0
  refine z_aload 28 rfl rfl rfl ?_
  refine z_get 31 rfl rfl (by first | exact hP.1 | exact hr1 | exact hr2 | exact hRo2.1 | exact hS2.1 | exact hp3 | exact hS1.1 | fail "lk") rfl ?_
  refine z_push 32 (nI 0) rfl rfl rfl ?_
  refine z_cs2 35 rfl rfl rfl (Nat.le_refl _) (Nat.le_refl _) ?_
  refine c_fill h173 (by decide) ?_
  obtain ⟨h4, hhh4⟩ : ∃ h9 : mH, h9 = mSet h3 (p + 17) (aI 1024 (fil9 hd (nI 0) 1024)) := ⟨_, rfl⟩
  refine z_gen h4 hhh4.symm ?_
  have hr4 : h4.2 (p + 17) = aI 1024 (fil9 hd (nI 0) 1024) := by rw [hhh4]; exact mg_eq _ _ _
  have kh4 : ∀ x, x ≠ (p + 17) → h4.2 x = h3.2 x := fun x hx => by rw [hhh4]; exact mg_ne hx rfl
  have zh4 : h4.1 = h3.1 := by rw [hhh4]; rfl
  have hP4 : SetP h4 p m rc1 E H (fil9 hd (nI 0) 1024) nx od1 T1 N1 A1 w1 := ⟨⟨(kh4 p (by omega)).trans hp3, hE3.e (fun x x1 x2 => kh4 x (by omega)), hS3.e (fun x x1 x2 => kh4 x (by omega)), hr4, (kh4 _ (by omega)).trans h183⟩, (kh4 _ (by omega)).trans h193, hR3.e (fun x x1 x2 => kh4 x (by omega))⟩
  have hfr4 : Fr p (p + 20) h0 h4 := ⟨zh4.trans hfr3.1, fun x hx => (kh4 x (by omega)).trans (hfr3.2 x hx)⟩
  have shs : ∀ m9 b hd3 nx3 h m3, H.length < b + m9 → b ≤ H.length → PrC E H E.length b hd3 nx3 → SetP h p m3 rc1 E H hd3 nx3 od1 T1 N1 A1 w1 → Fr p (p + 20) h0 h → ∀ o2, mZ (d + 4) tk_45 0 0 Q 96 [some (.ref p), some (.int (nI b)), o2] [] h 0 0 := by
    intro m9
    induction m9 with
    | zero => intro b hd3 nx3 h m3 h1 h2; omega
    | succ m9 ih =>
      intro b hd3 nx3 h m3 h1 h2 hC hP hF o2
      obtain ⟨hE0, s9, t9, n9, p9, f9, hE, hEF⟩ := id hP.1.2.1
      obtain ⟨hH0, sS, vS, gS9, kS, hS, hSF⟩ := id hP.1.2.2.1
      refine z_iload 97 rfl rfl rfl ?_
      refine z_aload 98 rfl rfl rfl ?_
      refine z_get 101 rfl rfl (by first | exact hP.1.1 | exact hE.1 | exact hE.2.1 | exact hE.2.2.1 | exact hE.2.2.2.1 | exact hE.2.2.2.2.1 | exact hE.2.2.2.2.2 | exact hS.1 | exact hS.2.1 | exact hS.2.2.1 | exact hS.2.2.2.1 | exact hS.2.2.2.2 | fail "lk") rfl ?_
      refine z_get 104 rfl rfl (by first | exact hP.1.1 | exact hE.1 | exact hE.2.1 | exact hE.2.2.1 | exact hE.2.2.2.1 | exact hE.2.2.2.2.1 | exact hE.2.2.2.2.2 | exact hS.1 | exact hS.2.1 | exact hS.2.2.1 | exact hS.2.2.2.1 | exact hS.2.2.2.2 | fail "lk") rfl ?_
      refine z_nge 107 rfl rfl (by omega) (by omega) (fun hc104 => ?_) (fun hc104 => ?_)
      · refine z_aload 140 rfl rfl rfl ?_
        refine z_push 141 (nI 0) rfl rfl rfl ?_
        refine z_put 144 rfl rfl (by first | exact hP.1.1 | exact hE.1 | exact hE.2.1 | exact hE.2.2.1 | exact hE.2.2.2.1 | exact hE.2.2.2.2.1 | exact hE.2.2.2.2.2 | exact hS.1 | exact hS.2.1 | exact hS.2.2.1 | exact hS.2.2.2.1 | exact hS.2.2.2.2 | fail "lk") rfl (mFi rfl) ?_
        obtain ⟨h7, hhh7⟩ : ∃ h9 : mH, h9 = mSet h p (oPg 0 true p 0 rc1) := ⟨_, rfl⟩
        refine z_gen h7 hhh7.symm ?_
        have hr7 : h7.2 p = oPg 0 true p 0 rc1 := by rw [hhh7]; exact mg_eq _ _ _
        have kh7 : ∀ x, x ≠ p → h7.2 x = h.2 x := fun x hx => by rw [hhh7]; exact mg_ne hx rfl
        have zh7 : h7.1 = h.1 := by rw [hhh7]; rfl
        refine z_push 145 (nI 0) rfl rfl rfl ?_
        refine z_istore 146 rfl rfl rfl rfl ?_
        obtain rfl : b = H.length := by omega
        have hch : ChOk E H hd3 nx3 := fun st v s1 s2 => by
          obtain ⟨l, a1, a2, a3⟩ := hC st v s1 s2
          exact ⟨l, a1, by omega, a3⟩
        have sorts : ∀ m9 a m3 od3 h, E.length < a + m9 → a ≤ E.length → OrP E od3 m3 a → SetP h p m3 rc1 E H hd3 nx3 od3 T1 N1 A1 w1 → Fr p (p + 20) h0 h → ∀ o2, mZ (d + 4) tk_45 0 0 Q 146 [some (.ref p), some (.int (nI a)), o2] [] h 0 0 := by
          intro m9
          induction m9 with
          | zero => intro a m3 od3 h h1 h2; omega
          | succ m9 ih =>
            intro a m3 od3 h h1 h2 hO hP hF o2
            obtain ⟨hE0, s9, t9, n9, p9, f9, hE, hEF⟩ := id hP.1.2.1
            obtain ⟨hH0, sS, vS, gS9, kS, hS, hSF⟩ := id hP.1.2.2.1
            refine z_iload 147 rfl rfl rfl ?_
            refine z_aload 148 rfl rfl rfl ?_
            refine z_get 151 rfl rfl (by first | exact hP.1.1 | exact hE.1 | exact hE.2.1 | exact hE.2.2.1 | exact hE.2.2.2.1 | exact hE.2.2.2.2.1 | exact hE.2.2.2.2.2 | exact hS.1 | exact hS.2.1 | exact hS.2.2.1 | exact hS.2.2.2.1 | exact hS.2.2.2.2 | fail "lk") rfl ?_
            refine z_get 154 rfl rfl (by first | exact hP.1.1 | exact hE.1 | exact hE.2.1 | exact hE.2.2.1 | exact hE.2.2.2.1 | exact hE.2.2.2.2.1 | exact hE.2.2.2.2.2 | exact hS.1 | exact hS.2.1 | exact hS.2.2.1 | exact hS.2.2.2.1 | exact hS.2.2.2.2 | fail "lk") rfl ?_
            refine z_nge 157 rfl rfl (by omega) (by omega) (fun hc154 => ?_) (fun hc154 => ?_)
            · refine z_vret rfl (Nat.le_refl _) (Nat.le_refl _) ?_
              obtain rfl : a = E.length := by omega
              exact q h ⟨m3, rc1, hd3, nx3, od3, T1, N1, A1, w1, hP.1, hP.2.1, hP.2.2, hch, hO, hrc1, hrt, hN⟩ hF
            · have he5 := (hEF a (by omega)).2.2.2.2
              refine z_aload 158 rfl rfl rfl ?_
              refine z_get 161 rfl rfl (by first | exact hP.1.1 | exact hE.1 | exact hE.2.1 | exact hE.2.2.1 | exact hE.2.2.2.1 | exact hE.2.2.2.2.1 | exact hE.2.2.2.2.2 | exact hS.1 | exact hS.2.1 | exact hS.2.2.1 | exact hS.2.2.2.1 | exact hS.2.2.2.2 | fail "lk") rfl ?_
              refine z_get 164 rfl rfl (by first | exact hP.1.1 | exact hE.1 | exact hE.2.1 | exact hE.2.2.1 | exact hE.2.2.2.1 | exact hE.2.2.2.2.1 | exact hE.2.2.2.2.2 | exact hS.1 | exact hS.2.1 | exact hS.2.2.1 | exact hS.2.2.2.1 | exact hS.2.2.2.2 | fail "lk") rfl ?_
              refine z_iload 165 rfl rfl rfl ?_
              refine z_bld 166 rfl rfl (by first | exact hP.1.1 | exact hE.1 | exact hE.2.1 | exact hE.2.2.1 | exact hE.2.2.2.1 | exact hE.2.2.2.2.1 | exact hE.2.2.2.2.2 | exact hS.1 | exact hS.2.1 | exact hS.2.2.1 | exact hS.2.2.2.1 | exact hS.2.2.2.2 | fail "lk") rfl (by omega) (by omega) ?_
              first | refine z_beq 169 rfl rfl (fun hc166 => ?_) (fun hc166 => ?_)
              · refine z_iinc 177 _ rfl rfl rfl rfl (by first | with_reducible exact zi_1 _ | rfl) ?_
                refine z_goto rfl ?_
                exact ih (a + 1) m3 od3 h (by omega) (by omega) (hO.no (by rw [← he5]; exact hc166)) hP hF o2
              · refine z_aload 170 rfl rfl rfl ?_
                refine z_iload 171 rfl rfl rfl ?_
                refine z_cv1 174 rfl rfl (by first | exact hP.1.1 | exact hE.1 | exact hE.2.1 | exact hE.2.2.1 | exact hE.2.2.2.1 | exact hE.2.2.2.2.1 | exact hE.2.2.2.2.2 | exact hS.1 | exact hS.2.1 | exact hS.2.2.1 | exact hS.2.2.2.1 | exact hS.2.2.2.2 | fail "lk") rfl (Nat.le_refl _) (Nat.le_refl _) ?_
                refine c_sortIn hP.1.1 hP.1.2.1 hP.2.1 hO hW (by omega) (by rw [← he5]; exact hc166) hUq (fun h2 od4 g1 g2 g3 g4 => ?_)
                · refine z_iinc 177 _ rfl rfl rfl rfl (by first | with_reducible exact zi_1 _ | rfl) ?_
                  refine z_goto rfl ?_
                  exact ih (a + 1) _ od4 h2 (by omega) (by omega) g3 ⟨⟨g1, hP.1.2.1.e (g4.eqv (fun x x1 x2 => ⟨by omega, by omega, trivial⟩)), hP.1.2.2.1.e (g4.eqv (fun x x1 x2 => ⟨by omega, by omega, trivial⟩)), (g4.2 _ ⟨by omega, by omega, trivial⟩).trans hP.1.2.2.2.1, (g4.2 _ ⟨by omega, by omega, trivial⟩).trans hP.1.2.2.2.2⟩, g2, hP.2.2.e (g4.eqv (fun x x1 x2 => ⟨by omega, by omega, trivial⟩))⟩ ⟨g4.1.trans hF.1, fun x hx => (g4.2 x ⟨by omega, by omega, trivial⟩).trans (hF.2 x hx)⟩ o2
        exact sorts (E.length + 1) 0 0 od1 h7 (by omega) (by omega) ⟨Nat.le_refl _, fun j => j, fun j hj => absurd hj (Nat.not_lt_zero j), fun i j _ hj => absurd hj (Nat.not_lt_zero j), fun k hk => absurd hk (Nat.not_lt_zero k)⟩ ⟨⟨hr7, hP.1.2.1.e (fun x x1 x2 => kh7 x (by omega)), hP.1.2.2.1.e (fun x x1 x2 => kh7 x (by omega)), (kh7 _ (by omega)).trans hP.1.2.2.2.1, (kh7 _ (by omega)).trans hP.1.2.2.2.2⟩, (kh7 _ (by omega)).trans hP.2.1, hP.2.2.e (fun x x1 x2 => kh7 x (by omega))⟩ ⟨zh7.trans hF.1, fun x hx => (kh7 x (by omega)).trans (hF.2 x hx)⟩ _
      · obtain ⟨u1, u2, u3, u4⟩ := hSF b (by omega)
        obtain ⟨v1, v2, v3, v4⟩ := hW.2.2.2 b (by omega)
        refine z_aload 108 rfl rfl rfl ?_
        refine z_aload 109 rfl rfl rfl ?_
        refine z_get 112 rfl rfl (by first | exact hP.1.1 | exact hE.1 | exact hE.2.1 | exact hE.2.2.1 | exact hE.2.2.2.1 | exact hE.2.2.2.2.1 | exact hE.2.2.2.2.2 | exact hS.1 | exact hS.2.1 | exact hS.2.2.1 | exact hS.2.2.2.1 | exact hS.2.2.2.2 | fail "lk") rfl ?_
        refine z_get 115 rfl rfl (by first | exact hP.1.1 | exact hE.1 | exact hE.2.1 | exact hE.2.2.1 | exact hE.2.2.2.1 | exact hE.2.2.2.2.1 | exact hE.2.2.2.2.2 | exact hS.1 | exact hS.2.1 | exact hS.2.2.1 | exact hS.2.2.2.1 | exact hS.2.2.2.2 | fail "lk") rfl ?_
        refine z_iload 116 rfl rfl rfl ?_
        refine z_ald 117 rfl rfl (by first | exact hP.1.1 | exact hE.1 | exact hE.2.1 | exact hE.2.2.1 | exact hE.2.2.2.1 | exact hE.2.2.2.2.1 | exact hE.2.2.2.2.2 | exact hS.1 | exact hS.2.1 | exact hS.2.2.1 | exact hS.2.2.2.1 | exact hS.2.2.2.2 | fail "lk") rfl (by omega) (by omega) ?_
        simp only [u1]
        refine z_aload 118 rfl rfl rfl ?_
        refine z_get 121 rfl rfl (by first | exact hP.1.1 | exact hE.1 | exact hE.2.1 | exact hE.2.2.1 | exact hE.2.2.2.1 | exact hE.2.2.2.2.1 | exact hE.2.2.2.2.2 | exact hS.1 | exact hS.2.1 | exact hS.2.2.1 | exact hS.2.2.2.1 | exact hS.2.2.2.2 | fail "lk") rfl ?_
        refine z_get 124 rfl rfl (by first | exact hP.1.1 | exact hE.1 | exact hE.2.1 | exact hE.2.2.1 | exact hE.2.2.2.1 | exact hE.2.2.2.2.1 | exact hE.2.2.2.2.2 | exact hS.1 | exact hS.2.1 | exact hS.2.2.1 | exact hS.2.2.2.1 | exact hS.2.2.2.2 | fail "lk") rfl ?_
        refine z_iload 125 rfl rfl rfl ?_
        refine z_ald 126 rfl rfl (by first | exact hP.1.1 | exact hE.1 | exact hE.2.1 | exact hE.2.2.1 | exact hE.2.2.2.1 | exact hE.2.2.2.2.1 | exact hE.2.2.2.2.2 | exact hS.1 | exact hS.2.1 | exact hS.2.2.1 | exact hS.2.2.2.1 | exact hS.2.2.2.2 | fail "lk") rfl (by omega) (by omega) ?_
        simp only [u2]
        refine z_push 128 (nI 100) rfl rfl rfl ?_
        refine z_iload 129 rfl rfl rfl ?_
        refine z_bop 130 _ rfl rfl (by first | with_reducible exact zb_0 _ _ | exact zd_0 _ _) ?_
        refine z_cv3 133 rfl rfl (by first | exact hP.1.1 | exact hE.1 | exact hE.2.1 | exact hE.2.2.1 | exact hE.2.2.2.1 | exact hE.2.2.2.2.1 | exact hE.2.2.2.2.2 | exact hS.1 | exact hS.2.1 | exact hS.2.2.1 | exact hS.2.2.2.1 | exact hS.2.2.2.2 | fail "lk") rfl (Nat.le_refl _) (Nat.le_refl _) ?_
        refine c_chain hP.1.1 hP.1.2.2.2.1 hP.1.2.2.2.2 (by omega) (by omega) (by omega) (fun h2 g1 g2 g3 => ?_)
        refine z_iinc 136 _ rfl rfl rfl rfl (by first | with_reducible exact zi_1 _ | rfl) ?_
        refine z_goto rfl ?_
        refine ih (b + 1) _ _ h2 m3 (by omega) (by omega) (hC.add (x := 100 + b) (by omega) (by omega) (by omega) (by omega) (fun st v i => ?_) (fun st v h9 => ?_)) ⟨⟨(g3.2 p (by omega)).trans hP.1.1, hP.1.2.1.e (g3.eqv (by omega)), hP.1.2.2.1.e (g3.eqv (by omega)), g1, g2⟩, (g3.2 _ (by omega)).trans hP.2.1, hP.2.2.e (g3.eqv (by omega))⟩ ⟨g3.1.trans hF.1, fun x hx => (g3.2 x (by omega)).trans (hF.2 x hx)⟩ o2
        · unfold itP
          constructor
          · rintro (h9 | ⟨h9, h8, h7, h6⟩)
            · exact Or.inl (Or.inl h9)
            · by_cases e : i = 100 + b
              · subst e
                rw [Nat.add_sub_cancel_left] at h7 h6
                exact Or.inr ⟨rfl, h7.symm, h6.symm⟩
              · exact Or.inl (Or.inr ⟨h9, by omega, h7, h6⟩)
          · rintro ((h9 | ⟨h9, h8, h7⟩) | ⟨rfl, rfl, rfl⟩)
            · exact Or.inl h9
            · exact Or.inr ⟨h9, by omega, h7⟩
            · exact Or.inr ⟨by omega, by omega, by rw [Nat.add_sub_cancel_left], by rw [Nat.add_sub_cancel_left]⟩
        · rcases h9 with h9 | h9 <;> omega
  have ens : ∀ m9 a hd3 nx3 h m3, E.length < a + m9 → a ≤ E.length → PrC E H a 0 hd3 nx3 → SetP h p m3 rc1 E H hd3 nx3 od1 T1 N1 A1 w1 → Fr p (p + 20) h0 h → ∀ o2, mZ (d + 4) tk_45 0 0 Q 37 [some (.ref p), some (.int (nI a)), o2] [] h 0 0 := by
    intro m9
    induction m9 with
    | zero => intro a hd3 nx3 h m3 h1 h2; omega
    | succ m9 ih =>
      intro a hd3 nx3 h m3 h1 h2 hC hP hF o2
      obtain ⟨hE0, s9, t9, n9, p9, f9, hE, hEF⟩ := id hP.1.2.1
      obtain ⟨hH0, sS, vS, gS9, kS, hS, hSF⟩ := id hP.1.2.2.1
      refine z_iload 38 rfl rfl rfl ?_
      refine z_aload 39 rfl rfl rfl ?_
      refine z_get 42 rfl rfl (by first | exact hP.1.1 | exact hE.1 | exact hE.2.1 | exact hE.2.2.1 | exact hE.2.2.2.1 | exact hE.2.2.2.2.1 | exact hE.2.2.2.2.2 | exact hS.1 | exact hS.2.1 | exact hS.2.2.1 | exact hS.2.2.2.1 | exact hS.2.2.2.2 | fail "lk") rfl ?_
      refine z_get 45 rfl rfl (by first | exact hP.1.1 | exact hE.1 | exact hE.2.1 | exact hE.2.2.1 | exact hE.2.2.2.1 | exact hE.2.2.2.2.1 | exact hE.2.2.2.2.2 | exact hS.1 | exact hS.2.1 | exact hS.2.2.1 | exact hS.2.2.2.1 | exact hS.2.2.2.2 | fail "lk") rfl ?_
      refine z_nge 48 rfl rfl (by omega) (by omega) (fun hc45 => ?_) (fun hc45 => ?_)
      · refine z_push 95 (nI 0) rfl rfl rfl ?_
        refine z_istore 96 rfl rfl rfl rfl ?_
        obtain rfl : a = E.length := by omega
        exact shs (H.length + 1) 0 hd3 nx3 h m3 (by omega) (by omega) hC hP hF _
      · obtain ⟨u1, u2, u3, u4, u5⟩ := hEF a (by omega)
        obtain ⟨v1, v2, v3, v4, v5⟩ := hW.2.2.1 a (by omega)
        have v7 := hW.tx (show a < E.length by omega)
        have v8 := bt_lt (enN E a) (enT E a) 0
        have v9 := bt0 v4 v2
        refine z_aload 49 rfl rfl rfl ?_
        refine z_get 52 rfl rfl (by first | exact hP.1.1 | exact hE.1 | exact hE.2.1 | exact hE.2.2.1 | exact hE.2.2.2.1 | exact hE.2.2.2.2.1 | exact hE.2.2.2.2.2 | exact hS.1 | exact hS.2.1 | exact hS.2.2.1 | exact hS.2.2.2.1 | exact hS.2.2.2.2 | fail "lk") rfl ?_
        refine z_get 55 rfl rfl (by first | exact hP.1.1 | exact hE.1 | exact hE.2.1 | exact hE.2.2.1 | exact hE.2.2.2.1 | exact hE.2.2.2.2.1 | exact hE.2.2.2.2.2 | exact hS.1 | exact hS.2.1 | exact hS.2.2.1 | exact hS.2.2.2.1 | exact hS.2.2.2.2 | fail "lk") rfl ?_
        refine z_iload 56 rfl rfl rfl ?_
        refine z_ald 57 rfl rfl (by first | exact hP.1.1 | exact hE.1 | exact hE.2.1 | exact hE.2.2.1 | exact hE.2.2.2.1 | exact hE.2.2.2.2.1 | exact hE.2.2.2.2.2 | exact hS.1 | exact hS.2.1 | exact hS.2.2.1 | exact hS.2.2.2.1 | exact hS.2.2.2.2 | fail "lk") rfl (by omega) (by omega) ?_
        simp only [u2]
        refine z_push 59 (nI 8) rfl rfl rfl ?_
        refine z_aload 60 rfl rfl rfl ?_
        refine z_get 63 rfl rfl (by first | exact hP.1.1 | exact hE.1 | exact hE.2.1 | exact hE.2.2.1 | exact hE.2.2.2.1 | exact hE.2.2.2.2.1 | exact hE.2.2.2.2.2 | exact hS.1 | exact hS.2.1 | exact hS.2.2.1 | exact hS.2.2.2.1 | exact hS.2.2.2.2 | fail "lk") rfl ?_
        refine z_get 66 rfl rfl (by first | exact hP.1.1 | exact hE.1 | exact hE.2.1 | exact hE.2.2.1 | exact hE.2.2.2.1 | exact hE.2.2.2.2.1 | exact hE.2.2.2.2.2 | exact hS.1 | exact hS.2.1 | exact hS.2.2.1 | exact hS.2.2.2.1 | exact hS.2.2.2.2 | fail "lk") rfl ?_
        refine z_iload 67 rfl rfl rfl ?_
        refine z_ald 68 rfl rfl (by first | exact hP.1.1 | exact hE.1 | exact hE.2.1 | exact hE.2.2.1 | exact hE.2.2.2.1 | exact hE.2.2.2.2.1 | exact hE.2.2.2.2.2 | exact hS.1 | exact hS.2.1 | exact hS.2.2.1 | exact hS.2.2.2.1 | exact hS.2.2.2.2 | fail "lk") rfl (by omega) (by omega) ?_
        simp only [u3]
        refine z_push 69 (nI 1) rfl rfl rfl ?_
        refine z_bop 70 _ rfl rfl (zb_1 (by omega)) ?_
        refine z_bop 71 _ rfl rfl (zb_2 _ _) ?_
        refine z_bop 72 _ rfl rfl (shr_n (by omega) _ (by omega)) ?_
        rw [← v9]
        refine z_istore 73 rfl rfl rfl rfl ?_
        refine z_aload 74 rfl rfl rfl ?_
        refine z_aload 75 rfl rfl rfl ?_
        refine z_get 78 rfl rfl (by first | exact hP.1.1 | exact hE.1 | exact hE.2.1 | exact hE.2.2.1 | exact hE.2.2.2.1 | exact hE.2.2.2.2.1 | exact hE.2.2.2.2.2 | exact hS.1 | exact hS.2.1 | exact hS.2.2.1 | exact hS.2.2.2.1 | exact hS.2.2.2.2 | fail "lk") rfl ?_
        refine z_get 81 rfl rfl (by first | exact hP.1.1 | exact hE.1 | exact hE.2.1 | exact hE.2.2.1 | exact hE.2.2.2.1 | exact hE.2.2.2.2.1 | exact hE.2.2.2.2.2 | exact hS.1 | exact hS.2.1 | exact hS.2.2.1 | exact hS.2.2.2.1 | exact hS.2.2.2.2 | fail "lk") rfl ?_
        refine z_iload 82 rfl rfl rfl ?_
        refine z_ald 83 rfl rfl (by first | exact hP.1.1 | exact hE.1 | exact hE.2.1 | exact hE.2.2.1 | exact hE.2.2.2.1 | exact hE.2.2.2.2.1 | exact hE.2.2.2.2.2 | exact hS.1 | exact hS.2.1 | exact hS.2.2.1 | exact hS.2.2.2.1 | exact hS.2.2.2.2 | fail "lk") rfl (by omega) (by omega) ?_
        simp only [u1]
        refine z_iload 84 rfl rfl rfl ?_
        refine z_iload 85 rfl rfl rfl ?_
        refine z_cv3 88 rfl rfl (by first | exact hP.1.1 | exact hE.1 | exact hE.2.1 | exact hE.2.2.1 | exact hE.2.2.2.1 | exact hE.2.2.2.2.1 | exact hE.2.2.2.2.2 | exact hS.1 | exact hS.2.1 | exact hS.2.2.1 | exact hS.2.2.2.1 | exact hS.2.2.2.2 | fail "lk") rfl (Nat.le_refl _) (Nat.le_refl _) ?_
        refine c_chain hP.1.1 hP.1.2.2.2.1 hP.1.2.2.2.2 (by omega) (by omega) (by omega) (fun h2 g1 g2 g3 => ?_)
        refine z_iinc 91 _ rfl rfl rfl rfl (by first | with_reducible exact zi_1 _ | rfl) ?_
        refine z_goto rfl ?_
        refine ih (a + 1) _ _ h2 m3 (by omega) (by omega) (hC.add (x := a) (by omega) (by omega) (by omega) (by omega) (fun st v i => ?_) (fun st v h9 => ?_)) ⟨⟨(g3.2 p (by omega)).trans hP.1.1, hP.1.2.1.e (g3.eqv (by omega)), hP.1.2.2.1.e (g3.eqv (by omega)), g1, g2⟩, (g3.2 _ (by omega)).trans hP.2.1, hP.2.2.e (g3.eqv (by omega))⟩ ⟨g3.1.trans hF.1, fun x hx => (g3.2 x (by omega)).trans (hF.2 x hx)⟩ _
        · unfold itP
          constructor
          · rintro (⟨h9, h8, h7⟩ | h9)
            · by_cases e : i = a
              · subst e; exact Or.inr ⟨rfl, h8.symm, h7.symm⟩
              · exact Or.inl (Or.inl ⟨by omega, h8, h7⟩)
            · omega
          · rintro ((⟨h9, h8⟩ | h9) | ⟨rfl, rfl, rfl⟩)
            · exact Or.inl ⟨by omega, h8⟩
            · omega
            · exact Or.inl ⟨by omega, rfl, rfl⟩
        · rcases h9 with h9 | h9 <;> omega
  refine z_push 36 (nI 0) rfl rfl rfl ?_
  refine z_istore 37 rfl rfl rfl rfl ?_
  exact ens (E.length + 1) 0 _ nx h4 m (by omega) (by omega) (PrC.z (fun j hj => if_pos hj)) hP4 hfr4 _
