/-! the class: writing all units -/
theorem CI.wk {h h' : mH} {A : Ab} {pad : Nat → Nat} {sp : Option Nat} {res wrk p ru st : Nat} {l l2 u : List Nat} (hC : CI h A pad sp res wrk) (hw : RwAt h' wrk 6000 l) (hWr : WrAt h' 43 16 p ru st l2 u) (f : ∀ x, (x < 43 ∨ 48 ≤ x) → (x < wrk ∨ wrk + 2 ≤ x) → h'.2 x = h.2 x) (hs : h'.1 = h.1) : CI h' A pad sp res wrk := by
  have cr := hC.2.1
  obtain ⟨_, ⟨lb, s2⟩, ⟨_, _, _, _, _, s3⟩, _, _, s5⟩ := hC.2.2.2.2.2.2.1
  exact hC.sc ⟨⟨l, hw⟩, ⟨lb, s2.e (fun x x1 x2 => f x (by omega) (by omega))⟩, ⟨_, _, _, _, _, s3.e (fun x x1 x2 => f x (by omega) (by omega))⟩, ⟨_, _, _, _, _, hWr⟩, _, (f _ (by omega) (by omega)).trans s5⟩ (fun x x1 x2 x3 x4 => f x (by omega) (by omega)) hs
theorem unA_c {us : List Nat} {a : Nat} (hb : ∀ j, us.getD j 0 < 65536) : ((unA us a).1 = 0 ∧ (unA us a).2 = us.getD a 0) ∨ ((unA us a).1 = 1 ∧ (unA us a).2 < 65536) ∨ ((unA us a).1 = 2 ∧ 65536 ≤ (unA us a).2 ∧ (unA us a).2 < 1114112 ∧ a + 1 < us.length) := by
  have h1 := hb a
  have h2 := hb (a + 1)
  unfold unA
  split
  · rename_i h; exact Or.inr (Or.inr ⟨rfl, by show 65536 ≤ 65536 + _ * 2 ^ 10 + _ - 56320; omega, by show 65536 + _ * 2 ^ 10 + _ - 56320 < 1114112; omega, h.2.1⟩)
  · split
    · exact Or.inl ⟨rfl, rfl⟩
    · exact Or.inr (Or.inl ⟨rfl, h1⟩)
theorem jLh_0 {x : Nat} (h : x < 65536) : jLh (nI x) = nI 0 := by
  unfold jLh
  rw [if_pos (by rw [nI_toInt (by omega)]; omega)]; rfl
theorem jLh_1 {x : Nat} (h : 65536 ≤ x) (h2 : x < 1114112) : jLh (nI x) = nI 1 := by
  unfold jLh
  rw [if_neg (by rw [nI_toInt (by omega)]; omega)]; rfl
theorem wrA_e {F : List Fb} {K : Nat} {E : List En} {H : List Sh} {rule sg m k a st : Nat} {us l : List Nat} (h : us.length ≤ a) (h2 : l.length + (ghW K H st).1.length ≤ m) : wrA F K E H rule sg us m (k + 1) a st l = (0, 0, l ++ (ghW K H st).1) := by rw [wrA, if_pos h, if_pos h2]
theorem wrA_ef {F : List Fb} {K : Nat} {E : List En} {H : List Sh} {rule sg m k a st : Nat} {us l : List Nat} (h : us.length ≤ a) (h2 : m < l.length + (ghW K H st).1.length) : wrA F K E H rule sg us m (k + 1) a st l = (2, 0, []) := by rw [wrA, if_pos h, if_neg (by omega)]
theorem wrA_n {F : List Fb} {K : Nat} {E : List En} {H : List Sh} {rule sg m k a st : Nat} {us l : List Nat} (h : ¬ us.length ≤ a) (h2 : wr1 F K E H rule sg us a st = none) : wrA F K E H rule sg us m (k + 1) a st l = (1, a, []) := by rw [wrA, if_neg h, h2]
theorem wrA_f {F : List Fb} {K : Nat} {E : List En} {H : List Sh} {rule sg m k a st : Nat} {us l : List Nat} {y : List Nat × Nat} (h : ¬ us.length ≤ a) (h2 : wr1 F K E H rule sg us a st = some y) (h3 : m < l.length + y.1.length) : wrA F K E H rule sg us m (k + 1) a st l = (2, 0, []) := by
  rw [wrA, if_neg h, h2]; exact if_neg (by omega)
theorem wrA_g {F : List Fb} {K : Nat} {E : List En} {H : List Sh} {rule sg m k a st : Nat} {us l : List Nat} {y : List Nat × Nat} (h : ¬ us.length ≤ a) (h2 : wr1 F K E H rule sg us a st = some y) (h3 : l.length + y.1.length ≤ m) : wrA F K E H rule sg us m (k + 1) a st l = wrA F K E H rule sg us m k (a + (if (unA us a).1 = 2 then 2 else 1)) y.2 (l ++ y.1) := by
  rw [wrA, if_neg h, h2]; exact if_pos h3
theorem wr1_k0 {F : List Fb} {K rule sg a st : Nat} {us : List Nat} {E : List En} {H : List Sh} (h : K ≠ 0 → st = 0) {y : List Nat × Nat} (hy : wr1 F K E H rule sg us a st = some y) : K ≠ 0 → y.2 = 0 := by
  unfold wr1 at hy
  split at hy
  · exact wl1_k0 h hy
  · exact wp1_k0 h hy
theorem w_addAllN {d : Nat} {h : mH} {r n r2 n2 : Nat} {l m : List Nat} {Q : mP} (a : RwAt h r n l) (b : RwAt h r2 n2 m) (hn : n < 2 ^ 31) (hn2 : n2 < 2 ^ 31) (q1 : l.length + m.length ≤ n → ∀ h', RwAt h' r n (l ++ m) → Fr r (r + 2) h h' → Q (some (.int (nI 1))) h') (q0 : n < l.length + m.length → Q (some (.int (nI 0))) h) : mWP (d + 1) 73 [.ref r, .ref r2] h Q := w_addAll a b hn hn2 q1 q0
set_option maxRecDepth 100000 in
theorem c_writeAll {d : Nat} {h0 : mH} {A : Ab} {pad : Nat → Nat} {sp : Option Nat} {res wrk : Nat} {P rule o n : Nat} {us l0 u0 : List Nat} {Q : mP} (hC : CI h0 A pad sp res wrk) (hA : AbW A) (hFN : ∀ x, fbN A.fbs 40 x ≤ 16) (hP : P < A.pgs.length) (hcl : pgC A.pgs P = true) (hru : rule < 5) (ho : o = 5 ∨ o = 11) (hn9 : n ≤ 2000) (hw0 : RwAt h0 o n us) (hub : ∀ j, us.getD j 0 < 65536) (hWr0 : WrAt h0 43 16 (pad P) rule 0 l0 u0)  (q0 : ∀ bs, (wrPg A P rule us 6000 0) = (0, 0, bs) → ∀ h', CI h' A pad sp res wrk → RwAt h' wrk 6000 bs → (∀ x, (x < 43 ∨ 48 ≤ x) → (x < wrk ∨ wrk + 2 ≤ x) → h'.2 x = h0.2 x) → h'.1 = h0.1 → Q (some (.int (nI bs.length))) h') (q1 : ∀ a, (wrPg A P rule us 6000 0) = (1, a, []) → ∀ h', CI h' (A.wPlc a) pad sp res wrk → (∀ x, x ≠ 1 → (x < 43 ∨ 48 ≤ x) → (x < wrk ∨ wrk + 2 ≤ x) → h'.2 x = h0.2 x) → h'.1 = h0.1 → Q (some (.int (-10))) h') (q2 : (wrPg A P rule us 6000 0) = (2, 0, []) → ∀ h', CI h' A pad sp res wrk → (∀ x, (x < 43 ∨ 48 ≤ x) → (x < wrk ∨ wrk + 2 ≤ x) → h'.2 x = h0.2 x) → h'.1 = h0.1 → Q (some (.int (-6))) h') : mWP (d + 8) 164 [.ref 1, .ref o] h0 Q := by
  obtain ⟨c1, cr, cp, cb, cu, cq, cs, ck, cru, cm⟩ := id hC
  obtain ⟨cp0, ⟨pf, cp1, cp2⟩, cp3, cp4, cp5⟩ := id cp
  obtain ⟨hPB, hKb, hGd, hbb, hub9, hsg1, hsg2, hFW, hFd⟩ := id hA
  have hW := hPB P hP
  have hG := hGd P hP hcl
  have hs2 := nPt_lt hsg2
  obtain ⟨hpad, hpad2, hPR⟩ := cp3 P hP
  have hPC0 : PgC h0 (pad P) (pgK A.pgs P) (pgE A.pgs P) (pgH A.pgs P) := PgR.cl (by rw [← hcl]; exact hPR)
  have hul := hw0.2.1
  obtain ⟨lw, hlw⟩ := cs.1
  have loop : ∀ k9 a st l lb u h o3, us.length < a + k9 → a ≤ us.length → SOk (pgK A.pgs P) (pgH A.pgs P) st → (pgK A.pgs P ≠ 0 → st = 0) → (wrPg A P rule us 6000 0) = wrA A.fbs (pgK A.pgs P) (pgE A.pgs P) (pgH A.pgs P) rule A.sgn.2 us 6000 k9 a st l → WrAt h 43 16 (pad P) rule st lb u → RwAt h wrk 6000 l → (∀ x, (x < 43 ∨ 48 ≤ x) → (x < wrk ∨ wrk + 2 ≤ x) → h.2 x = h0.2 x) → h.1 = h0.1 → mZ (d + 7) tk_164 0 0 Q 9 [some (.ref 1), some (.ref o), some (.int (nI a)), o3] [] h 0 0 := by
    intro k9
    induction k9 with
    | zero => intro a st l lb u h o3 h1 h2; omega
    | succ k9 ih =>
      intro a st l lb u h o3 h1 h2 hs hK0 hX hWr hwk hFx hsz
      have hrow : RwAt h o n us := hw0.e (fun x x1 x2 => hFx x (by omega) (by omega))
      obtain ⟨w1, w2, f, w3, w4⟩ := id hrow
      have hru2 : RuAt h 16 A.sgn.1 A.sgn.2 A.fbs := cru.e (fun x x1 x2 => hFx x (by omega) (by omega))
      have hPC : PgC h (pad P) (pgK A.pgs P) (pgE A.pgs P) (pgH A.pgs P) := hPC0.e (fun x x1 x2 => hFx x (by omega) (by omega))
      have hCI := hC.wk hwk hWr hFx hsz
      refine z_iload 10 rfl rfl rfl ?_
      refine z_aload 11 rfl rfl rfl ?_
      refine z_get 14 rfl rfl (by first | exact hCI.1 | exact hk1 | exact hrow.1 | exact w3 | exact hWr.1 | exact h2x | exact hw2.1 | exact hwk2.1 | exact hC3.1 | exact hwk3.1 | fail "lk") rfl ?_
      refine z_nge 17 rfl rfl (by omega) (by omega) (fun hc14 => ?_) (fun hc14 => ?_)
      · refine z_aload 82 rfl rfl rfl ?_
        refine z_get 85 rfl rfl (by first | exact hCI.1 | exact hk1 | exact hrow.1 | exact w3 | exact hWr.1 | exact h2x | exact hw2.1 | exact hwk2.1 | exact hC3.1 | exact hwk3.1 | fail "lk") rfl ?_
        refine z_cv0 88 rfl rfl (by first | exact hCI.1 | exact hk1 | exact hrow.1 | exact w3 | exact hWr.1 | exact h2x | exact hw2.1 | exact hwk2.1 | exact hC3.1 | exact hwk3.1 | fail "lk") rfl (Nat.le_refl _) (Nat.le_refl _) ?_
        refine c_finish hWr hPC hs.1 (gh_g hG hs) hK0 (by omega) (fun h2 hw2 hF2 => ?_)
        have hF2x : ∀ x, (x < 43 ∨ 48 ≤ x) → (x < wrk ∨ wrk + 2 ≤ x) → h2.2 x = h0.2 x := fun x x1 x2 => (hF2.2 x (by omega)).trans (hFx x x1 x2)
        have hs2z := hF2.1.trans hsz
        have hwk2 := hwk.e (h' := h2) (fun x x1 x2 => hF2.2 x (by omega))
        have hCI2 := hC.wk hwk2 hw2 hF2x hs2z
        have h2x := hCI2.1
        refine z_aload 89 rfl rfl rfl ?_
        refine z_get 92 rfl rfl (by first | exact hCI.1 | exact hk1 | exact hrow.1 | exact w3 | exact hWr.1 | exact h2x | exact hw2.1 | exact hwk2.1 | exact hC3.1 | exact hwk3.1 | fail "lk") rfl ?_
        refine z_aload 93 rfl rfl rfl ?_
        refine z_get 96 rfl rfl (by first | exact hCI.1 | exact hk1 | exact hrow.1 | exact w3 | exact hWr.1 | exact h2x | exact hw2.1 | exact hwk2.1 | exact hC3.1 | exact hwk3.1 | fail "lk") rfl ?_
        refine z_get 99 rfl rfl (by first | exact hCI.1 | exact hk1 | exact hrow.1 | exact w3 | exact hWr.1 | exact h2x | exact hw2.1 | exact hwk2.1 | exact hC3.1 | exact hwk3.1 | fail "lk") rfl ?_
        refine z_cv1 102 rfl rfl (by first | exact hCI.1 | exact hk1 | exact hrow.1 | exact w3 | exact hWr.1 | exact h2x | exact hw2.1 | exact hwk2.1 | exact hC3.1 | exact hwk3.1 | fail "lk") rfl (Nat.le_refl _) (Nat.le_refl _) ?_
        refine w_addAllN hwk2 hw2.2.1 (by decide) (by decide) (fun hle h3 hwk3 hF3 => ?_) (fun hlt => ?_)
        · have hC3 := hC.wk hwk3 (hw2.e (fun x x1 x2 => hF3.2 x (by omega))) (fun x x1 x2 => (hF3.2 x (by omega)).trans (hF2x x x1 x2)) (hF3.1.trans hs2z)
          refine z_zeq 105 rfl rfl (by omega) (fun h9 => absurd h9 (by omega)) (fun _ => ?_)
          refine z_aload 106 rfl rfl rfl ?_
          refine z_get 109 rfl rfl (by first | exact hCI.1 | exact hk1 | exact hrow.1 | exact w3 | exact hWr.1 | exact h2x | exact hw2.1 | exact hwk2.1 | exact hC3.1 | exact hwk3.1 | fail "lk") rfl ?_
          refine z_get 112 rfl rfl (by first | exact hCI.1 | exact hk1 | exact hrow.1 | exact w3 | exact hWr.1 | exact h2x | exact hw2.1 | exact hwk2.1 | exact hC3.1 | exact hwk3.1 | fail "lk") rfl ?_
          refine z_goto rfl ?_
          refine z_ireti rfl (Nat.le_refl _) (Nat.le_refl _) ?_
          rw [wrA_e (by omega) hle] at hX
          exact q0 _ hX h3 hC3 hwk3 (fun x x1 x2 => (hF3.2 x (by omega)).trans (hF2x x x1 x2)) (hF3.1.trans hs2z)
        · skip
          refine z_zeq 105 rfl rfl (by omega) (fun _ => ?_) (fun h9 => absurd h9 (by omega))
          refine z_push 117 (-6) rfl rfl rfl ?_
          refine z_ireti rfl (Nat.le_refl _) (Nat.le_refl _) ?_
          rw [wrA_ef (by omega) hlt] at hX
          exact q2 hX h2 hCI2 hF2x hs2z
      · refine z_aload 18 rfl rfl rfl ?_
        refine z_iload 19 rfl rfl rfl ?_
        refine z_cv1 22 rfl rfl (by first | exact hCI.1 | exact hk1 | exact hrow.1 | exact w3 | exact hWr.1 | exact h2x | exact hw2.1 | exact hwk2.1 | exact hC3.1 | exact hwk3.1 | fail "lk") rfl (Nat.le_refl _) (Nat.le_refl _) ?_
        refine w_pointAt hrow (by omega) hub (by omega) ?_
        rcases unA_c (a := a) hub with ⟨hu0, hu2⟩ | ⟨hu1, hu2⟩ | ⟨hu1, hu2, hu3, hu4⟩
        · rw [show uP us a = -1 from if_pos hu0]
          refine z_istore 23 rfl rfl rfl rfl ?_
          refine z_aload 24 rfl rfl rfl ?_
          refine z_get 27 rfl rfl (by first | exact hCI.1 | exact hk1 | exact hrow.1 | exact w3 | exact hWr.1 | exact h2x | exact hw2.1 | exact hwk2.1 | exact hC3.1 | exact hwk3.1 | fail "lk") rfl ?_
          refine z_iload 28 rfl rfl rfl ?_
          refine z_aload 29 rfl rfl rfl ?_
          refine z_get 32 rfl rfl (by first | exact hCI.1 | exact hk1 | exact hrow.1 | exact w3 | exact hWr.1 | exact h2x | exact hw2.1 | exact hwk2.1 | exact hC3.1 | exact hwk3.1 | fail "lk") rfl ?_
          refine z_iload 33 rfl rfl rfl ?_
          refine z_ald 34 rfl rfl (by first | exact hCI.1 | exact hk1 | exact hrow.1 | exact w3 | exact hWr.1 | exact h2x | exact hw2.1 | exact hwk2.1 | exact hC3.1 | exact hwk3.1 | fail "lk") rfl (by omega) (by omega) ?_
          rw [w4 a (by omega)]
          refine z_cv2 37 rfl rfl (by first | exact hCI.1 | exact hk1 | exact hrow.1 | exact w3 | exact hWr.1 | exact h2x | exact hw2.1 | exact hwk2.1 | exact hC3.1 | exact hwk3.1 | fail "lk") rfl (Nat.le_refl _) (Nat.le_refl _) ?_
          refine c_writeL hWr hru2 hPC hW hG hs hK0 hFW hFd hFN hs2 hru (by omega) (by omega) (hub a) (fun hn h2 u2 hw2 hF2 => ?_) (fun y hy h2 u2 hw2 hF2 => ?_)
          · have hn1 : wr1 A.fbs (pgK A.pgs P) (pgE A.pgs P) (pgH A.pgs P) rule A.sgn.2 us a st = none := by
              rw [wr1]
              first | (rw [if_pos hu0, hu2]; exact hn) | (rw [if_neg hu0]; exact hn)
            have hF2x : ∀ x, (x < 43 ∨ 48 ≤ x) → (x < wrk ∨ wrk + 2 ≤ x) → h2.2 x = h0.2 x := fun x x1 x2 => (hF2.2 x (by omega)).trans (hFx x x1 x2)
            have hs2z := hF2.1.trans hsz
            have hwk2 := hwk.e (h' := h2) (fun x x1 x2 => hF2.2 x (by omega))
            have hCI2 := hC.wk hwk2 hw2 hF2x hs2z
            have h2x := hCI2.1
            refine z_zne 40 rfl rfl (by omega) (fun h9 => absurd h9 (by omega)) (fun _ => ?_)
            refine z_aload 41 rfl rfl rfl ?_
            refine z_iload 42 rfl rfl rfl ?_
            refine z_put 45 rfl rfl (by first | exact hCI.1 | exact hk1 | exact hrow.1 | exact w3 | exact hWr.1 | exact h2x | exact hw2.1 | exact hwk2.1 | exact hC3.1 | exact hwk3.1 | fail "lk") rfl (mFi rfl) ?_
            refine z_ab 1 (oX A.pgs.length sp res A.res.1 wrk a A.fnd) h2 (mg_eq _ _ _) (fun x hx => by simp only [mSet, if_neg hx]) rfl (fun h4 hc4 kh4 zh4 => ?_)
            refine z_push 47 (-10) rfl rfl rfl ?_
            refine z_ireti rfl (Nat.le_refl _) (Nat.le_refl _) ?_
            rw [wrA_n (by omega) hn1] at hX
            exact q1 a hX h4 (hCI2.plc hc4 kh4 zh4) (fun x x1 x2 x3 => (kh4 x x1).trans (hF2x x x2 x3)) (zh4.trans hs2z)
          · have hy1 : wr1 A.fbs (pgK A.pgs P) (pgE A.pgs P) (pgH A.pgs P) rule A.sgn.2 us a st = some y := by
              rw [wr1]
              first | (rw [if_pos hu0, hu2]; exact hy) | (rw [if_neg hu0]; exact hy)
            have hF2x : ∀ x, (x < 43 ∨ 48 ≤ x) → (x < wrk ∨ wrk + 2 ≤ x) → h2.2 x = h0.2 x := fun x x1 x2 => (hF2.2 x (by omega)).trans (hFx x x1 x2)
            have hs2z := hF2.1.trans hsz
            have hwk2 := hwk.e (h' := h2) (fun x x1 x2 => hF2.2 x (by omega))
            have hCI2 := hC.wk hwk2 hw2 hF2x hs2z
            have h2x := hCI2.1
            refine z_zne 40 rfl rfl (by omega) (fun _ => ?_) (fun h9 => absurd h9 (by omega))
            refine z_aload 49 rfl rfl rfl ?_
            refine z_get 52 rfl rfl (by first | exact hCI.1 | exact hk1 | exact hrow.1 | exact w3 | exact hWr.1 | exact h2x | exact hw2.1 | exact hwk2.1 | exact hC3.1 | exact hwk3.1 | fail "lk") rfl ?_
            refine z_aload 53 rfl rfl rfl ?_
            refine z_get 56 rfl rfl (by first | exact hCI.1 | exact hk1 | exact hrow.1 | exact w3 | exact hWr.1 | exact h2x | exact hw2.1 | exact hwk2.1 | exact hC3.1 | exact hwk3.1 | fail "lk") rfl ?_
            refine z_get 59 rfl rfl (by first | exact hCI.1 | exact hk1 | exact hrow.1 | exact w3 | exact hWr.1 | exact h2x | exact hw2.1 | exact hwk2.1 | exact hC3.1 | exact hwk3.1 | fail "lk") rfl ?_
            refine z_cv1 62 rfl rfl (by first | exact hCI.1 | exact hk1 | exact hrow.1 | exact w3 | exact hWr.1 | exact h2x | exact hw2.1 | exact hwk2.1 | exact hC3.1 | exact hwk3.1 | fail "lk") rfl (Nat.le_refl _) (Nat.le_refl _) ?_
            refine w_addAllN hwk2 hw2.2.1 (by decide) (by decide) (fun hle h3 hwk3 hF3 => ?_) (fun hlt => ?_)
            · have hC3 := hC.wk hwk3 (hw2.e (fun x x1 x2 => hF3.2 x (by omega))) (fun x x1 x2 => (hF3.2 x (by omega)).trans (hF2x x x1 x2)) (hF3.1.trans hs2z)
              refine z_zne 65 rfl rfl (by omega) (fun _ => ?_) (fun h9 => absurd h9 (by omega))
              refine z_iload 69 rfl rfl rfl ?_
              refine z_iload 70 rfl rfl rfl ?_
              refine z_cs1 73 rfl rfl rfl (Nat.le_refl _) (Nat.le_refl _) ?_
              refine c_lowHalvesOf ?_
              rw [show jLh (-1) = nI 0 from by decide]
              refine z_bop 74 _ rfl rfl (by first | with_reducible exact zb_0 _ _ | exact zd_0 _ _) ?_
              refine z_istore 75 rfl rfl rfl rfl ?_
              refine z_iinc 78 _ rfl rfl rfl rfl (by first | with_reducible exact zi_1 _ | rfl) ?_
              refine z_goto rfl ?_
              rw [wrA_g (by omega) hy1 hle, if_neg (by omega)] at hX
              exact ih (a + 1) y.2 (l ++ y.1) y.1 u2 h3 _ (by omega) (by omega) (wr1_ok hG hs y hy1) (wr1_k0 hK0 hy1) hX (hw2.e (fun x x1 x2 => hF3.2 x (by omega))) hwk3 (fun x x1 x2 => (hF3.2 x (by omega)).trans (hF2x x x1 x2)) (hF3.1.trans hs2z)
            · skip
              refine z_zne 65 rfl rfl (by omega) (fun h9 => absurd h9 (by omega)) (fun _ => ?_)
              refine z_push 67 (-6) rfl rfl rfl ?_
              refine z_ireti rfl (Nat.le_refl _) (Nat.le_refl _) ?_
              rw [wrA_f (by omega) hy1 hlt] at hX
              exact q2 hX h2 hCI2 hF2x hs2z
        · have hu0 : ¬ (unA us a).1 = 0 := by omega
          rw [show uP us a = nI (unA us a).2 from if_neg hu0]
          refine z_istore 23 rfl rfl rfl rfl ?_
          refine z_aload 24 rfl rfl rfl ?_
          refine z_get 27 rfl rfl (by first | exact hCI.1 | exact hk1 | exact hrow.1 | exact w3 | exact hWr.1 | exact h2x | exact hw2.1 | exact hwk2.1 | exact hC3.1 | exact hwk3.1 | fail "lk") rfl ?_
          refine z_iload 28 rfl rfl rfl ?_
          refine z_aload 29 rfl rfl rfl ?_
          refine z_get 32 rfl rfl (by first | exact hCI.1 | exact hk1 | exact hrow.1 | exact w3 | exact hWr.1 | exact h2x | exact hw2.1 | exact hwk2.1 | exact hC3.1 | exact hwk3.1 | fail "lk") rfl ?_
          refine z_iload 33 rfl rfl rfl ?_
          refine z_ald 34 rfl rfl (by first | exact hCI.1 | exact hk1 | exact hrow.1 | exact w3 | exact hWr.1 | exact h2x | exact hw2.1 | exact hwk2.1 | exact hC3.1 | exact hwk3.1 | fail "lk") rfl (by omega) (by omega) ?_
          rw [w4 a (by omega)]
          refine z_cv2 37 rfl rfl (by first | exact hCI.1 | exact hk1 | exact hrow.1 | exact w3 | exact hWr.1 | exact h2x | exact hw2.1 | exact hwk2.1 | exact hC3.1 | exact hwk3.1 | fail "lk") rfl (Nat.le_refl _) (Nat.le_refl _) ?_
          refine c_write hWr hru2 hPC hW hG hs hK0 hFW hFd hFN hs2 hru (by omega) (by omega) (by omega) (fun hn h2 u2 hw2 hF2 => ?_) (fun y hy h2 u2 hw2 hF2 => ?_)
          · have hn1 : wr1 A.fbs (pgK A.pgs P) (pgE A.pgs P) (pgH A.pgs P) rule A.sgn.2 us a st = none := by
              rw [wr1]
              first | (rw [if_pos hu0, hu2]; exact hn) | (rw [if_neg hu0]; exact hn)
            have hF2x : ∀ x, (x < 43 ∨ 48 ≤ x) → (x < wrk ∨ wrk + 2 ≤ x) → h2.2 x = h0.2 x := fun x x1 x2 => (hF2.2 x (by omega)).trans (hFx x x1 x2)
            have hs2z := hF2.1.trans hsz
            have hwk2 := hwk.e (h' := h2) (fun x x1 x2 => hF2.2 x (by omega))
            have hCI2 := hC.wk hwk2 hw2 hF2x hs2z
            have h2x := hCI2.1
            refine z_zne 40 rfl rfl (by omega) (fun h9 => absurd h9 (by omega)) (fun _ => ?_)
            refine z_aload 41 rfl rfl rfl ?_
            refine z_iload 42 rfl rfl rfl ?_
            refine z_put 45 rfl rfl (by first | exact hCI.1 | exact hk1 | exact hrow.1 | exact w3 | exact hWr.1 | exact h2x | exact hw2.1 | exact hwk2.1 | exact hC3.1 | exact hwk3.1 | fail "lk") rfl (mFi rfl) ?_
            refine z_ab 1 (oX A.pgs.length sp res A.res.1 wrk a A.fnd) h2 (mg_eq _ _ _) (fun x hx => by simp only [mSet, if_neg hx]) rfl (fun h4 hc4 kh4 zh4 => ?_)
            refine z_push 47 (-10) rfl rfl rfl ?_
            refine z_ireti rfl (Nat.le_refl _) (Nat.le_refl _) ?_
            rw [wrA_n (by omega) hn1] at hX
            exact q1 a hX h4 (hCI2.plc hc4 kh4 zh4) (fun x x1 x2 x3 => (kh4 x x1).trans (hF2x x x2 x3)) (zh4.trans hs2z)
          · have hy1 : wr1 A.fbs (pgK A.pgs P) (pgE A.pgs P) (pgH A.pgs P) rule A.sgn.2 us a st = some y := by
              rw [wr1]
              first | (rw [if_pos hu0, hu2]; exact hy) | (rw [if_neg hu0]; exact hy)
            have hF2x : ∀ x, (x < 43 ∨ 48 ≤ x) → (x < wrk ∨ wrk + 2 ≤ x) → h2.2 x = h0.2 x := fun x x1 x2 => (hF2.2 x (by omega)).trans (hFx x x1 x2)
            have hs2z := hF2.1.trans hsz
            have hwk2 := hwk.e (h' := h2) (fun x x1 x2 => hF2.2 x (by omega))
            have hCI2 := hC.wk hwk2 hw2 hF2x hs2z
            have h2x := hCI2.1
            refine z_zne 40 rfl rfl (by omega) (fun _ => ?_) (fun h9 => absurd h9 (by omega))
            refine z_aload 49 rfl rfl rfl ?_
            refine z_get 52 rfl rfl (by first | exact hCI.1 | exact hk1 | exact hrow.1 | exact w3 | exact hWr.1 | exact h2x | exact hw2.1 | exact hwk2.1 | exact hC3.1 | exact hwk3.1 | fail "lk") rfl ?_
            refine z_aload 53 rfl rfl rfl ?_
            refine z_get 56 rfl rfl (by first | exact hCI.1 | exact hk1 | exact hrow.1 | exact w3 | exact hWr.1 | exact h2x | exact hw2.1 | exact hwk2.1 | exact hC3.1 | exact hwk3.1 | fail "lk") rfl ?_
            refine z_get 59 rfl rfl (by first | exact hCI.1 | exact hk1 | exact hrow.1 | exact w3 | exact hWr.1 | exact h2x | exact hw2.1 | exact hwk2.1 | exact hC3.1 | exact hwk3.1 | fail "lk") rfl ?_
            refine z_cv1 62 rfl rfl (by first | exact hCI.1 | exact hk1 | exact hrow.1 | exact w3 | exact hWr.1 | exact h2x | exact hw2.1 | exact hwk2.1 | exact hC3.1 | exact hwk3.1 | fail "lk") rfl (Nat.le_refl _) (Nat.le_refl _) ?_
            refine w_addAllN hwk2 hw2.2.1 (by decide) (by decide) (fun hle h3 hwk3 hF3 => ?_) (fun hlt => ?_)
            · have hC3 := hC.wk hwk3 (hw2.e (fun x x1 x2 => hF3.2 x (by omega))) (fun x x1 x2 => (hF3.2 x (by omega)).trans (hF2x x x1 x2)) (hF3.1.trans hs2z)
              refine z_zne 65 rfl rfl (by omega) (fun _ => ?_) (fun h9 => absurd h9 (by omega))
              refine z_iload 69 rfl rfl rfl ?_
              refine z_iload 70 rfl rfl rfl ?_
              refine z_cs1 73 rfl rfl rfl (Nat.le_refl _) (Nat.le_refl _) ?_
              refine c_lowHalvesOf ?_
              rw [jLh_0 hu2]
              refine z_bop 74 _ rfl rfl (by first | with_reducible exact zb_0 _ _ | exact zd_0 _ _) ?_
              refine z_istore 75 rfl rfl rfl rfl ?_
              refine z_iinc 78 _ rfl rfl rfl rfl (by first | with_reducible exact zi_1 _ | rfl) ?_
              refine z_goto rfl ?_
              rw [wrA_g (by omega) hy1 hle, if_neg (by omega)] at hX
              exact ih (a + 1) y.2 (l ++ y.1) y.1 u2 h3 _ (by omega) (by omega) (wr1_ok hG hs y hy1) (wr1_k0 hK0 hy1) hX (hw2.e (fun x x1 x2 => hF3.2 x (by omega))) hwk3 (fun x x1 x2 => (hF3.2 x (by omega)).trans (hF2x x x1 x2)) (hF3.1.trans hs2z)
            · skip
              refine z_zne 65 rfl rfl (by omega) (fun h9 => absurd h9 (by omega)) (fun _ => ?_)
              refine z_push 67 (-6) rfl rfl rfl ?_
              refine z_ireti rfl (Nat.le_refl _) (Nat.le_refl _) ?_
              rw [wrA_f (by omega) hy1 hlt] at hX
              exact q2 hX h2 hCI2 hF2x hs2z
        · have hu0 : ¬ (unA us a).1 = 0 := by omega
          rw [show uP us a = nI (unA us a).2 from if_neg hu0]
          refine z_istore 23 rfl rfl rfl rfl ?_
          refine z_aload 24 rfl rfl rfl ?_
          refine z_get 27 rfl rfl (by first | exact hCI.1 | exact hk1 | exact hrow.1 | exact w3 | exact hWr.1 | exact h2x | exact hw2.1 | exact hwk2.1 | exact hC3.1 | exact hwk3.1 | fail "lk") rfl ?_
          refine z_iload 28 rfl rfl rfl ?_
          refine z_aload 29 rfl rfl rfl ?_
          refine z_get 32 rfl rfl (by first | exact hCI.1 | exact hk1 | exact hrow.1 | exact w3 | exact hWr.1 | exact h2x | exact hw2.1 | exact hwk2.1 | exact hC3.1 | exact hwk3.1 | fail "lk") rfl ?_
          refine z_iload 33 rfl rfl rfl ?_
          refine z_ald 34 rfl rfl (by first | exact hCI.1 | exact hk1 | exact hrow.1 | exact w3 | exact hWr.1 | exact h2x | exact hw2.1 | exact hwk2.1 | exact hC3.1 | exact hwk3.1 | fail "lk") rfl (by omega) (by omega) ?_
          rw [w4 a (by omega)]
          refine z_cv2 37 rfl rfl (by first | exact hCI.1 | exact hk1 | exact hrow.1 | exact w3 | exact hWr.1 | exact h2x | exact hw2.1 | exact hwk2.1 | exact hC3.1 | exact hwk3.1 | fail "lk") rfl (Nat.le_refl _) (Nat.le_refl _) ?_
          refine c_write hWr hru2 hPC hW hG hs hK0 hFW hFd hFN hs2 hru (by omega) (by omega) (by omega) (fun hn h2 u2 hw2 hF2 => ?_) (fun y hy h2 u2 hw2 hF2 => ?_)
          · have hn1 : wr1 A.fbs (pgK A.pgs P) (pgE A.pgs P) (pgH A.pgs P) rule A.sgn.2 us a st = none := by
              rw [wr1]
              first | (rw [if_pos hu0, hu2]; exact hn) | (rw [if_neg hu0]; exact hn)
            have hF2x : ∀ x, (x < 43 ∨ 48 ≤ x) → (x < wrk ∨ wrk + 2 ≤ x) → h2.2 x = h0.2 x := fun x x1 x2 => (hF2.2 x (by omega)).trans (hFx x x1 x2)
            have hs2z := hF2.1.trans hsz
            have hwk2 := hwk.e (h' := h2) (fun x x1 x2 => hF2.2 x (by omega))
            have hCI2 := hC.wk hwk2 hw2 hF2x hs2z
            have h2x := hCI2.1
            refine z_zne 40 rfl rfl (by omega) (fun h9 => absurd h9 (by omega)) (fun _ => ?_)
            refine z_aload 41 rfl rfl rfl ?_
            refine z_iload 42 rfl rfl rfl ?_
            refine z_put 45 rfl rfl (by first | exact hCI.1 | exact hk1 | exact hrow.1 | exact w3 | exact hWr.1 | exact h2x | exact hw2.1 | exact hwk2.1 | exact hC3.1 | exact hwk3.1 | fail "lk") rfl (mFi rfl) ?_
            refine z_ab 1 (oX A.pgs.length sp res A.res.1 wrk a A.fnd) h2 (mg_eq _ _ _) (fun x hx => by simp only [mSet, if_neg hx]) rfl (fun h4 hc4 kh4 zh4 => ?_)
            refine z_push 47 (-10) rfl rfl rfl ?_
            refine z_ireti rfl (Nat.le_refl _) (Nat.le_refl _) ?_
            rw [wrA_n (by omega) hn1] at hX
            exact q1 a hX h4 (hCI2.plc hc4 kh4 zh4) (fun x x1 x2 x3 => (kh4 x x1).trans (hF2x x x2 x3)) (zh4.trans hs2z)
          · have hy1 : wr1 A.fbs (pgK A.pgs P) (pgE A.pgs P) (pgH A.pgs P) rule A.sgn.2 us a st = some y := by
              rw [wr1]
              first | (rw [if_pos hu0, hu2]; exact hy) | (rw [if_neg hu0]; exact hy)
            have hF2x : ∀ x, (x < 43 ∨ 48 ≤ x) → (x < wrk ∨ wrk + 2 ≤ x) → h2.2 x = h0.2 x := fun x x1 x2 => (hF2.2 x (by omega)).trans (hFx x x1 x2)
            have hs2z := hF2.1.trans hsz
            have hwk2 := hwk.e (h' := h2) (fun x x1 x2 => hF2.2 x (by omega))
            have hCI2 := hC.wk hwk2 hw2 hF2x hs2z
            have h2x := hCI2.1
            refine z_zne 40 rfl rfl (by omega) (fun _ => ?_) (fun h9 => absurd h9 (by omega))
            refine z_aload 49 rfl rfl rfl ?_
            refine z_get 52 rfl rfl (by first | exact hCI.1 | exact hk1 | exact hrow.1 | exact w3 | exact hWr.1 | exact h2x | exact hw2.1 | exact hwk2.1 | exact hC3.1 | exact hwk3.1 | fail "lk") rfl ?_
            refine z_aload 53 rfl rfl rfl ?_
            refine z_get 56 rfl rfl (by first | exact hCI.1 | exact hk1 | exact hrow.1 | exact w3 | exact hWr.1 | exact h2x | exact hw2.1 | exact hwk2.1 | exact hC3.1 | exact hwk3.1 | fail "lk") rfl ?_
            refine z_get 59 rfl rfl (by first | exact hCI.1 | exact hk1 | exact hrow.1 | exact w3 | exact hWr.1 | exact h2x | exact hw2.1 | exact hwk2.1 | exact hC3.1 | exact hwk3.1 | fail "lk") rfl ?_
            refine z_cv1 62 rfl rfl (by first | exact hCI.1 | exact hk1 | exact hrow.1 | exact w3 | exact hWr.1 | exact h2x | exact hw2.1 | exact hwk2.1 | exact hC3.1 | exact hwk3.1 | fail "lk") rfl (Nat.le_refl _) (Nat.le_refl _) ?_
            refine w_addAllN hwk2 hw2.2.1 (by decide) (by decide) (fun hle h3 hwk3 hF3 => ?_) (fun hlt => ?_)
            · have hC3 := hC.wk hwk3 (hw2.e (fun x x1 x2 => hF3.2 x (by omega))) (fun x x1 x2 => (hF3.2 x (by omega)).trans (hF2x x x1 x2)) (hF3.1.trans hs2z)
              refine z_zne 65 rfl rfl (by omega) (fun _ => ?_) (fun h9 => absurd h9 (by omega))
              refine z_iload 69 rfl rfl rfl ?_
              refine z_iload 70 rfl rfl rfl ?_
              refine z_cs1 73 rfl rfl rfl (Nat.le_refl _) (Nat.le_refl _) ?_
              refine c_lowHalvesOf ?_
              rw [jLh_1 hu2 hu3]
              refine z_bop 74 _ rfl rfl (by first | with_reducible exact zb_0 _ _ | exact zd_0 _ _) ?_
              refine z_istore 75 rfl rfl rfl rfl ?_
              refine z_iinc 78 _ rfl rfl rfl rfl (by first | with_reducible exact zi_1 _ | rfl) ?_
              refine z_goto rfl ?_
              rw [wrA_g (by omega) hy1 hle, if_pos hu1] at hX
              exact ih (a + 2) y.2 (l ++ y.1) y.1 u2 h3 _ (by omega) (by omega) (wr1_ok hG hs y hy1) (wr1_k0 hK0 hy1) hX (hw2.e (fun x x1 x2 => hF3.2 x (by omega))) hwk3 (fun x x1 x2 => (hF3.2 x (by omega)).trans (hF2x x x1 x2)) (hF3.1.trans hs2z)
            · skip
              refine z_zne 65 rfl rfl (by omega) (fun h9 => absurd h9 (by omega)) (fun _ => ?_)
              refine z_push 67 (-6) rfl rfl rfl ?_
              refine z_ireti rfl (Nat.le_refl _) (Nat.le_refl _) ?_
              rw [wrA_f (by omega) hy1 hlt] at hX
              exact q2 hX h2 hCI2 hF2x hs2z
  refine z_in [some (.ref 1), some (.ref o), none, none] (by rfl) rfl rfl rfl ?_
  refine z_aload 1 rfl rfl rfl ?_
  refine z_get 4 rfl rfl (by first | exact c1 | exact hlw.1 | fail "lk") rfl ?_
  refine z_cv0 7 rfl rfl (by first | exact c1 | exact hlw.1 | fail "lk") rfl (Nat.le_refl _) (Nat.le_refl _) ?_
  refine w_clear hlw (fun h1 hw1 hF1 => ?_)
  refine z_push 8 (nI 0) rfl rfl rfl ?_
  refine z_istore 9 rfl rfl rfl rfl ?_
  exact loop (us.length + 1) 0 0 [] l0 u0 h1 _ (by omega) (by omega) (SOk0 _ _) (fun _ => rfl) rfl (hWr0.e (fun x x1 x2 => hF1.2 x (by omega))) hw1 (fun x x1 x2 => hF1.2 x x2) hF1.1
