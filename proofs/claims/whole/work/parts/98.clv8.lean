/-! the class: machines that read, feeding and ending -/
theorem lkFl_p {n : Nat} {bs : List Nat} : ∀ (m k v : Nat), (lkFl n bs m k v).1 = 1 → bs.length < k + m
  | 0, k, v, h => by rw [lkFl] at h; exact absurd h (show ¬ (2 : Nat) = 1 by decide)
  | m + 1, k, v, h => by
    rw [lkFl] at h
    split at h
    · omega
    · split at h
      · split at h
        · exact absurd h (by decide)
        · have := lkFl_p m (k + 1) _ h; omega
      · exact absurd h (by decide)
theorem fwM_4 (b : Nat) : fwM b ≤ 4 := by unfold fwM; (repeat' split) <;> omega
theorem anyB_ex {P : Nat → Bool} : ∀ {n : Nat}, anyB P n = true → ∃ k, k < n ∧ P k = true
  | 0, h => by cases h
  | n + 1, h => by
    rw [anyB] at h
    rcases Bool.or_eq_true _ _ ▸ h with h | h
    · obtain ⟨k, h1, h2⟩ := anyB_ex h
      exact ⟨k, by omega, h2⟩
    · exact ⟨n, by omega, h⟩
theorem lkU_p {hi : Bool} {bs : List Nat} (h : (lkU hi bs).1 = 1) : bs.length ≤ 3 := by
  unfold lkU at h
  revert h
  (repeat' split) <;> intro h <;> first | (exact absurd h (by decide)) | omega
theorem lk_part {K st pn : Nat} {E : List En} {H : List Sh} {bs : List Nat} (hW : TbW E H) (h : (lk K E H st pn bs).1 = 1) : bs.length ≤ 3 := by
  unfold lk at h
  split at h
  · unfold lkF at h
    split at h
    · exact absurd h (by decide)
    · have h1 := lkFl_p _ _ _ h
      have h2 := fwM_4 (bs.getD 0 0)
      omega
  · split at h
    · unfold lkT at h
      generalize (if pn = 4 then st else pn) = due at h
      generalize decide (pn = 4) = fr at h
      rcases e1 : ffd (mtW E due bs) E.length 0 with _ | k
      · rw [e1] at h
        simp only at h
        rcases e2 : (if fr = true then ffd (sQ H due (bs.getD 0 0)) H.length 0 else none) with _ | k
        · rw [e2] at h
          simp only at h
          by_cases h9 : anyB (mtP E due bs) E.length = true
          · obtain ⟨k, hk, h3⟩ := anyB_ex h9
            unfold mtP at h3
            rw [Bool.and_eq_true, decide_eq_true_eq, decide_eq_true_eq] at h3
            have h4 := (hW.2.2.1 k hk).2.2.1
            have h5 := (cmS_le (E := E) (bs := bs) (k := k)).1
            omega
          · rw [if_neg h9] at h
            exact absurd h (by decide)
        · rw [e2] at h
          exact absurd h (show ¬ (3 : Nat) = 1 by decide)
      · rw [e1] at h
        exact absurd h (show ¬ (2 : Nat) = 1 by decide)
    · exact lkU_p h
theorem rdK_end {K rule rs : Nat} {E : List En} {H : List Sh} {last : Bool} (hW : TbW E H) : ∀ (m sr pn : Nat) (ks us : List Nat), ks.length < m → (∀ j, ks.getD j 0 < 256) → sr < 4 → pn ≤ 4 → ∀ sr' pn' ks' us', rdK K E H rule rs last m sr pn ks us = (false, sr', pn', ks', us') → sr' < 4 ∧ pn' ≤ 4 ∧ (∀ j, ks'.getD j 0 < 256) ∧ us'.length ≤ us.length + 2 * ks.length ∧ ks'.length ≤ ks.length ∧ (last = true → ks' = []) ∧ (last = false → ks'.length ≤ 3)
  | 0, _, _, _, _, h, _, _, _, _, _, _, _, _ => by omega
  | m + 1, sr, pn, ks, us, hm, hb, hsr, hpn, sr', pn', ks', us', h => by
    rw [rdK] at h
    split at h
    · rename_i h0
      cases h
      have h1 : ks = [] := List.eq_nil_of_length_eq_zero h0
      subst h1
      exact ⟨hsr, hpn, hb, by omega, Nat.le_refl _, fun _ => rfl, fun _ => by decide⟩
    · rename_i h0
      have hrb := rd1_b (rule := rule) (sg := rs) (last := last) (K := K) (st := sr) (pn := pn) hW hb (show 1 ≤ ks.length by omega) hsr hpn
      split at h
      · rename_i h1
        rw [Prod.mk.injEq, Prod.mk.injEq, Prod.mk.injEq, Prod.mk.injEq] at h
        obtain ⟨h2, h3, h4, h5, h6⟩ := h
        subst h3 h4 h5 h6
        have h7 := of_decide_eq_false h2
        refine ⟨hrb.2.1, hrb.2.2.1, hb, by omega, Nat.le_refl _, fun hl => absurd (hrb.2.2.2.2.2.2 h1 hl).2 h7, fun hl => ?_⟩
        refine lk_part (K := K) (st := sr) (pn := pn) hW ?_
        rcases Nat.decEq (lk K E H sr pn ks).1 1 with h8 | h8
        · exfalso
          unfold rd1 at h1 h7
          rw [if_neg (fun h9 => h8 h9.1)] at h1 h7
          split at h1
          · rename_i h9
            have h10 := lk_b hW hb (show 1 ≤ ks.length by omega) h9
            simp only at h1
            omega
          · rename_i h9
            rw [if_neg h9] at h7
            split at h1
            · split at h1 <;> exact absurd h1 (show ¬ (1 : Nat) = 0 by decide)
            · rename_i h9
              rw [if_neg h9] at h7
              split at h1
              · rename_i h9
                rw [if_pos h9] at h7
                exact h7 rfl
              · exact absurd h1 (show ¬ (1 : Nat) = 0 by decide)
        · exact h8
      · rename_i h1
        have hl : (ks.drop (rd1 K E H rule rs last sr pn ks).1).length = ks.length - (rd1 K E H rule rs last sr pn ks).1 := List.length_drop
        obtain ⟨a1, a2, a3, a4, a5, a6, a7⟩ := rdK_end hW m _ _ _ _ (by omega) (fun j => by rw [getD_drop9]; exact hb _) hrb.2.1 hrb.2.2.1 _ _ _ _ h
        refine ⟨a1, a2, a3, ?_, by omega, a6, a7⟩
        rw [List.length_append, hl] at a4
        omega
set_option maxRecDepth 100000 in
theorem c_Mc_acceptByte {d : Nat} {h : mH} {a R p : Nat} {wr : Bool} {ph : Int32} {rule sr pn sw : Nat} {ks : List Nat} {fed pl fi : Nat} {q9 : List Nat} {K rs ws cnt : Nat} {E : List En} {H : List Sh} {v : Nat} {Q : mP} (hM : McAt h a R p wr ph rule sr pn sw ks fed pl fi q9) (hR : h.2 R = oRu R rs ws cnt) (hP : PgC h p K E H) (hW : TbW E H) (hb : ∀ j, ks.getD j 0 < 256) (hsr : sr < 4) (hpn : pn ≤ 4) (hru : rule < 4) (hrs : rs < 1114112) (hfk : ks.length ≤ fed) (hq9 : q9.length + 8 ≤ 429) (hRa : R + 5 ≤ a) (hpa : p + 20 ≤ a ∨ a + 12 ≤ p) (hk3 : ks.length ≤ 3) (hv : v < 256)  (q0 : ∀ sr' pn' ks' us, rdK K E H rule rs false ((ks ++ [v]).length + 1) sr pn (ks ++ [v]) [] = (false, sr', pn', ks', us) → ∀ h', McAt h' a R p wr ph rule sr' pn' sw ks' (fed + 1) pl fi (q9 ++ us) → Fr a (a + 12) h h' → Q (some (.int (nI (q9.length + us.length)))) h') (q1 : ∀ sr' pn' ks' us, rdK K E H rule rs false ((ks ++ [v]).length + 1) sr pn (ks ++ [v]) [] = (true, sr', pn', ks', us) → ∀ h', McAt h' a R p wr (nI 2) rule sr' 4 sw [] (fed + 1) (fed + 1 - ks'.length) fi (q9 ++ us) → Fr a (a + 12) h h' → Q (some (.int (-9))) h') : mWP (d + 7) 27 [.ref a, .int (nI v)] h Q := by
  obtain ⟨x1, x2, ⟨bl, x3⟩, x4, ⟨mal9, x5⟩, l, u, x6⟩ := id hM
  obtain ⟨k4, kf, k5, k6⟩ := id x2
  refine z_in [some (.ref a), some (.int (nI v))] (by rfl) rfl rfl rfl ?_
  refine z_aload 1 rfl rfl rfl ?_
  refine z_get 4 rfl rfl (by first | exact x1 | exact k5 | exact h1x | exact mg_eq _ _ _ | exact hc2 | fail "lk") rfl ?_
  refine z_push 5 (nI 4) rfl rfl rfl ?_
  refine z_nge 8 rfl rfl (by omega) (by omega) (fun h9 => absurd h9 (by omega)) (fun _ => ?_)
  refine z_aload 9 rfl rfl rfl ?_
  refine z_get 12 rfl rfl (by first | exact x1 | exact k5 | exact h1x | exact mg_eq _ _ _ | exact hc2 | fail "lk") rfl ?_
  refine z_aload 13 rfl rfl rfl ?_
  refine z_get 16 rfl rfl (by first | exact x1 | exact k5 | exact h1x | exact mg_eq _ _ _ | exact hc2 | fail "lk") rfl ?_
  refine z_iload 17 rfl rfl rfl ?_
  refine z_ast 18 rfl rfl (by first | exact x1 | exact k5 | exact h1x | exact mg_eq _ _ _ | exact hc2 | fail "lk") rfl (by omega) (by omega) ?_
  refine z_ab (a + 1) (aI 4 (upd kf ks.length (nI v))) h (mg_eq _ _ _) (fun x hx => by simp only [mSet, if_neg hx]) rfl (fun h1 hc1 kh1 zh1 => ?_)
  have h1x := (kh1 a (by omega)).trans x1
  refine z_aload 19 rfl rfl rfl ?_
  first | refine z_dup 20 rfl rfl ?_ | refine z_dupi 20 rfl rfl ?_
  refine z_get 23 rfl rfl (by first | exact x1 | exact k5 | exact h1x | exact mg_eq _ _ _ | exact hc2 | fail "lk") rfl ?_
  refine z_push 24 (nI 1) rfl rfl rfl ?_
  refine z_bop 25 _ rfl rfl (by first | with_reducible exact zb_0 _ _ | exact zd_0 _ _) ?_
  refine z_put 28 rfl rfl (by first | exact x1 | exact k5 | exact h1x | exact mg_eq _ _ _ | exact hc2 | fail "lk") rfl (mFi rfl) ?_
  refine z_aload 29 rfl rfl rfl ?_
  first | refine z_dup 30 rfl rfl ?_ | refine z_dupi 30 rfl rfl ?_
  refine z_get 33 rfl rfl (by first | exact x1 | exact k5 | exact h1x | exact mg_eq _ _ _ | exact hc2 | fail "lk") rfl ?_
  refine z_push 34 (nI 1) rfl rfl rfl ?_
  refine z_bop 35 _ rfl rfl (by first | with_reducible exact zb_0 _ _ | exact zd_0 _ _) ?_
  refine z_put 38 rfl rfl (by first | exact x1 | exact k5 | exact h1x | exact mg_eq _ _ _ | exact hc2 | fail "lk") rfl (mFi rfl) ?_
  refine z_ab a (oMc a wr ph (ks.length + 1) (fed + 1) pl fi q9.length) h1 (mg_eq _ _ _) (fun x hx => by simp only [mSet, if_neg hx]) rfl (fun h2 hc2 kh2 zh2 => ?_)
  refine z_aload 39 rfl rfl rfl ?_
  refine z_push 40 (nI 0) rfl rfl rfl ?_
  refine z_cv1 43 rfl rfl (by first | exact x1 | exact k5 | exact h1x | exact mg_eq _ _ _ | exact hc2 | fail "lk") rfl (Nat.le_refl _) (Nat.le_refl _) ?_
  have hl1 : (ks ++ [v]).length = ks.length + 1 := List.length_append
  refine c_Mc_readKept (last := false) (ks9 := ks ++ [v]) (sr9 := sr) (pn9 := pn) (wr := wr) (ph := ph) (fed := fed + 1) (pl := pl) (fi := fi) (q9 := q9) (sw := sw) (rule := rule) (p := p) (R := R) (K := K) (E := E) (H := H) (rs := rs) (ws := ws) (cnt := cnt) ⟨by rw [hl1]; exact hc2, ⟨by omega, _, (kh2 _ (by omega)).trans hc1, fun j hj => ?_⟩, ⟨bl, x3.e (fun y y1 y2 => (kh2 y (by omega)).trans (kh1 y (by omega)))⟩, x4.e ((kh2 _ (by omega)).trans (kh1 _ (by omega))), ⟨mal9, x5.e (fun y y1 y2 => (kh2 y (by omega)).trans (kh1 y (by omega)))⟩, l, u, x6.e (fun y y1 y2 => (kh2 y (by omega)).trans (kh1 y (by omega)))⟩ ((kh2 R (by omega)).trans ((kh1 R (by omega)).trans hR)) (hP.e (fun y y1 y2 => (kh2 y (by omega)).trans (kh1 y (by omega)))) hW (getD_apb9 hb hv) hsr hpn hru hrs (by omega) hq9 hRa hpa (fun sr' pn' ks' us hX h3 hM3 hF3 => ?_) (fun sr' pn' ks' us hX h3 hM3 hF3 => ?_)
  · unfold upd
    rw [getD_one (by omega)]
    by_cases e : j = ks.length
    · rw [if_pos e, if_pos e]
    · rw [if_neg e, if_neg e]; exact k6 j (by omega)
  · skip
    refine z_ireti rfl (Nat.le_refl _) (Nat.le_refl _) ?_
    exact q0 _ _ _ _ hX h3 hM3 ⟨hF3.1.trans (zh2.trans zh1), fun x hx => (hF3.2 x hx).trans ((kh2 x (by omega)).trans (kh1 x (by omega)))⟩
  · skip
    refine z_ireti rfl (Nat.le_refl _) (Nat.le_refl _) ?_
    exact q1 _ _ _ _ hX h3 hM3 ⟨hF3.1.trans (zh2.trans zh1), fun x hx => (hF3.2 x hx).trans ((kh2 x (by omega)).trans (kh1 x (by omega)))⟩
set_option maxRecDepth 100000 in
theorem c_Mc_endBytes {d : Nat} {h : mH} {a R p : Nat} {wr : Bool} {ph : Int32} {rule sr pn sw : Nat} {ks : List Nat} {fed pl fi : Nat} {q9 : List Nat} {K rs ws cnt : Nat} {E : List En} {H : List Sh} {Q : mP} (hM : McAt h a R p wr ph rule sr pn sw ks fed pl fi q9) (hR : h.2 R = oRu R rs ws cnt) (hP : PgC h p K E H) (hW : TbW E H) (hb : ∀ j, ks.getD j 0 < 256) (hsr : sr < 4) (hpn : pn ≤ 4) (hru : rule < 4) (hrs : rs < 1114112) (hfk : ks.length ≤ fed) (hq9 : q9.length + 8 ≤ 429) (hRa : R + 5 ≤ a) (hpa : p + 20 ≤ a ∨ a + 12 ≤ p)  (q0 : ∀ sr' pn' ks' us, rdK K E H rule rs true (ks.length + 1) sr pn ks [] = (false, sr', pn', ks', us) → ∀ h', McAt h' a R p wr (nI 1) rule sr' 4 sw [] fed pl fi (q9 ++ us) → Fr a (a + 12) h h' → Q (some (.int (nI (q9.length + us.length)))) h') (q1 : ∀ sr' pn' ks' us, rdK K E H rule rs true (ks.length + 1) sr pn ks [] = (true, sr', pn', ks', us) → ∀ h', McAt h' a R p wr (nI 2) rule sr' 4 sw [] fed (fed - ks'.length) fi (q9 ++ us) → Fr a (a + 12) h h' → Q (some (.int (-9))) h') : mWP (d + 7) 28 [.ref a] h Q := by
  obtain ⟨x1, x2, ⟨bl, x3⟩, x4, ⟨mal9, x5⟩, l, u, x6⟩ := id hM
  have hk4 := x2.1
  refine z_in [some (.ref a), none] (by rfl) rfl rfl rfl ?_
  refine z_aload 1 rfl rfl rfl ?_
  refine z_push 2 (nI 1) rfl rfl rfl ?_
  refine z_cv1 5 rfl rfl (by first | exact x1 | exact hm3 | exact hc4 | exact hr4 | fail "lk") rfl (Nat.le_refl _) (Nat.le_refl _) ?_
  refine c_Mc_readKept (last := true) hM hR hP hW hb hsr hpn hru hrs hfk hq9 hRa hpa (fun sr' pn' ks' us hX h3 hM3 hF3 => ?_) (fun sr' pn' ks' us hX h3 hM3 hF3 => ?_)
  · have hz := hM3.2.2.2.1.2.1
    rw [List.length_append] at hz
    refine z_istore 6 rfl rfl rfl rfl ?_
    refine z_iload 7 rfl rfl rfl ?_
    refine z_zlt 10 rfl rfl (by omega) (fun h9 => absurd h9 (by omega)) (fun _ => ?_)
    obtain ⟨y1, y2, ⟨bl3, y3⟩, y4, ⟨mal3, y5⟩, l3, u3, y6⟩ := id hM3
    have hm3 := y1
    obtain ⟨e1, e2, e3, e4, e5, e6, e7⟩ := rdK_end hW _ _ _ _ _ (Nat.lt_succ_self _) hb hsr hpn _ _ _ _ hX
    have e8 := e6 rfl
    subst e8
    refine z_aload 11 rfl rfl rfl ?_
    refine z_push 12 (nI 1) rfl rfl rfl ?_
    refine z_put 15 rfl rfl (by first | exact x1 | exact hm3 | exact hc4 | exact hr4 | fail "lk") rfl (mFi rfl) ?_
    refine z_ab a (oMc a wr (nI 1) 0 fed pl fi (q9 ++ us).length) h3 (mg_eq _ _ _) (fun x hx => by simp only [mSet, if_neg hx]) rfl (fun h4 hc4 kh4 zh4 => ?_)
    have hr4 := (y5.e (h' := h4) (fun y z1 z2 => kh4 y (by omega))).1
    refine z_aload 16 rfl rfl rfl ?_
    refine z_get 19 rfl rfl (by first | exact x1 | exact hm3 | exact hc4 | exact hr4 | fail "lk") rfl ?_
    refine z_push 20 (nI 4) rfl rfl rfl ?_
    refine z_put 23 rfl rfl (by first | exact x1 | exact hm3 | exact hc4 | exact hr4 | fail "lk") rfl (mFi rfl) ?_
    refine z_ab (a + 5) (oRd R (a + 6) p rule sr' 4 mal3) h4 (mg_eq _ _ _) (fun x hx => by simp only [mSet, if_neg hx]) rfl (fun h5 hc5 kh5 zh5 => ?_)
    refine z_iload 24 rfl rfl rfl ?_
    refine z_ireti rfl (Nat.le_refl _) (Nat.le_refl _) ?_
    exact q0 _ _ _ _ hX h5 ⟨(kh5 _ (by omega)).trans hc4, y2.e ((kh5 _ (by omega)).trans (kh4 _ (by omega))), ⟨bl3, y3.e (fun y z1 z2 => (kh5 y (by omega)).trans (kh4 y (by omega)))⟩, y4.e ((kh5 _ (by omega)).trans (kh4 _ (by omega))), ⟨mal3, hc5, y5.2.e ((kh5 _ (by omega)).trans (kh4 _ (by omega)))⟩, l3, u3, y6.e (fun y z1 z2 => (kh5 y (by omega)).trans (kh4 y (by omega)))⟩ ⟨zh5.trans (zh4.trans hF3.1), fun x hx => (kh5 x (by omega)).trans ((kh4 x (by omega)).trans (hF3.2 x hx))⟩
  · skip
    refine z_istore 6 rfl rfl rfl rfl ?_
    refine z_iload 7 rfl rfl rfl ?_
    refine z_jlt 10 rfl rfl (fun _ => ?_) (fun h9 => absurd h9 (by decide))
    refine z_iload 24 rfl rfl rfl ?_
    refine z_ireti rfl (Nat.le_refl _) (Nat.le_refl _) ?_
    exact q1 _ _ _ _ hX h3 hM3 hF3
