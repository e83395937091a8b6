/-! the class: Page.isGood, its rules -/
set_option maxRecDepth 100000 in
theorem c_clashes {d : Nat} {h : mH} {p m rc : Nat} {c : Bool} {E : List En} {H : List Sh} {y : Nat} {fy : Nat → Int32} {Q : mP} (hp : h.2 p = oPg 0 c p m rc) (hEA : EnA h (p + 6) 100 E) (hSA : ShA h (p + 12) 10 H) (hW : TbW E H) (hy : h.2 y = aI 3 fy)  (q0 : gd1 E H (E.length + H.length) 0 = none → Q (some (.int (nI 0))) h) (q1 : ∀ x, gd1 E H (E.length + H.length) 0 = some x → ∀ h', NoAt h' y 1 (itO E x.1) (itO E x.2) → Fr y (y + 1) h h' → Q (some (.int (nI 1))) h') : mWP (d + 3) 36 [.ref p, .ref y] h Q := by
  obtain ⟨hE0, s9, t9, n9, p9, f9, hE, hEF⟩ := id hEA
  obtain ⟨hH0, sS, vS, gS9, kS, hS, hSF⟩ := id hSA
  have hE1 := hW.1
  have hH1 := hW.2.1
  have outer : ∀ m9 i o4, (E.length + H.length) < i + m9 → i ≤ (E.length + H.length) → gd1 E H (E.length + H.length) 0 = gd1 E H ((E.length + H.length) - i) i → mZ (d + 2) tk_36 0 0 Q 18 [some (.ref p), some (.ref y), some (.int (nI (E.length + H.length))), some (.int (nI i)), o4] [] h 0 0 := by
    intro m9
    induction m9 with
    | zero => intro i o4 h1 h2; omega
    | succ m9 ih =>
      intro i o4 h1 h2 hg
      have inner : ∀ m8 k, i < (E.length + H.length) → (E.length + H.length) < k + m8 → k ≤ (E.length + H.length) → i < k → ffd (clh E H i) ((E.length + H.length) - (i + 1)) (i + 1) = ffd (clh E H i) ((E.length + H.length) - k) k → mZ (d + 2) tk_36 0 0 Q 28 [some (.ref p), some (.ref y), some (.int (nI (E.length + H.length))), some (.int (nI i)), some (.int (nI k))] [] h 0 0 := by
        intro m8
        induction m8 with
        | zero => intro k _ h1 h2; omega
        | succ m8 ih8 =>
          intro k hin h3 h4 h5 hf
          refine z_iload 30 rfl rfl rfl ?_
          refine z_iload 31 rfl rfl rfl ?_
          refine z_nge 34 rfl rfl (by omega) (by omega) (fun hc31 => ?_) (fun hc31 => ?_)
          · refine z_iinc 70 _ rfl rfl rfl rfl (by first | with_reducible exact zi_1 _ | rfl) ?_
            refine z_goto rfl ?_
            obtain rfl : k = (E.length + H.length) := by omega
            refine ih (i + 1) _ (by omega) (by omega) ?_
            rw [hg, gd1_s hin, hf, Nat.sub_self]
            rfl
          · refine z_aload 35 rfl rfl rfl ?_
            refine z_iload 36 rfl rfl rfl ?_
            refine z_iload 38 rfl rfl rfl ?_
            refine z_cv2 41 rfl rfl (by first | exact hp | exact hy | fail "lk") rfl (Nat.le_refl _) (Nat.le_refl _) ?_
            refine c_clash hp hEA hSA hW hin (by omega) ?_
            first | refine z_beq 44 rfl rfl (fun hc41 => ?_) (fun hc41 => ?_)
            · refine z_iinc 64 _ rfl rfl rfl rfl (by first | with_reducible exact zi_1 _ | rfl) ?_
              refine z_goto rfl ?_
              exact ih8 (k + 1) hin (by omega) (by omega) (by omega) (by rw [hf, ffd_no (by omega) hc41])
            · refine z_aload 45 rfl rfl rfl ?_
              refine z_push 46 (nI 1) rfl rfl rfl ?_
              refine z_aload 47 rfl rfl rfl ?_
              refine z_iload 48 rfl rfl rfl ?_
              refine z_cv1 51 rfl rfl (by first | exact hp | exact hy | fail "lk") rfl (Nat.le_refl _) (Nat.le_refl _) ?_
              refine c_numberOf hp hEA hSA hin ?_
              refine z_aload 52 rfl rfl rfl ?_
              refine z_iload 54 rfl rfl rfl ?_
              refine z_cv1 57 rfl rfl (by first | exact hp | exact hy | fail "lk") rfl (Nat.le_refl _) (Nat.le_refl _) ?_
              refine c_numberOf hp hEA hSA (by omega) ?_
              refine z_cs4 60 rfl rfl rfl (Nat.le_refl _) (Nat.le_refl _) ?_
              refine c_note hy (fun h2 hn hF => ?_)
              refine z_iretb rfl (Nat.le_refl _) (Nat.le_refl _) (by first | decide | exact bI_01 _) ?_
              exact q1 (i, k) (by rw [hg, gd1_s hin, hf, ffd_yes (by omega) hc41]) h2 hn hF
      refine z_iload 19 rfl rfl rfl ?_
      refine z_iload 20 rfl rfl rfl ?_
      refine z_nge 23 rfl rfl (by omega) (by omega) (fun hc20 => ?_) (fun hc20 => ?_)
      · refine z_push 74 (nI 0) rfl rfl rfl ?_
        refine z_iretb rfl (Nat.le_refl _) (Nat.le_refl _) (by first | decide | exact bI_01 _) ?_
        exact q0 (by rw [hg, show (E.length + H.length) - i = 0 by omega]; rfl)
      · refine z_iload 24 rfl rfl rfl ?_
        refine z_push 25 (nI 1) rfl rfl rfl ?_
        refine z_bop 26 _ rfl rfl (by first | with_reducible exact zb_0 _ _ | exact zd_0 _ _) ?_
        refine z_istore 28 rfl rfl rfl rfl ?_
        exact inner ((E.length + H.length) + 1) (i + 1) (by omega) (by omega) (by omega) (by omega) rfl
  refine z_in [some (.ref p), some (.ref y), none, none, none] (by rfl) rfl rfl rfl ?_
  refine z_aload 1 rfl rfl rfl ?_
  refine z_get 4 rfl rfl (by first | exact hp | exact hE.1 | exact hE.2.1 | exact hE.2.2.1 | exact hE.2.2.2.1 | exact hE.2.2.2.2.1 | exact hE.2.2.2.2.2 | exact hS.1 | exact hS.2.1 | exact hS.2.2.1 | exact hS.2.2.2.1 | exact hS.2.2.2.2 | exact hy | fail "lk") rfl ?_
  refine z_get 7 rfl rfl (by first | exact hp | exact hE.1 | exact hE.2.1 | exact hE.2.2.1 | exact hE.2.2.2.1 | exact hE.2.2.2.2.1 | exact hE.2.2.2.2.2 | exact hS.1 | exact hS.2.1 | exact hS.2.2.1 | exact hS.2.2.2.1 | exact hS.2.2.2.2 | exact hy | fail "lk") rfl ?_
  refine z_aload 8 rfl rfl rfl ?_
  refine z_get 11 rfl rfl (by first | exact hp | exact hE.1 | exact hE.2.1 | exact hE.2.2.1 | exact hE.2.2.2.1 | exact hE.2.2.2.2.1 | exact hE.2.2.2.2.2 | exact hS.1 | exact hS.2.1 | exact hS.2.2.1 | exact hS.2.2.2.1 | exact hS.2.2.2.2 | exact hy | fail "lk") rfl ?_
  refine z_get 14 rfl rfl (by first | exact hp | exact hE.1 | exact hE.2.1 | exact hE.2.2.1 | exact hE.2.2.2.1 | exact hE.2.2.2.2.1 | exact hE.2.2.2.2.2 | exact hS.1 | exact hS.2.1 | exact hS.2.2.1 | exact hS.2.2.2.1 | exact hS.2.2.2.2 | exact hy | fail "lk") rfl ?_
  refine z_bop 15 _ rfl rfl (by first | with_reducible exact zb_0 _ _ | exact zd_0 _ _) ?_
  refine z_istore 16 rfl rfl rfl rfl ?_
  refine z_push 17 (nI 0) rfl rfl rfl ?_
  refine z_istore 18 rfl rfl rfl rfl ?_
  exact outer ((E.length + H.length) + 1) 0 _ (by omega) (by omega) (by rw [Nat.sub_zero])
def loN (o : Option Nat) : Nat := o.getD 1114112
theorem pfP_pf2 {E : List En} {s t n p : Nat → Nat} {f : Nat → Bool} {pt : Nat} (hF : EnF E s t n p f) (hpb : ∀ k, k < E.length → enP E k < 2 ^ 31) (hpt : pt < 2 ^ 31) : cnt9 (pfP (fun j => nI (p j)) f (nI pt)) E.length = cnt9 (pf2 E pt) E.length := by
  refine cnt9_congr (fun j hj => ?_)
  obtain ⟨h1, h2, h3, h4, h5⟩ := hF j hj
  unfold pfP pf2
  show (decide (nI (p j) = nI pt) && f j) = _
  rw [h4, h5]
  congr 1
  refine decide_eq_decide.mpr ⟨fun h => ?_, fun h => by rw [h]⟩
  have h8 := congrArg Int32.toInt h
  rw [nI_toInt (hpb j hj), nI_toInt hpt] at h8
  omega
set_option maxRecDepth 100000 in
theorem c_isUnsure {d : Nat} {h : mH} {p m rc : Nat} {c : Bool} {E : List En} {H : List Sh} {y : Nat} {fy : Nat → Int32} {Q : mP} (hp : h.2 p = oPg 0 c p m rc) (hEA : EnA h (p + 6) 100 E) (hSA : ShA h (p + 12) 10 H) (hW : TbW E H) (hy : h.2 y = aI 3 fy)  (q0 : gd2 E E.length 0 none = none → Q (some (.int (nI 0))) h) (q1 : ∀ x, gd2 E E.length 0 none = some x → ∀ h', NoAt h' y 2 x 0 → Fr y (y + 1) h h' → Q (some (.int (nI 1))) h') : mWP (d + 2) 42 [.ref p, .ref y] h Q := by
  obtain ⟨hE0, s9, t9, n9, p9, f9, hE, hEF⟩ := id hEA
  obtain ⟨hH0, sS, vS, gS9, kS, hS, hSF⟩ := id hSA
  have hE1 := hW.1
  have hpb : ∀ k, k < E.length → enP E k < 1114112 := fun k hk => nPt_lt (hW.2.2.1 k hk).2.2.2.2
  have loop : ∀ m9 i ob, E.length < i + m9 → i ≤ E.length → (∀ x, ob = some x → x < 1114112) → gd2 E E.length 0 none = gd2 E (E.length - i) i ob → mZ (d + 1) tk_42 0 0 Q 5 [some (.ref p), some (.ref y), some (.int (nI (loN ob))), some (.int (nI i))] [] h 0 0 := by
    intro m9
    induction m9 with
    | zero => intro i ob h1 h2; omega
    | succ m9 ih =>
      intro i ob h1 h2 hob hg
      have hlo : loN ob ≤ 1114112 := by
        rcases ob with _ | x
        · exact Nat.le_refl _
        · have := hob x rfl; show x ≤ 1114112; omega
      refine z_iload 6 rfl rfl rfl ?_
      refine z_aload 7 rfl rfl rfl ?_
      refine z_get 10 rfl rfl (by first | exact hp | exact hE.1 | exact hE.2.1 | exact hE.2.2.1 | exact hE.2.2.2.1 | exact hE.2.2.2.2.1 | exact hE.2.2.2.2.2 | exact hS.1 | exact hS.2.1 | exact hS.2.2.1 | exact hS.2.2.2.1 | exact hS.2.2.2.2 | exact hy | fail "lk") rfl ?_
      refine z_get 13 rfl rfl (by first | exact hp | exact hE.1 | exact hE.2.1 | exact hE.2.2.1 | exact hE.2.2.2.1 | exact hE.2.2.2.2.1 | exact hE.2.2.2.2.2 | exact hS.1 | exact hS.2.1 | exact hS.2.2.1 | exact hS.2.2.2.1 | exact hS.2.2.2.2 | exact hy | fail "lk") rfl ?_
      refine z_nge 16 rfl rfl (by omega) (by omega) (fun hc13 => ?_) (fun hc13 => ?_)
      · refine z_iload 66 rfl rfl rfl ?_
        refine z_push 68 (nI 1114112) rfl rfl rfl ?_
        refine z_nge 71 rfl rfl (by omega) (by omega) (fun hc68 => ?_) (fun hc68 => ?_)
        · refine z_push 86 (nI 0) rfl rfl rfl ?_
          refine z_iretb rfl (Nat.le_refl _) (Nat.le_refl _) (by first | decide | exact bI_01 _) ?_
          have hn9 : ob = none := by
            rcases ob with _ | x
            · rfl
            · have h9 := hob x rfl; have h8 : 1114112 ≤ x := hc68; omega
          exact q0 (by rw [hg, show E.length - i = 0 by omega, hn9]; rfl)
        · refine z_aload 72 rfl rfl rfl ?_
          refine z_push 73 (nI 2) rfl rfl rfl ?_
          refine z_iload 74 rfl rfl rfl ?_
          refine z_push 75 (nI 0) rfl rfl rfl ?_
          refine z_cs4 78 rfl rfl rfl (Nat.le_refl _) (Nat.le_refl _) ?_
          refine c_note hy (fun h2 hn hF => ?_)
          · 
            refine z_zeq 81 rfl rfl (by omega) (fun h9 => absurd h9 (by omega)) (fun _ => ?_)
            refine z_push 82 (nI 1) rfl rfl rfl ?_
            refine z_goto rfl ?_
            refine z_iretb rfl (Nat.le_refl _) (Nat.le_refl _) (by first | decide | exact bI_01 _) ?_
            obtain ⟨x, rfl⟩ : ∃ x, ob = some x := by
              rcases ob with _ | x
              · exact absurd (show (1114112 : Nat) < 1114112 from hc68) (by omega)
              · exact ⟨x, rfl⟩
            exact q1 x (by rw [hg, show E.length - i = 0 by omega]; rfl) h2 hn hF
      · have hpi := hpb i (by omega)
        have hcl := cnt9_le (pf2 E (enP E i)) E.length
        have he4 := (hEF i (by omega)).2.2.2.1
        refine z_aload 17 rfl rfl rfl ?_
        refine z_get 20 rfl rfl (by first | exact hp | exact hE.1 | exact hE.2.1 | exact hE.2.2.1 | exact hE.2.2.2.1 | exact hE.2.2.2.2.1 | exact hE.2.2.2.2.2 | exact hS.1 | exact hS.2.1 | exact hS.2.2.1 | exact hS.2.2.2.1 | exact hS.2.2.2.2 | exact hy | fail "lk") rfl ?_
        refine z_get 23 rfl rfl (by first | exact hp | exact hE.1 | exact hE.2.1 | exact hE.2.2.1 | exact hE.2.2.2.1 | exact hE.2.2.2.2.1 | exact hE.2.2.2.2.2 | exact hS.1 | exact hS.2.1 | exact hS.2.2.1 | exact hS.2.2.2.1 | exact hS.2.2.2.2 | exact hy | fail "lk") rfl ?_
        refine z_iload 24 rfl rfl rfl ?_
        refine z_ald 25 rfl rfl (by first | exact hp | exact hE.1 | exact hE.2.1 | exact hE.2.2.1 | exact hE.2.2.2.1 | exact hE.2.2.2.2.1 | exact hE.2.2.2.2.2 | exact hS.1 | exact hS.2.1 | exact hS.2.2.1 | exact hS.2.2.2.1 | exact hS.2.2.2.2 | exact hy | fail "lk") rfl (by omega) (by omega) ?_
        simp only [he4]
        refine z_iload 26 rfl rfl rfl ?_
        refine z_nge 29 rfl rfl (by omega) (by omega) (fun hc26 => ?_) (fun hc26 => ?_)
        · refine z_iinc 62 _ rfl rfl rfl rfl (by first | with_reducible exact zi_1 _ | rfl) ?_
          refine z_goto rfl ?_
          refine ih (i + 1) ob (by omega) (by omega) hob ?_
          rw [hg, gd2_s (by omega)]
          congr 1
          unfold ls2
          rcases ob with _ | x
          · exact absurd (show 1114112 ≤ enP E i from hc26) (by omega)
          · have h9 : x ≤ enP E i := hc26
            split
            · rfl
            · simp only []; rw [if_neg (by omega)]
        · refine z_aload 30 rfl rfl rfl ?_
          refine z_get 33 rfl rfl (by first | exact hp | exact hE.1 | exact hE.2.1 | exact hE.2.2.1 | exact hE.2.2.2.1 | exact hE.2.2.2.2.1 | exact hE.2.2.2.2.2 | exact hS.1 | exact hS.2.1 | exact hS.2.2.1 | exact hS.2.2.2.1 | exact hS.2.2.2.2 | exact hy | fail "lk") rfl ?_
          refine z_aload 34 rfl rfl rfl ?_
          refine z_get 37 rfl rfl (by first | exact hp | exact hE.1 | exact hE.2.1 | exact hE.2.2.1 | exact hE.2.2.2.1 | exact hE.2.2.2.2.1 | exact hE.2.2.2.2.2 | exact hS.1 | exact hS.2.1 | exact hS.2.2.1 | exact hS.2.2.2.1 | exact hS.2.2.2.2 | exact hy | fail "lk") rfl ?_
          refine z_get 40 rfl rfl (by first | exact hp | exact hE.1 | exact hE.2.1 | exact hE.2.2.1 | exact hE.2.2.2.1 | exact hE.2.2.2.2.1 | exact hE.2.2.2.2.2 | exact hS.1 | exact hS.2.1 | exact hS.2.2.1 | exact hS.2.2.2.1 | exact hS.2.2.2.2 | exact hy | fail "lk") rfl ?_
          refine z_iload 41 rfl rfl rfl ?_
          refine z_ald 42 rfl rfl (by first | exact hp | exact hE.1 | exact hE.2.1 | exact hE.2.2.1 | exact hE.2.2.2.1 | exact hE.2.2.2.2.1 | exact hE.2.2.2.2.2 | exact hS.1 | exact hS.2.1 | exact hS.2.2.1 | exact hS.2.2.2.1 | exact hS.2.2.2.2 | exact hy | fail "lk") rfl (by omega) (by omega) ?_
          simp only [he4]
          refine z_cv1 45 rfl rfl (by first | exact hp | exact hE.1 | exact hE.2.1 | exact hE.2.2.1 | exact hE.2.2.2.1 | exact hE.2.2.2.2.1 | exact hE.2.2.2.2.2 | exact hS.1 | exact hS.2.1 | exact hS.2.2.1 | exact hS.2.2.2.1 | exact hS.2.2.2.2 | exact hy | fail "lk") rfl (Nat.le_refl _) (Nat.le_refl _) ?_
          refine c_Ent_preferredOf hE (by decide) (by omega) ?_
          rw [pfP_pf2 hEF (fun k hk => by have := hpb k hk; omega) (by omega)]
          refine z_push 46 (nI 1) rfl rfl rfl ?_
          refine z_neq 49 rfl rfl (by omega) (by omega) (fun hc46 => ?_) (fun hc46 => ?_)
          · refine z_iinc 62 _ rfl rfl rfl rfl (by first | with_reducible exact zi_1 _ | rfl) ?_
            refine z_goto rfl ?_
            exact ih (i + 1) ob (by omega) (by omega) hob (by rw [hg, gd2_s (by omega)]; congr 1; unfold ls2; rw [if_pos (by omega)])
          · refine z_aload 50 rfl rfl rfl ?_
            refine z_get 53 rfl rfl (by first | exact hp | exact hE.1 | exact hE.2.1 | exact hE.2.2.1 | exact hE.2.2.2.1 | exact hE.2.2.2.2.1 | exact hE.2.2.2.2.2 | exact hS.1 | exact hS.2.1 | exact hS.2.2.1 | exact hS.2.2.2.1 | exact hS.2.2.2.2 | exact hy | fail "lk") rfl ?_
            refine z_get 56 rfl rfl (by first | exact hp | exact hE.1 | exact hE.2.1 | exact hE.2.2.1 | exact hE.2.2.2.1 | exact hE.2.2.2.2.1 | exact hE.2.2.2.2.2 | exact hS.1 | exact hS.2.1 | exact hS.2.2.1 | exact hS.2.2.2.1 | exact hS.2.2.2.2 | exact hy | fail "lk") rfl ?_
            refine z_iload 57 rfl rfl rfl ?_
            refine z_ald 58 rfl rfl (by first | exact hp | exact hE.1 | exact hE.2.1 | exact hE.2.2.1 | exact hE.2.2.2.1 | exact hE.2.2.2.2.1 | exact hE.2.2.2.2.2 | exact hS.1 | exact hS.2.1 | exact hS.2.2.1 | exact hS.2.2.2.1 | exact hS.2.2.2.2 | exact hy | fail "lk") rfl (by omega) (by omega) ?_
            simp only [he4]
            refine z_istore 59 rfl rfl rfl rfl ?_
            refine z_iinc 62 _ rfl rfl rfl rfl (by first | with_reducible exact zi_1 _ | rfl) ?_
            refine z_goto rfl ?_
            refine ih (i + 1) (some (enP E i)) (by omega) (by omega) (fun x hx => by cases hx; exact hpi) ?_
            rw [hg, gd2_s (by omega)]
            congr 1
            unfold ls2
            rw [if_neg (by omega)]
            rcases ob with _ | x
            · rfl
            · have h9 : enP E i < x := hc26
              simp only []; rw [if_pos h9]
  refine z_in [some (.ref p), some (.ref y), none, none] (by rfl) rfl rfl rfl ?_
  refine z_push 2 (nI 1114112) rfl rfl rfl ?_
  refine z_istore 3 rfl rfl rfl rfl ?_
  refine z_push 4 (nI 0) rfl rfl rfl ?_
  refine z_istore 5 rfl rfl rfl rfl ?_
  exact loop (E.length + 1) 0 none (by omega) (by omega) (fun x hx => by cases hx) (by rw [Nat.sub_zero])
theorem stk_b : ∀ r, r < 16 → ∀ q, q < 16 → ∀ s, s < 4 → mBop 3 (mBop 7 (mBop 3 (nI r) (mBop 5 (nI q) (-1))) (nI s)) (nI 1) = nI (if (r.testBit s && !q.testBit s) = true then 1 else 0) := by decide +kernel
theorem cut_b : ∀ r, r < 16 → ∀ q, q < 16 → ∀ s, s < 4 → mBop 3 (mBop 7 (mBop 4 (nI r) (nI q)) (nI s)) (nI 1) = nI (if (r.testBit s || q.testBit s) = true then 1 else 0) := by decide +kernel
theorem rch_eq {H : List Sh} {s v g : Nat → Nat} {k : Nat → Bool} (hG : ∀ k, k < H.length → shS H k < 4 ∧ shG H k < 4) (hF : ShF H s v g k) : rcK s g k H.length 3 1 = rchd H := by
  rw [rchd, rcK_34 (by decide) (by decide) (fun k hk => (hG k hk).1) (fun k hk => (hG k hk).2)]
  exact rcK_congr (fun i hi => ⟨(hF i hi).1, (hF i hi).2.2.1, (hF i hi).2.2.2⟩) 3 1
theorem hm_eq2 {H : List Sh} {s v g : Nat → Nat} {k : Nat → Bool} (hG : ∀ k, k < H.length → shS H k < 4 ∧ shG H k < 4) (hF : ShF H s v g k) {t : Nat} (ht : t < 4) : (rcK g s k H.length 3 1).testBit t = hmS H t := by
  rw [hmS, ← hm_eq (fun k hk => (hG k hk).1) (fun k hk => (hG k hk).2) ht, rcK_congr (fun i hi => ⟨(hF i hi).2.2.1, (hF i hi).1, (hF i hi).2.2.2⟩) 3 1]
set_option maxRecDepth 100000 in
theorem c_isStuck {d : Nat} {h : mH} {p m rc : Nat} {c : Bool} {E : List En} {H : List Sh} {y : Nat} {fy : Nat → Int32} {Q : mP} (hp : h.2 p = oPg 0 c p m rc) (hEA : EnA h (p + 6) 100 E) (hSA : ShA h (p + 12) 10 H) (hW : TbW E H) (hy : h.2 y = aI 3 fy)  (q0 : ffd (gd3P H) 4 0 = none → Q (some (.int (nI 0))) h) (q1 : ∀ x, ffd (gd3P H) 4 0 = some x → ∀ h', NoAt h' y 3 x 0 → Fr y (y + 1) h h' → Q (some (.int (nI 1))) h') : mWP (d + 2) 43 [.ref p, .ref y] h Q := by
  obtain ⟨hE0, s9, t9, n9, p9, f9, hE, hEF⟩ := id hEA
  obtain ⟨hH0, sS, vS, gS9, kS, hS, hSF⟩ := id hSA
  have hs4 : ∀ j, j < H.length → sS j < 4 := fun j hj => by rw [(hSF j hj).1]; exact (hW.2.2.2 j hj).1
  have hg4 : ∀ j, j < H.length → gS9 j < 4 := fun j hj => by rw [(hSF j hj).2.2.1]; exact (hW.2.2.2 j hj).2.2.1
  have hG : ∀ k, k < H.length → shS H k < 4 ∧ shG H k < 4 := fun k hk => ⟨(hW.2.2.2 k hk).1, (hW.2.2.2 k hk).2.2.1⟩
  have hr16 := rcK_lt (s := sS) (kf := kS) (c := H.length) hg4 3 (show 1 < 16 by decide)
  have hq16 := rcK_lt (s := gS9) (g := sS) (kf := kS) (c := H.length) hs4 3 (show 1 < 16 by decide)
  have loop : ∀ m9 i, 4 < i + m9 → i ≤ 4 → ffd (gd3P H) 4 0 = ffd (gd3P H) (4 - i) i → mZ (d + 1) tk_43 0 0 Q 20 [some (.ref p), some (.ref y), some (.int (mBop 3 (nI (rcK sS gS9 kS H.length 3 1)) (mBop 5 (nI (rcK gS9 sS kS H.length 3 1)) (-1)))), some (.int (nI i))] [] h 0 0 := by
    intro m9
    induction m9 with
    | zero => intro i h1 h2; omega
    | succ m9 ih =>
      intro i h1 h2 hg
      have hv : i < 4 → mBop 3 (mBop 7 (mBop 3 (nI (rcK sS gS9 kS H.length 3 1)) (mBop 5 (nI (rcK gS9 sS kS H.length 3 1)) (-1))) (nI i)) (nI 1) = nI (if gd3P H i = true then 1 else 0) := fun h9 => by
        rw [stk_b _ hr16 _ hq16 i h9, hm_eq2 hG hSF h9, rch_eq hG hSF]
        rfl
      have hif : (if gd3P H i = true then 1 else 0) < 2 := by split <;> decide
      refine z_iload 21 rfl rfl rfl ?_
      refine z_push 22 (nI 4) rfl rfl rfl ?_
      refine z_nge 25 rfl rfl (by omega) (by omega) (fun hc22 => ?_) (fun hc22 => ?_)
      · refine z_push 49 (nI 0) rfl rfl rfl ?_
        refine z_iretb rfl (Nat.le_refl _) (Nat.le_refl _) (by first | decide | exact bI_01 _) ?_
        exact q0 (by rw [hg, show 4 - i = 0 by omega]; rfl)
      · refine z_iload 26 rfl rfl rfl ?_
        refine z_iload 27 rfl rfl rfl ?_
        refine z_bop 28 _ rfl rfl rfl ?_
        refine z_push 29 (nI 1) rfl rfl rfl ?_
        refine z_bop 30 _ rfl rfl (hv (by omega)) ?_
        refine z_push 31 (nI 1) rfl rfl rfl ?_
        refine z_nne 34 rfl rfl (by omega) (by omega) (fun hc31 => ?_) (fun hc31 => ?_)
        · refine z_iinc 45 _ rfl rfl rfl rfl (by first | with_reducible exact zi_1 _ | rfl) ?_
          refine z_goto rfl ?_
          exact ih (i + 1) (by omega) (by omega) (by rw [hg, ffd_no (by omega) (by cases h9 : gd3P H i with | false => rfl | true => exact absurd (by rw [h9]; rfl) hc31)])
        · refine z_aload 35 rfl rfl rfl ?_
          refine z_push 36 (nI 3) rfl rfl rfl ?_
          refine z_iload 37 rfl rfl rfl ?_
          refine z_push 38 (nI 0) rfl rfl rfl ?_
          refine z_cs4 41 rfl rfl rfl (Nat.le_refl _) (Nat.le_refl _) ?_
          refine c_note hy (fun h2 hn hF => ?_)
          refine z_iretb rfl (Nat.le_refl _) (Nat.le_refl _) (by first | decide | exact bI_01 _) ?_
          exact q1 i (by rw [hg, ffd_yes (by omega) (by cases h9 : gd3P H i with | true => rfl | false => rw [h9] at hc31; exact absurd hc31 (by decide))]) h2 hn hF
  refine z_in [some (.ref p), some (.ref y), none, none] (by rfl) rfl rfl rfl ?_
  refine z_aload 1 rfl rfl rfl ?_
  refine z_get 4 rfl rfl (by first | exact hp | exact hE.1 | exact hE.2.1 | exact hE.2.2.1 | exact hE.2.2.2.1 | exact hE.2.2.2.2.1 | exact hE.2.2.2.2.2 | exact hS.1 | exact hS.2.1 | exact hS.2.2.1 | exact hS.2.2.2.1 | exact hS.2.2.2.2 | exact hy | fail "lk") rfl ?_
  refine z_cv0 7 rfl rfl (by first | exact hp | exact hE.1 | exact hE.2.1 | exact hE.2.2.1 | exact hE.2.2.2.1 | exact hE.2.2.2.2.1 | exact hE.2.2.2.2.2 | exact hS.1 | exact hS.2.1 | exact hS.2.2.1 | exact hS.2.2.2.1 | exact hS.2.2.2.2 | exact hy | fail "lk") rfl (Nat.le_refl _) (Nat.le_refl _) ?_
  refine c_Sh_reachedStates hS (by decide) (by omega) hs4 hg4 ?_
  refine z_aload 8 rfl rfl rfl ?_
  refine z_get 11 rfl rfl (by first | exact hp | exact hE.1 | exact hE.2.1 | exact hE.2.2.1 | exact hE.2.2.2.1 | exact hE.2.2.2.2.1 | exact hE.2.2.2.2.2 | exact hS.1 | exact hS.2.1 | exact hS.2.2.1 | exact hS.2.2.2.1 | exact hS.2.2.2.2 | exact hy | fail "lk") rfl ?_
  refine z_cv0 14 rfl rfl (by first | exact hp | exact hE.1 | exact hE.2.1 | exact hE.2.2.1 | exact hE.2.2.2.1 | exact hE.2.2.2.2.1 | exact hE.2.2.2.2.2 | exact hS.1 | exact hS.2.1 | exact hS.2.2.1 | exact hS.2.2.2.1 | exact hS.2.2.2.2 | exact hy | fail "lk") rfl (Nat.le_refl _) (Nat.le_refl _) ?_
  refine c_Sh_homingStates hS (by decide) (by omega) hs4 hg4 ?_
  refine z_push 15 (-1) rfl rfl rfl ?_
  refine z_bop 16 _ rfl rfl rfl ?_
  refine z_bop 17 _ rfl rfl rfl ?_
  refine z_istore 18 rfl rfl rfl rfl ?_
  refine z_push 19 (nI 0) rfl rfl rfl ?_
  refine z_istore 20 rfl rfl rfl rfl ?_
  exact loop 5 0 (by omega) (by omega) rfl
set_option maxRecDepth 100000 in
theorem c_isCutOff {d : Nat} {h : mH} {p m rc : Nat} {c : Bool} {E : List En} {H : List Sh} {y : Nat} {fy : Nat → Int32} {Q : mP} (hp : h.2 p = oPg 0 c p m rc) (hEA : EnA h (p + 6) 100 E) (hSA : ShA h (p + 12) 10 H) (hW : TbW E H) (hy : h.2 y = aI 3 fy)  (q0 : ffd (gd4P E H) E.length 0 = none → Q (some (.int (nI 0))) h) (q1 : ∀ x, ffd (gd4P E H) E.length 0 = some x → ∀ h', NoAt h' y 4 x 0 → Fr y (y + 1) h h' → Q (some (.int (nI 1))) h') : mWP (d + 2) 44 [.ref p, .ref y] h Q := by
  obtain ⟨hE0, s9, t9, n9, p9, f9, hE, hEF⟩ := id hEA
  obtain ⟨hH0, sS, vS, gS9, kS, hS, hSF⟩ := id hSA
  have hs4 : ∀ j, j < H.length → sS j < 4 := fun j hj => by rw [(hSF j hj).1]; exact (hW.2.2.2 j hj).1
  have hg4 : ∀ j, j < H.length → gS9 j < 4 := fun j hj => by rw [(hSF j hj).2.2.1]; exact (hW.2.2.2 j hj).2.2.1
  have hG : ∀ k, k < H.length → shS H k < 4 ∧ shG H k < 4 := fun k hk => ⟨(hW.2.2.2 k hk).1, (hW.2.2.2 k hk).2.2.1⟩
  have hr16 := rcK_lt (s := sS) (kf := kS) (c := H.length) hg4 3 (show 1 < 16 by decide)
  have hq16 := rcK_lt (s := gS9) (g := sS) (kf := kS) (c := H.length) hs4 3 (show 1 < 16 by decide)
  have hE1 := hW.1
  have hsg16 := sgF_lt (s := sS) (kf := kS) (fr := rcK sS gS9 kS H.length 3 1) H.length 0 (show 0 < 16 by decide) (fun j hj => hg4 j (by omega))
  have anyE : ∀ i n, anyB (sg4 E H i) n = true ↔ ∃ k, k < n ∧ sg4 E H i k = true := by
    intro i n
    induction n with
    | zero => exact ⟨fun h => (by cases h), fun ⟨k, h, _⟩ => absurd h (Nat.not_lt_zero k)⟩
    | succ n ih =>
      rw [anyB, Bool.or_eq_true, ih]
      constructor
      · rintro (⟨k, h1, h2⟩ | h1)
        · exact ⟨k, by omega, h2⟩
        · exact ⟨n, by omega, h1⟩
      · rintro ⟨k, h1, h2⟩
        by_cases e : k = n
        · subst e; exact Or.inr h2
        · exact Or.inl ⟨k, by omega, h2⟩
  have hsg : ∀ i, i < E.length → (sgF sS gS9 kS (rcK sS gS9 kS H.length 3 1) H.length 0 0).testBit (enS E i) = anyB (sg4 E H i) H.length := fun i hi => by
    have hes := (hW.2.2.1 i hi).1
    rw [Bool.eq_iff_iff, sgF_tb hes H.length 0 0 (by decide) (fun j hj => hg4 j (by omega)), anyE]
    constructor
    · rintro (h9 | ⟨k, h1, h2, h3, h4, h5⟩)
      · rw [Nat.zero_testBit] at h9; cases h9
      · obtain ⟨a1, a2, a3, a4⟩ := hSF k (by omega)
        refine ⟨k, by omega, ?_⟩
        rw [sg4, ← a4, h3, ← rch_eq hG hSF, ← a1, h4, ← a3, decide_eq_true h5]
        rfl
    · rintro ⟨k, h1, h2⟩
      obtain ⟨a1, a2, a3, a4⟩ := hSF k h1
      rw [sg4, Bool.and_eq_true, Bool.and_eq_true, decide_eq_true_eq] at h2
      refine Or.inr ⟨k, by omega, by omega, ?_, ?_, ?_⟩
      · rw [a4]; simpa using h2.1.1
      · rw [rch_eq hG hSF, a1]; exact h2.1.2
      · rw [a3]; exact h2.2
  have loop : ∀ m9 i x2, E.length < i + m9 → i ≤ E.length → ffd (gd4P E H) E.length 0 = ffd (gd4P E H) (E.length - i) i → mZ (d + 1) tk_44 0 0 Q 22 [some (.ref p), some (.ref y), some (.int x2), some (.int (mBop 4 (nI (rcK sS gS9 kS H.length 3 1)) (nI (sgF sS gS9 kS (rcK sS gS9 kS H.length 3 1) H.length 0 0)))), some (.int (nI i))] [] h 0 0 := by
    intro m9
    induction m9 with
    | zero => intro i x2 h1 h2; omega
    | succ m9 ih =>
      intro i x2 h1 h2 hg
      have hv : i < E.length → mBop 3 (mBop 7 (mBop 4 (nI (rcK sS gS9 kS H.length 3 1)) (nI (sgF sS gS9 kS (rcK sS gS9 kS H.length 3 1) H.length 0 0))) (nI (s9 i))) (nI 1) = nI (if ((rchd H).testBit (enS E i) || anyB (sg4 E H i) H.length) = true then 1 else 0) := fun h9 => by
        have hes := (hW.2.2.1 i h9).1
        rw [(hEF i h9).1, cut_b _ hr16 _ hsg16 _ hes, hsg i h9, rch_eq hG hSF]
      have hif : (if ((rchd H).testBit (enS E i) || anyB (sg4 E H i) H.length) = true then 1 else 0) < 2 := by split <;> decide
      refine z_iload 24 rfl rfl rfl ?_
      refine z_aload 25 rfl rfl rfl ?_
      refine z_get 28 rfl rfl (by first | exact hp | exact hE.1 | exact hE.2.1 | exact hE.2.2.1 | exact hE.2.2.2.1 | exact hE.2.2.2.2.1 | exact hE.2.2.2.2.2 | exact hS.1 | exact hS.2.1 | exact hS.2.2.1 | exact hS.2.2.2.1 | exact hS.2.2.2.2 | exact hy | fail "lk") rfl ?_
      refine z_get 31 rfl rfl (by first | exact hp | exact hE.1 | exact hE.2.1 | exact hE.2.2.1 | exact hE.2.2.2.1 | exact hE.2.2.2.2.1 | exact hE.2.2.2.2.2 | exact hS.1 | exact hS.2.1 | exact hS.2.2.1 | exact hS.2.2.2.1 | exact hS.2.2.2.2 | exact hy | fail "lk") rfl ?_
      refine z_nge 34 rfl rfl (by omega) (by omega) (fun hc31 => ?_) (fun hc31 => ?_)
      · refine z_push 80 (nI 0) rfl rfl rfl ?_
        refine z_iretb rfl (Nat.le_refl _) (Nat.le_refl _) (by first | decide | exact bI_01 _) ?_
        exact q0 (by rw [hg, show E.length - i = 0 by omega]; rfl)
      · have he5 := (hEF i (by omega)).2.2.2.2
        refine z_aload 35 rfl rfl rfl ?_
        refine z_get 38 rfl rfl (by first | exact hp | exact hE.1 | exact hE.2.1 | exact hE.2.2.1 | exact hE.2.2.2.1 | exact hE.2.2.2.2.1 | exact hE.2.2.2.2.2 | exact hS.1 | exact hS.2.1 | exact hS.2.2.1 | exact hS.2.2.2.1 | exact hS.2.2.2.2 | exact hy | fail "lk") rfl ?_
        refine z_get 41 rfl rfl (by first | exact hp | exact hE.1 | exact hE.2.1 | exact hE.2.2.1 | exact hE.2.2.2.1 | exact hE.2.2.2.2.1 | exact hE.2.2.2.2.2 | exact hS.1 | exact hS.2.1 | exact hS.2.2.1 | exact hS.2.2.2.1 | exact hS.2.2.2.2 | exact hy | fail "lk") rfl ?_
        refine z_iload 43 rfl rfl rfl ?_
        refine z_bld 44 rfl rfl (by first | exact hp | exact hE.1 | exact hE.2.1 | exact hE.2.2.1 | exact hE.2.2.2.1 | exact hE.2.2.2.2.1 | exact hE.2.2.2.2.2 | exact hS.1 | exact hS.2.1 | exact hS.2.2.1 | exact hS.2.2.2.1 | exact hS.2.2.2.2 | exact hy | fail "lk") rfl (by omega) (by omega) ?_
        first | refine z_beq 47 rfl rfl (fun hc44 => ?_) (fun hc44 => ?_)
        · refine z_iinc 76 _ rfl rfl rfl rfl (by first | with_reducible exact zi_1 _ | rfl) ?_
          refine z_goto rfl ?_
          exact ih (i + 1) x2 (by omega) (by omega) (by rw [hg, ffd_no (by omega) (by rw [gd4P, ← he5, hc44]; rfl)])
        · refine z_iload 48 rfl rfl rfl ?_
          refine z_aload 49 rfl rfl rfl ?_
          refine z_get 52 rfl rfl (by first | exact hp | exact hE.1 | exact hE.2.1 | exact hE.2.2.1 | exact hE.2.2.2.1 | exact hE.2.2.2.2.1 | exact hE.2.2.2.2.2 | exact hS.1 | exact hS.2.1 | exact hS.2.2.1 | exact hS.2.2.2.1 | exact hS.2.2.2.2 | exact hy | fail "lk") rfl ?_
          refine z_get 55 rfl rfl (by first | exact hp | exact hE.1 | exact hE.2.1 | exact hE.2.2.1 | exact hE.2.2.2.1 | exact hE.2.2.2.2.1 | exact hE.2.2.2.2.2 | exact hS.1 | exact hS.2.1 | exact hS.2.2.1 | exact hS.2.2.2.1 | exact hS.2.2.2.2 | exact hy | fail "lk") rfl ?_
          refine z_iload 57 rfl rfl rfl ?_
          refine z_ald 58 rfl rfl (by first | exact hp | exact hE.1 | exact hE.2.1 | exact hE.2.2.1 | exact hE.2.2.2.1 | exact hE.2.2.2.2.1 | exact hE.2.2.2.2.2 | exact hS.1 | exact hS.2.1 | exact hS.2.2.1 | exact hS.2.2.2.1 | exact hS.2.2.2.2 | exact hy | fail "lk") rfl (by omega) (by omega) ?_
          refine z_bop 59 _ rfl rfl rfl ?_
          refine z_push 60 (nI 1) rfl rfl rfl ?_
          refine z_bop 61 _ rfl rfl (hv (by omega)) ?_
          first | refine z_zne 64 rfl rfl (by omega) (fun hc61 => ?_) (fun hc61 => ?_)
          · refine z_iinc 76 _ rfl rfl rfl rfl (by first | with_reducible exact zi_1 _ | rfl) ?_
            refine z_goto rfl ?_
            exact ih (i + 1) x2 (by omega) (by omega) (by rw [hg, ffd_no (by omega) (by cases h9 : ((rchd H).testBit (enS E i) || anyB (sg4 E H i) H.length) with | false => rw [h9] at hc61; exact absurd rfl hc61 | true => rw [gd4P, Bool.and_assoc, ← Bool.not_or, h9]; simp)])
          · refine z_aload 65 rfl rfl rfl ?_
            refine z_push 66 (nI 4) rfl rfl rfl ?_
            refine z_iload 68 rfl rfl rfl ?_
            refine z_push 69 (nI 0) rfl rfl rfl ?_
            refine z_cs4 72 rfl rfl rfl (Nat.le_refl _) (Nat.le_refl _) ?_
            refine c_note hy (fun h2 hn hF => ?_)
            refine z_iretb rfl (Nat.le_refl _) (Nat.le_refl _) (by first | decide | exact bI_01 _) ?_
            exact q1 i (by rw [hg, ffd_yes (by omega) (by cases h9 : ((rchd H).testBit (enS E i) || anyB (sg4 E H i) H.length) with | true => rw [h9] at hc61; exact absurd hc61 (by decide) | false => rw [gd4P, Bool.and_assoc, ← Bool.not_or, h9, ← he5, hc44]; rfl)]) h2 hn hF
  refine z_in [some (.ref p), some (.ref y), none, none, none] (by rfl) rfl rfl rfl ?_
  refine z_aload 1 rfl rfl rfl ?_
  refine z_get 4 rfl rfl (by first | exact hp | exact hE.1 | exact hE.2.1 | exact hE.2.2.1 | exact hE.2.2.2.1 | exact hE.2.2.2.2.1 | exact hE.2.2.2.2.2 | exact hS.1 | exact hS.2.1 | exact hS.2.2.1 | exact hS.2.2.2.1 | exact hS.2.2.2.2 | exact hy | fail "lk") rfl ?_
  refine z_cv0 7 rfl rfl (by first | exact hp | exact hE.1 | exact hE.2.1 | exact hE.2.2.1 | exact hE.2.2.2.1 | exact hE.2.2.2.2.1 | exact hE.2.2.2.2.2 | exact hS.1 | exact hS.2.1 | exact hS.2.2.1 | exact hS.2.2.2.1 | exact hS.2.2.2.2 | exact hy | fail "lk") rfl (Nat.le_refl _) (Nat.le_refl _) ?_
  refine c_Sh_reachedStates hS (by decide) (by omega) hs4 hg4 ?_
  refine z_istore 8 rfl rfl rfl rfl ?_
  refine z_iload 9 rfl rfl rfl ?_
  refine z_aload 10 rfl rfl rfl ?_
  refine z_get 13 rfl rfl (by first | exact hp | exact hE.1 | exact hE.2.1 | exact hE.2.2.1 | exact hE.2.2.2.1 | exact hE.2.2.2.2.1 | exact hE.2.2.2.2.2 | exact hS.1 | exact hS.2.1 | exact hS.2.2.1 | exact hS.2.2.2.1 | exact hS.2.2.2.2 | exact hy | fail "lk") rfl ?_
  refine z_iload 14 rfl rfl rfl ?_
  refine z_cv1 17 rfl rfl (by first | exact hp | exact hE.1 | exact hE.2.1 | exact hE.2.2.1 | exact hE.2.2.2.1 | exact hE.2.2.2.2.1 | exact hE.2.2.2.2.2 | exact hS.1 | exact hS.2.1 | exact hS.2.2.1 | exact hS.2.2.2.1 | exact hS.2.2.2.2 | exact hy | fail "lk") rfl (Nat.le_refl _) (Nat.le_refl _) ?_
  refine c_Sh_singleGoals hS (by decide) (by omega) hr16 hs4 hg4 ?_
  refine z_bop 18 _ rfl rfl rfl ?_
  refine z_istore 19 rfl rfl rfl rfl ?_
  refine z_push 20 (nI 0) rfl rfl rfl ?_
  refine z_istore 22 rfl rfl rfl rfl ?_
  exact loop (E.length + 1) 0 _ (by omega) (by omega) rfl
set_option maxRecDepth 100000 in
theorem c_isGood {d : Nat} {h : mH} {p m rc : Nat} {c : Bool} {E : List En} {H : List Sh} {y : Nat} {fy : Nat → Int32} {Q : mP} (hp : h.2 p = oPg 0 c p m rc) (hEA : EnA h (p + 6) 100 E) (hSA : ShA h (p + 12) 10 H) (hW : TbW E H) (hy : h.2 y = aI 3 fy)  (q0 : gdA E H = none → Q (some (.int (nI 1))) h) (q1 : ∀ a b e, gdA E H = some (a, b, e) → ∀ h', NoAt h' y a b e → Fr y (y + 1) h h' → Q (some (.int (nI 0))) h') : mWP (d + 4) 34 [.ref p, .ref y] h Q := by
  refine z_in [some (.ref p), some (.ref y)] (by rfl) rfl rfl rfl ?_
  refine z_aload 1 rfl rfl rfl ?_
  refine z_aload 2 rfl rfl rfl ?_
  refine z_cv1 5 rfl rfl hp rfl (Nat.le_refl _) (Nat.le_refl _) ?_
  refine c_clashes hp hEA hSA hW hy (fun h1 => ?_) (fun x h1 h2 hn hF => ?_)
  · 
    refine z_zne 8 rfl rfl (by omega) (fun h9 => absurd h9 (by omega)) (fun _ => ?_)
    refine z_aload 9 rfl rfl rfl ?_
    refine z_aload 10 rfl rfl rfl ?_
    refine z_cv1 13 rfl rfl hp rfl (Nat.le_refl _) (Nat.le_refl _) ?_
    refine c_isUnsure hp hEA hSA hW hy (fun h3 => ?_) (fun x h3 h2 hn hF => ?_)
    · 
      refine z_zne 16 rfl rfl (by omega) (fun h9 => absurd h9 (by omega)) (fun _ => ?_)
      refine z_aload 17 rfl rfl rfl ?_
      refine z_aload 18 rfl rfl rfl ?_
      refine z_cv1 21 rfl rfl hp rfl (Nat.le_refl _) (Nat.le_refl _) ?_
      refine c_isStuck hp hEA hSA hW hy (fun h4 => ?_) (fun x h4 h2 hn hF => ?_)
      · 
        refine z_zne 24 rfl rfl (by omega) (fun h9 => absurd h9 (by omega)) (fun _ => ?_)
        refine z_aload 25 rfl rfl rfl ?_
        refine z_aload 26 rfl rfl rfl ?_
        refine z_cv1 29 rfl rfl hp rfl (Nat.le_refl _) (Nat.le_refl _) ?_
        refine c_isCutOff hp hEA hSA hW hy (fun h5 => ?_) (fun x h5 h2 hn hF => ?_)
        · 
          refine z_zne 32 rfl rfl (by omega) (fun h9 => absurd h9 (by omega)) (fun _ => ?_)
          refine z_push 33 (nI 1) rfl rfl rfl ?_
          refine z_goto rfl ?_
          refine z_iretb rfl (Nat.le_refl _) (Nat.le_refl _) (by first | decide | exact bI_01 _) ?_
          exact q0 (by rw [gdA, h1]; simp only [h3, h4, h5])
        · 
          refine z_zne 32 rfl rfl (by omega) (fun _ => ?_) (fun h9 => absurd h9 (by omega))
          refine z_push 37 (nI 0) rfl rfl rfl ?_
          refine z_iretb rfl (Nat.le_refl _) (Nat.le_refl _) (by first | decide | exact bI_01 _) ?_
          exact q1 4 _ _ (by rw [gdA, h1]; simp only [h3, h4, h5]) h2 hn hF
      · 
        refine z_zne 24 rfl rfl (by omega) (fun _ => ?_) (fun h9 => absurd h9 (by omega))
        refine z_push 37 (nI 0) rfl rfl rfl ?_
        refine z_iretb rfl (Nat.le_refl _) (Nat.le_refl _) (by first | decide | exact bI_01 _) ?_
        exact q1 3 _ _ (by rw [gdA, h1]; simp only [h3, h4]) h2 hn hF
    · 
      refine z_zne 16 rfl rfl (by omega) (fun _ => ?_) (fun h9 => absurd h9 (by omega))
      refine z_push 37 (nI 0) rfl rfl rfl ?_
      refine z_iretb rfl (Nat.le_refl _) (Nat.le_refl _) (by first | decide | exact bI_01 _) ?_
      exact q1 2 _ _ (by rw [gdA, h1]; simp only [h3]) h2 hn hF
  · 
    refine z_zne 8 rfl rfl (by omega) (fun _ => ?_) (fun h9 => absurd h9 (by omega))
    refine z_push 37 (nI 0) rfl rfl rfl ?_
    refine z_iretb rfl (Nat.le_refl _) (Nat.le_refl _) (by first | decide | exact bI_01 _) ?_
    exact q1 1 _ _ (by rw [gdA, h1]) h2 hn hF
