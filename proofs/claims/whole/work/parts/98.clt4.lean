/-! the class: Rules read, Writer -/
theorem w_addN {d : Nat} {h : mH} {r n x : Nat} {l : List Nat} {Q : mP} (a : RwAt h r n l) (hn : n < 2 ^ 31) (hl : l.length < n) (q : ∀ h', RwAt h' r n (l ++ [x]) → Fr r (r + 2) h h' → Q (some (.int (nI 1))) h') : mWP (d + 1) 72 [.ref r, .int (nI x)] h Q := w_add a hn hl q
def RuAt (h : mH) (R rs ws : Nat) (F : List Fb) : Prop := h.2 R = oRu R rs ws F.length ∧ F.length ≤ 40 ∧ ∃ pts lns prt whs : Nat → Int32, h.2 (R + 1) = aI 41 pts ∧ h.2 (R + 2) = aI 41 lns ∧ h.2 (R + 3) = aI 164 prt ∧ h.2 (R + 4) = aI 41 whs ∧ ∀ k, k < F.length → pts k = nI (fbP F k) ∧ lns k = nI (fbL F k).length ∧ ∀ j, j < (fbL F k).length → prt (4 * k + j) = nI ((fbL F k).getD j 0)
theorem RuAt.e {h h' : mH} {R rs ws : Nat} {F : List Fb} (a : RuAt h R rs ws F) (f : Eqv R (R + 5) h h') : RuAt h' R rs ws F := by
  obtain ⟨a1, a2, p, l, q, w, a3, a4, a5, a6, a7⟩ := a
  exact ⟨(f R (by omega) (by omega)).trans a1, a2, p, l, q, w, (f _ (by omega) (by omega)).trans a3, (f _ (by omega) (by omega)).trans a4, (f _ (by omega) (by omega)).trans a5, (f _ (by omega) (by omega)).trans a6, a7⟩
theorem lshr_n {a k : Nat} (ha : a < 2 ^ 63) (hk : k < 64) : mLsh 1 (lN a) (nI k) = lN (a / 2 ^ k) := by
  have e1 : ∀ j, j < 64 → (((nI j).toInt64 &&& 63).toBitVec.smod 64).toNat = j := by decide +kernel
  apply Int64.toBitVec_inj.mp
  show (lN a >>> ((nI k).toInt64 &&& 63)).toBitVec = BitVec.ofNat 64 (a / 2 ^ k)
  rw [Int64.toBitVec_shiftRight, BitVec.sshiftRight_eq', e1 k hk]
  have hm : (lN a).toBitVec.msb = false := by
    rw [BitVec.msb_eq_decide, lN_tn (by omega)]
    exact decide_eq_false (by omega)
  rw [BitVec.sshiftRight_eq_of_msb_false hm]
  apply BitVec.eq_of_toNat_eq
  rw [BitVec.toNat_ushiftRight, lN_tn (by omega), BitVec.toNat_ofNat, Nat.shiftRight_eq_div_pow]
  have : a / 2 ^ k ≤ a := Nat.div_le_self _ _
  rw [Nat.mod_eq_of_lt (by omega)]
theorem nI_w (n v : Nat) : nI (n * 2 ^ 32 + v) = nI v := by
  apply Int32.toBitVec_inj.mp
  show BitVec.ofNat 32 (n * 2 ^ 32 + v) = BitVec.ofNat 32 v
  apply BitVec.eq_of_toNat_eq
  rw [BitVec.toNat_ofNat, BitVec.toNat_ofNat]
  omega
theorem LT_lo (n v : Nat) : (LT n v).toInt32 = nI v := by rw [LT, lN_i, nI_w]
theorem LT_hi {n v : Nat} (hn : n < 2 ^ 20) (hv : v < 2 ^ 32) : mLsh 1 (LT n v) (nI 32) = lN n := by
  rw [LT, lshr_n (by omega) (by decide), show (n * 2 ^ 32 + v) / 2 ^ 32 = n by omega]
abbrev oWr (R w p rule st : Nat) : mC := .inr (.inr (10, [.ref R, .ref (w + 1), .ref (w + 3), .ref p, .int (nI rule), .int (nI st)]))
/-- a writer, its burst, and what is due -/
def WrAt (h : mH) (w R p rule st : Nat) (l u : List Nat) : Prop := h.2 w = oWr R w p rule st ∧ RwAt h (w + 1) 128 l ∧ RwAt h (w + 3) 20 u
theorem WrAt.e {h h' : mH} {w R p rule st : Nat} {l u : List Nat} (a : WrAt h w R p rule st l u) (f : Eqv w (w + 5) h h') : WrAt h' w R p rule st l u := ⟨(f w (by omega) (by omega)).trans a.1, a.2.1.e (fun x h1 h2 => f x (by omega) (by omega)), a.2.2.e (fun x h1 h2 => f x (by omega) (by omega))⟩
def rtB (K : Nat) (H : List Sh) (g st : Nat) : List Nat × Nat := if K = 0 then (match gP H (gSt g) (decide (g ≠ 4)) st with
  | some l => (l.map (shV H), gS H l st)
  | none => ([], st)) else ([], st)
set_option maxRecDepth 10000 in
theorem c_Ru_slotOf {d : Nat} {h : mH} {R rs ws x : Nat} {F : List Fb} {Q : mP} (hR : RuAt h R rs ws F) (hW : FbW F) (hx : x < 2 ^ 31)  (q : Q (some (.int (oI (fbI F x)))) h) : mWP (d + 1) 81 [.ref R, .int (nI x)] h Q := by
  obtain ⟨r1, r2, pts, lns, prt, whs, r3, r4, r5, r6, r7⟩ := hR
  have loop : ∀ m9 i, F.length < i + m9 → i ≤ F.length → fbI F x = ffd (fbQ F x) (F.length - i) i → mZ d tk_81 0 0 Q 2 [some (.ref R), some (.int (nI x)), some (.int (nI i))] [] h 0 0 := by
    intro m9
    induction m9 with
    | zero => intro i h1 h2; omega
    | succ m9 ih =>
      intro i h1 h2 hI
      refine z_iload 3 rfl rfl rfl ?_
      refine z_aload 4 rfl rfl rfl ?_
      refine z_get 7 rfl rfl (by first | exact r1 | exact r3 | fail "lk") rfl ?_
      refine z_nge 10 rfl rfl (by omega) (by omega) (fun hc7 => ?_) (fun hc7 => ?_)
      · refine z_push 29 (-1) rfl rfl rfl ?_
        refine z_ireti rfl (Nat.le_refl _) (Nat.le_refl _) ?_
        obtain rfl : i = F.length := by omega
        rw [hI, Nat.sub_self] at q
        exact q
      · refine z_aload 11 rfl rfl rfl ?_
        refine z_get 14 rfl rfl (by first | exact r1 | exact r3 | fail "lk") rfl ?_
        refine z_iload 15 rfl rfl rfl ?_
        refine z_ald 16 rfl rfl (by first | exact r1 | exact r3 | fail "lk") rfl (by omega) (by omega) ?_
        have hWi := nPt_lt (hW i (by omega)).1
        rw [(r7 i (by omega)).1]
        refine z_iload 17 rfl rfl rfl ?_
        refine z_nne 20 rfl rfl (by omega) (by omega) (fun hc17 => ?_) (fun hc17 => ?_)
        · refine z_iinc 25 _ rfl rfl rfl rfl (by first | with_reducible exact zi_1 _ | rfl) ?_
          refine z_goto rfl ?_
          refine ih (i + 1) (by omega) (by omega) ?_
          rw [hI, ffd_no (by omega) (by simp [fbQ, hc17])]
        · refine z_iload 21 rfl rfl rfl ?_
          refine z_ireti rfl (Nat.le_refl _) (Nat.le_refl _) ?_
          rw [hI, ffd_yes (by omega) (by simp [fbQ, hc17])] at q
          exact q
  refine z_in [some (.ref R), some (.int (nI x)), none] (by rfl) rfl rfl rfl ?_
  refine z_push 1 (nI 0) rfl rfl rfl ?_
  refine z_istore 2 rfl rfl rfl rfl ?_
  exact loop (F.length + 1) 0 (by omega) (by omega) (by rw [Nat.sub_zero]; rfl)
theorem dn_m1 (m : Nat) : nI m + (-1) = dnI m := by
  cases m with
  | zero => decide
  | succ m => exact sb_m1 (by omega)
set_option maxRecDepth 100000 in
theorem c_pushParts {d : Nat} {h0 : mH} {R rs ws x o n : Nat} {F : List Fb} {l : List Nat} {Q : mP} (hR : RuAt h0 R rs ws F) (hW : FbW F) (hx : x < 2 ^ 31) (hw : RwAt h0 o n l) (hn : n < 2 ^ 31) (hl : ∀ f, fbI F x = some f → l.length + (fbL F f).length ≤ n) (hRo : o + 2 ≤ R ∨ R + 5 ≤ o)  (q0 : fbI F x = none → Q (some (.int (nI 0))) h0) (q1 : ∀ f, fbI F x = some f → ∀ h', RwAt h' o n (l ++ (fbL F f).reverse) → Fr o (o + 2) h0 h' → Q (some (.int (nI 1))) h') : mWP (d + 2) 89 [.ref R, .int (nI x), .ref o] h0 Q := by
  refine z_in [some (.ref R), some (.int (nI x)), some (.ref o), none, none, none] (by rfl) rfl rfl rfl ?_
  refine z_aload 1 rfl rfl rfl ?_
  refine z_iload 2 rfl rfl rfl ?_
  refine z_cv1 5 rfl rfl (by first | exact hR.1 | exact r4 | fail "lk") rfl (Nat.le_refl _) (Nat.le_refl _) ?_
  refine c_Ru_slotOf hR hW hx ?_
  rcases hfi : fbI F x with _ | f
  · simp only [oI]
    refine z_istore 6 rfl rfl rfl rfl ?_
    refine z_iload 7 rfl rfl rfl ?_
    refine z_jge 10 rfl rfl (fun h9 => absurd h9 (by decide)) (fun _ => ?_)
    refine z_push 11 (nI 0) rfl rfl rfl ?_
    refine z_iretb rfl (Nat.le_refl _) (Nat.le_refl _) (by first | decide | exact bI_01 _) ?_
    exact q0 hfi
  · simp only [oI]
    have hfl := fbI_b hfi
    have hfll := hl f hfi
    have hW4 := hW f hfl
    obtain ⟨r1, r2, pts, lns, prt, whs, r3, r4, r5, r6, r7⟩ := id hR
    have loop : ∀ m l1 h, m ≤ (fbL F f).length → l1 = l ++ ((fbL F f).drop m).reverse → RuAt h R rs ws F → RwAt h o n l1 → Fr o (o + 2) h0 h → mZ (d + 1) tk_89 0 0 Q 25 [some (.ref R), some (.int (nI x)), some (.ref o), some (.int (nI f)), some (.int (nI 1)), some (.int (dnI m))] [] h 0 0 := by
      intro m
      induction m with
      | zero =>
        intro l1 h hm hl hR hw hF
        refine z_iload 27 rfl rfl rfl ?_
        refine z_jlt 30 rfl rfl (fun _ => ?_) (fun h9 => absurd h9 (by decide))
        refine z_iload 68 rfl rfl rfl ?_
        refine z_iretb rfl (Nat.le_refl _) (Nat.le_refl _) (by first | decide | exact bI_01 _) ?_
        rw [hl, List.drop_zero] at hw
        exact q1 f hfi h hw hF
      | succ m ih =>
        intro l1 h hm hl hR hw hF
        obtain ⟨r1, r2, pts, lns, prt, whs, r3, r4, r5, r6, r7⟩ := id hR
        have hr7 := (r7 f hfl).2.2 m (by omega)
        have hll : l1.length + m + 1 = l.length + (fbL F f).length := by rw [hl, List.length_append, List.length_reverse, List.length_drop]; omega
        show mZ (d + 1) tk_89 0 0 Q 25 [some (.ref R), some (.int (nI x)), some (.ref o), some (.int (nI f)), some (.int (nI 1)), some (.int (nI m))] [] h 0 0
        refine z_iload 27 rfl rfl rfl ?_
        refine z_zlt 30 rfl rfl (by omega) (fun h9 => absurd h9 (by omega)) (fun _ => ?_)
        refine z_iload 32 rfl rfl rfl ?_
        refine z_zeq 35 rfl rfl (by omega) (fun h9 => absurd h9 (by omega)) (fun _ => ?_)
        refine z_aload 36 rfl rfl rfl ?_
        refine z_aload 37 rfl rfl rfl ?_
        refine z_get 40 rfl rfl (by first | exact r1 | exact r5 | exact hw.1 | fail "lk") rfl ?_
        refine z_iload 41 rfl rfl rfl ?_
        refine z_push 42 (nI 4) rfl rfl rfl ?_
        refine z_bop 43 _ rfl rfl (by first | with_reducible exact zb_2 _ _ | exact zd_2 _ _) ?_
        refine z_iload 45 rfl rfl rfl ?_
        refine z_bop 46 _ rfl rfl (by first | with_reducible exact zb_0 _ _ | exact zd_0 _ _) ?_
        refine z_ald 47 rfl rfl (by first | exact r1 | exact r5 | exact hw.1 | fail "lk") rfl (by omega) (by omega) ?_
        rw [show prt (f * 4 + m) = nI ((fbL F f).getD m 0) from by rw [Nat.mul_comm]; exact hr7]
        refine z_cv1 50 rfl rfl (by first | exact r1 | exact r5 | exact hw.1 | fail "lk") rfl (Nat.le_refl _) (Nat.le_refl _) ?_
        refine w_addN hw hn (by omega) (fun h2 hw2 hF2 => ?_)
        · refine z_zeq 53 rfl rfl (by omega) (fun h9 => absurd h9 (by omega)) (fun _ => ?_)
          refine z_push 54 (nI 1) rfl rfl rfl ?_
          refine z_goto rfl ?_
          refine z_istore 60 rfl rfl rfl rfl ?_
          refine z_iinc 63 _ rfl rfl rfl rfl (dn_m1 m) ?_
          refine z_goto rfl ?_
          exact ih _ h2 (by omega) (by rw [hl, drop_c9 (show m < (fbL F f).length by omega), List.reverse_cons, List.append_assoc]) (hR.e (hF2.eqv (by omega))) hw2 ⟨hF2.1.trans hF.1, fun y hy => (hF2.2 y hy).trans (hF.2 y hy)⟩
    refine z_istore 6 rfl rfl rfl rfl ?_
    refine z_iload 7 rfl rfl rfl ?_
    refine z_zge 10 rfl rfl (by omega) (fun _ => ?_) (fun h9 => absurd h9 (by omega))
    refine z_push 13 (nI 1) rfl rfl rfl ?_
    refine z_istore 15 rfl rfl rfl rfl ?_
    refine z_aload 16 rfl rfl rfl ?_
    refine z_get 19 rfl rfl (by first | exact hR.1 | exact r4 | fail "lk") rfl ?_
    refine z_iload 20 rfl rfl rfl ?_
    refine z_ald 21 rfl rfl (by first | exact hR.1 | exact r4 | fail "lk") rfl (by omega) (by omega) ?_
    rw [(r7 f hfl).2.1]
    refine z_push 22 (nI 1) rfl rfl rfl ?_
    refine z_bop 23 _ rfl rfl (show mBop 1 (nI (fbL F f).length) (nI 1) = dnI (fbL F f).length from by obtain ⟨m, hm⟩ : ∃ m, (fbL F f).length = m + 1 := ⟨(fbL F f).length - 1, by omega⟩; rw [hm]; exact pk_sub (by omega)) ?_
    refine z_istore 25 rfl rfl rfl rfl ?_
    exact loop (fbL F f).length l h0 (Nat.le_refl _) (by rw [List.drop_length]; simp) hR hw ⟨rfl, fun _ _ => rfl⟩
