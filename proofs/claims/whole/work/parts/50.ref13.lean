/-! the reference: code, fill, results, units put -/
theorem fnd_b {K pt : Nat} {E : List En} {H : List Sh} (hW : TbW E H) (hpt : pt < 1114112) {st n v : Nat} (h : fnd K E pt = some (st, n, v)) : st < 4 ∧ 1 ≤ n ∧ n ≤ 4 ∧ v < 2 ^ (8 * n) ∧ v < 2 ^ 32 ∧ (K ≠ 0 → st = 0) ∧ (K = 0 → n ≤ 3) := by
  unfold fnd at h
  split at h
  · rename_i hk
    rcases hf : ffd (pf2 E pt) E.length 0 with _ | j
    · rw [hf] at h; cases h
    · rw [hf] at h
      cases h
      have hj := ffd_lt hf
      have h1 := hW.2.2.1 j (by omega)
      have h2 := hW.tx (k := j) (by omega)
      have h3 : 256 ^ enN E j = 2 ^ (8 * enN E j) := by rw [Nat.pow_mul]
      rw [h3] at h1
      exact ⟨h1.1, h1.2.1, by omega, h1.2.2.2.1, by omega, fun e => absurd hk e, fun _ => h1.2.2.1⟩
  · rename_i hk
    simp only [Option.some.injEq, Prod.mk.injEq] at h
    obtain ⟨rfl, h⟩ := h
    have hb : (1 ≤ n ∧ n ≤ 4) ∧ v < 2 ^ (8 * n) := by
      unfold fmT at h
      split at h
      · simp only [Prod.mk.injEq] at h
        obtain ⟨rfl, rfl⟩ := h
        unfold fwN fwV
        split
        · omega
        · split
          · omega
          · split
            · omega
            · have hx : pt / 262144 < 8 := by omega
              have hy : pt / 4096 % 64 < 64 := by omega
              have hy2 : pt / 64 % 64 < 64 := by omega
              have hz : pt % 64 < 64 := by omega
              generalize pt / 262144 = x at *
              generalize pt / 4096 % 64 = y at *
              generalize pt / 64 % 64 = y2 at *
              generalize pt % 64 = z at *
              omega
      · split at h
        · simp only [Prod.mk.injEq] at h
          obtain ⟨rfl, rfl⟩ := h
          have := uTx_lt (k := K) (u := pt) (by omega)
          omega
        · simp only [Prod.mk.injEq] at h
          obtain ⟨rfl, rfl⟩ := h
          have h1 := uTx_lt (k := K) (utF_lt hpt)
          have h2 := uTx_lt (k := K) (utS_lt (p := pt))
          omega
    have h4 : 2 ^ (8 * n) ≤ 2 ^ 32 := Nat.pow_le_pow_right (by decide) (by omega)
    exact ⟨by omega, hb.1.1, hb.1.2, hb.2, by omega, fun _ => rfl, fun e => absurd e hk⟩
def sp_code (A : Ab) (p x : Int32) : Int64 × Ab :=
  if 0 ≤ p.toInt ∧ p.toInt < A.pgs.length then
    if pgC A.pgs p.toInt.toNat = true then
      if jPoint x = true then
        match fnd (pgK A.pgs p.toInt.toNat) (pgE A.pgs p.toInt.toNat) x.toInt.toNat with
        | some y => (lN (y.2.1 * 2 ^ 32 + y.2.2), A)
        | none => (Int32.toInt64 (-2), A.tell)
      else (Int32.toInt64 (-1), A.tell)
    else (Int32.toInt64 (-5), A.tell)
  else (Int32.toInt64 (-1), A.tell)
theorem bt_s {n v i : Nat} (h : i < n) : v / 2 ^ (8 * (n - (i + 1))) = v / 2 ^ (8 * (n - i)) * 2 ^ 8 + bt n v i := by
  have e : 2 ^ (8 * (n - i)) = 2 ^ (8 * (n - (i + 1))) * 256 := by rw [show 8 * (n - i) = 8 * (n - (i + 1)) + 8 by omega, Nat.pow_add]
  rw [bt, show n - 1 - i = n - (i + 1) by omega, e, ← Nat.div_div_eq_div_mul]
  omega
theorem bt_lt (n v i : Nat) : bt n v i < 256 := Nat.mod_lt _ (by decide)
set_option maxRecDepth 10000 in
theorem r_code {d r : Nat} {h h0 : mH} {s : rS} {A : Ab} {p x : Int32} {Q : mP} (hR : Rf r h0 s h) (hI : RInv s A) (hB : PgB A.pgs) (hK : ∀ P, P < A.pgs.length → pgK A.pgs P < 4)  (q : ∀ h' s', Rf r h0 s' h' → RInv s' (sp_code A p x).2 → Q (some (.long (sp_code A p x).1)) h') : mWP (d + 3) 206 [.ref r, .int p, .int x] h Q := by
  have hG := hI.1
  have hG2 := hG.2.1
  refine z_in [some (.ref r), some (.int p), some (.int x), none, none, none] (by rfl) rfl rfl rfl ?_
  refine z_aload 1 rfl rfl rfl ?_
  refine z_iload 2 rfl rfl rfl ?_
  refine z_cv1 5 rfl rfl hR.1 rfl (Nat.le_refl _) (Nat.le_refl _) ?_
  refine r_isPage hR hG.1 hG.2.1 ?_
  first | refine z_bne 8 rfl rfl (fun hc5 => ?_) (fun hc5 => ?_)
  · rw [decide_eq_true_eq] at hc5
    obtain ⟨P, hP, rfl, hp1, hp2⟩ := ix_of hc5
    obtain ⟨hg1, hg2, hT⟩ := hG.2.2 P hP
    have hW := hB P hP
    refine z_aload 16 rfl rfl rfl ?_
    refine y_ga 19 hR rfl rfl rfl ?_
    refine z_iload 20 rfl rfl rfl ?_
    refine y_bb (f := 2) 21 _ hR rfl rfl rfl rfl (by omega) (by repeat (first | with_reducible exact hg2 | with_reducible exact gA_eq _ _ _ _ | (with_reducible apply gA_ne; decide) | with_reducible apply gA_I | with_reducible apply gA_O | (with_reducible apply gA_nj; omega) | with_reducible rfl)) ?_
    first | refine z_bne 24 rfl rfl (fun hc21 => ?_) (fun hc21 => ?_)
    · refine z_iload 33 rfl rfl rfl ?_
      refine z_cs1 36 rfl rfl rfl (Nat.le_refl _) (Nat.le_refl _) ?_
      refine r_isPoint ?_
      generalize hjp : jPoint _ = jp
      first | refine z_bne 39 rfl rfl (fun hc36 => ?_) (fun hc36 => ?_)
      · obtain ⟨t, ht, rfl, ht2⟩ := jPoint_n (hjp.trans hc36)
        have htl := nPt_lt ht
        refine z_aload 47 rfl rfl rfl ?_
        refine z_iload 48 rfl rfl rfl ?_
        refine z_iload 49 rfl rfl rfl ?_
        refine z_cv2 52 rfl rfl hR.1 rfl (Nat.le_refl _) (Nat.le_refl _) ?_
        refine r_find hR (by omega) hg1 (hK P hP) hT hW htl (fun h s1 hR hO hF => ?_)
        rcases hfn : fnd (pgK A.pgs P) (pgE A.pgs P) t with _ | ⟨st, n, v⟩
        · simp only [Option.isSome]
          refine z_bne 55 rfl rfl (fun h9 => absurd h9 (by decide)) (fun _ => ?_)
          refine z_aload 56 rfl rfl rfl ?_
          refine z_push 58 (-2) rfl rfl rfl ?_
          refine z_cv1 61 rfl rfl hR.1 rfl (Nat.le_refl _) (Nat.le_refl _) ?_
          refine r_tell hR (fun h9 => absurd h9 (by decide)) (fun _ h hR => ?_)
          refine z_i2l 62 rfl rfl ?_
          refine z_lret rfl (Nat.le_refl _) (Nat.le_refl _) ?_
          have e9 : sp_code A (nI P) (nI t) = (Int32.toInt64 (-2), A.tell) := by
            rw [sp_code, if_pos hc5, hp2, if_pos hc21, if_pos (hjp.trans hc36), ht2, hfn]
          rw [e9] at q
          exact q h _ hR (hI.k0 (hO.keep (by decide)) (hO.1 22 (by decide)).1).tell
        · simp only [Option.isSome]
          obtain ⟨h31, hX⟩ := hF st n v hfn
          have hX1 : s1.1 32 = n := hX.1
          have hX2 : ∀ j, j < n → s1.2.2 33 j = bt n v j := hX.2
          obtain ⟨hb1, hb2, hb3, hb4, hv32, hb6, hb7⟩ := fnd_b hW htl hfn
          refine z_bne 55 rfl rfl (fun _ => ?_) (fun h9 => absurd h9 (by decide))
          refine z_pushl 64 (0) rfl rfl rfl ?_
          refine z_lstore 65 rfl rfl rfl rfl ?_
          refine z_push 66 (nI 0) rfl rfl rfl ?_
          refine z_istore 68 rfl rfl rfl rfl ?_
          have loop : ∀ m i, n < i + m → i ≤ n → mZ (d + 2) tk_206 0 0 Q 68 [some (.ref r), some (.int (nI P)), some (.int (nI t)), some (.long (lN (v / 2 ^ (8 * (n - i))))), none, some (.int (nI i))] [] h 0 0 := by
            intro m
            induction m with
            | zero => intro i h1 h2; omega
            | succ m ih =>
              intro i h1 h2
              have hb := bt_lt n v i
              refine z_iload 70 rfl rfl rfl ?_
              refine z_aload 71 rfl rfl rfl ?_
              refine y_gi 74 _ hR rfl rfl rfl rfl rfl (by repeat (first | with_reducible exact gI_eq _ _ _ | (with_reducible apply gI_ne; decide) | with_reducible apply gI_A | with_reducible apply gI_O | with_reducible exact hX1 | with_reducible exact hX2 i (by omega) | with_reducible rfl)) ?_
              refine z_nge 77 rfl rfl (by omega) (by omega) (fun hc74 => ?_) (fun hc74 => ?_)
              · obtain rfl : i = n := by omega
                rw [Nat.sub_self, Nat.mul_zero, Nat.pow_zero, Nat.div_one]
                refine z_lload 98 rfl rfl rfl ?_
                refine z_aload 99 rfl rfl rfl ?_
                refine y_gi 102 _ hR rfl rfl rfl rfl rfl (by repeat (first | with_reducible exact gI_eq _ _ _ | (with_reducible apply gI_ne; decide) | with_reducible apply gI_A | with_reducible apply gI_O | with_reducible exact hX1 | with_reducible exact hX2 i (by omega) | with_reducible rfl)) ?_
                refine z_i2l 103 rfl rfl ?_
                rw [nI_l (by omega)]
                refine z_push 105 (nI 32) rfl rfl rfl ?_
                refine z_lsh 106 _ rfl rfl (lsh_n (by decide)) ?_
                refine z_lop 107 _ rfl rfl (lor_n' (k := 32) (by omega) hv32) ?_
                refine z_lret rfl (Nat.le_refl _) (Nat.le_refl _) ?_
                have e9 : sp_code A (nI P) (nI t) = (lN (i * 2 ^ 32 + v), A) := by
                  rw [sp_code, if_pos hc5, hp2, if_pos hc21, if_pos (hjp.trans hc36), ht2, hfn]
                rw [e9] at q
                exact q h s1 hR (hI.k0 (hO.keep (by decide)) (hO.1 22 (by decide)).1)
              · refine z_lload 78 rfl rfl rfl ?_
                refine z_push 80 (nI 8) rfl rfl rfl ?_
                refine z_lsh 81 _ rfl rfl (lsh_n (by decide)) ?_
                refine z_aload 82 rfl rfl rfl ?_
                refine y_ga 85 hR rfl rfl rfl ?_
                refine z_iload 87 rfl rfl rfl ?_
                refine y_al (f := 33) 88 _ hR rfl rfl rfl rfl (by omega) (by repeat (first | with_reducible exact hX1 | with_reducible exact hX2 i (by omega) | with_reducible exact gA_eq _ _ _ _ | (with_reducible apply gA_ne; decide) | with_reducible apply gA_I | with_reducible apply gA_O | (with_reducible apply gA_nj; omega) | with_reducible rfl)) ?_
                refine z_i2l 89 rfl rfl ?_
                rw [nI_l (by omega)]
                refine z_lop 90 _ rfl rfl (lor_n (k := 8) (by omega) hb) ?_
                refine z_lstore 91 rfl rfl rfl rfl ?_
                refine z_iinc 94 _ rfl rfl rfl rfl (by first | with_reducible exact zi_1 _ | rfl) ?_
                refine z_goto rfl ?_
                rw [← bt_s (by omega)]
                exact ih (i + 1) (by omega) (by omega)
          rw [show (0 : Int64) = lN (v / 2 ^ (8 * (n - 0))) from by rw [Nat.sub_zero, Nat.div_eq_of_lt hb4]; rfl]
          exact loop (n + 1) 0 (by omega) (by omega)
      · refine z_aload 40 rfl rfl rfl ?_
        refine z_push 41 (-1) rfl rfl rfl ?_
        refine z_cv1 44 rfl rfl hR.1 rfl (Nat.le_refl _) (Nat.le_refl _) ?_
        refine r_tell hR (fun h9 => absurd h9 (by decide)) (fun _ h hR => ?_)
        refine z_i2l 45 rfl rfl ?_
        refine z_lret rfl (Nat.le_refl _) (Nat.le_refl _) ?_
        have e9 : sp_code A (nI P) x = (Int32.toInt64 (-1), A.tell) := by rw [sp_code, if_pos hc5, hp2, if_pos hc21, if_neg (by rw [hjp, hc36]; decide)]
        rw [e9] at q
        exact q h _ hR hI.tell
    · refine z_aload 25 rfl rfl rfl ?_
      refine z_push 27 (-5) rfl rfl rfl ?_
      refine z_cv1 30 rfl rfl hR.1 rfl (Nat.le_refl _) (Nat.le_refl _) ?_
      refine r_tell hR (fun h9 => absurd h9 (by decide)) (fun _ h hR => ?_)
      refine z_i2l 31 rfl rfl ?_
      refine z_lret rfl (Nat.le_refl _) (Nat.le_refl _) ?_
      have e9 : sp_code A (nI P) x = (Int32.toInt64 (-5), A.tell) := by rw [sp_code, if_pos hc5, hp2, if_neg (by rw [hc21]; decide)]
      rw [e9] at q
      exact q h _ hR hI.tell
  · refine z_aload 9 rfl rfl rfl ?_
    refine z_push 10 (-1) rfl rfl rfl ?_
    refine z_cv1 13 rfl rfl hR.1 rfl (Nat.le_refl _) (Nat.le_refl _) ?_
    refine r_tell hR (fun h9 => absurd h9 (by decide)) (fun _ h hR => ?_)
    refine z_i2l 14 rfl rfl ?_
    refine z_lret rfl (Nat.le_refl _) (Nat.le_refl _) ?_
    rw [decide_eq_false_iff_not] at hc5
    have e9 : sp_code A p x = (Int32.toInt64 (-1), A.tell) := if_neg hc5
    rw [e9] at q
    exact q h _ hR hI.tell
set_option maxRecDepth 10000 in
theorem r_resultOf {d r : Nat} {h h0 : mH} {s : rS} {f kk nn k : Nat} {l : List Nat} {Q : mP} (hR : Rf r h0 s h) (ha : rArr f = some (kk, 0, nn)) (hf0 : f ∉ [18, 19, 20]) (hnn : l.length ≤ nn) (h6 : l.length ≤ 6000) (hl : Seg (s.2.2 f) 0 l)  (q : ∀ h' s', Rf r h0 s' h' → On [18, 19, 20] s s' → RRe s' (k, l) → Q (some (.int (nI l.length))) h') : mWP (d + 1) 228 [.ref r, .ref (r + kk), .int (nI l.length), .int (nI k)] h Q := by
  have loop : ∀ m i s1 h, l.length < i + m → i ≤ l.length → Rf r h0 s1 h → On [18, 19, 20] s s1 → (∀ j, j < i → s1.2.2 20 j = l.getD j 0) → mZ d tk_228 0 0 Q 3 [some (.ref r), some (.ref (r + kk)), some (.int (nI l.length)), some (.int (nI k)), some (.int (nI i))] [] h 0 0 := by
    intro m
    induction m with
    | zero => intro i s1 h h1 h2; omega
    | succ m ih =>
      intro i s1 h h1 h2 hR hO hb
      have hf1 : ∀ j, j < l.length → s1.2.2 f j = l.getD j 0 := fun j hj => by
        rw [(hO.1 f hf0).2]
        have := hl j hj
        rw [Nat.zero_add] at this
        exact this
      refine z_iload 5 rfl rfl rfl ?_
      refine z_iload 6 rfl rfl rfl ?_
      refine z_nge 9 rfl rfl (by omega) (by omega) (fun hc6 => ?_) (fun hc6 => ?_)
      · refine z_aload 27 rfl rfl rfl ?_
        refine z_iload 28 rfl rfl rfl ?_
        refine y_pi 31 hR rfl rfl rfl rfl rfl (mFi rfl) ?_
        intro h hR
        refine z_aload 32 rfl rfl rfl ?_
        refine z_iload 33 rfl rfl rfl ?_
        refine y_pi 36 hR rfl rfl rfl rfl rfl (mFi rfl) ?_
        intro h hR
        refine z_iload 37 rfl rfl rfl ?_
        refine z_ireti rfl (Nat.le_refl _) (Nat.le_refl _) ?_
        obtain rfl : i = l.length := by omega
        refine q h _ hR ((hO.I (by decide)).I (by decide)) ⟨?_, h6, gI_eq _ _ _, fun j hj => ?_⟩
        · repeat (first | with_reducible exact gI_eq _ _ _ | (with_reducible apply gI_ne; decide) | with_reducible apply gI_A | with_reducible apply gI_O | with_reducible rfl)
        · rw [Nat.zero_add]; exact hb j hj
      · refine z_aload 10 rfl rfl rfl ?_
        refine y_ga 13 hR rfl rfl rfl ?_
        refine z_iload 15 rfl rfl rfl ?_
        refine z_aload 16 rfl rfl rfl ?_
        refine z_iload 18 rfl rfl rfl ?_
        refine y_al (f := f) 19 _ hR rfl rfl ha rfl (by omega) (by repeat (first | with_reducible exact hf1 i (by omega) | with_reducible exact gA_eq _ _ _ _ | (with_reducible apply gA_ne; decide) | with_reducible apply gA_I | with_reducible apply gA_O | (with_reducible apply gA_nj; omega) | with_reducible rfl)) ?_
        refine y_as (f := 20) 20 hR rfl rfl rfl rfl (by omega) ?_
        intro h hR
        refine z_iinc 23 _ rfl rfl rfl rfl (by first | with_reducible exact zi_1 _ | rfl) ?_
        refine z_goto rfl ?_
        refine ih (i + 1) _ h (by omega) (by omega) hR (hO.A (by decide)) (fun j hj => ?_)
        by_cases e : j = i
        · subst e; exact gA_eq _ _ _ _
        · exact (gA_nj e rfl).trans (hb j (by omega))
  refine z_in [some (.ref r), some (.ref (r + kk)), some (.int (nI l.length)), some (.int (nI k)), none] (by rfl) rfl rfl rfl ?_
  refine z_push 1 (nI 0) rfl rfl rfl ?_
  refine z_istore 3 rfl rfl rfl rfl ?_
  exact loop (l.length + 1) 0 s h (by omega) (by omega) hR On.rfl (fun j hj => absurd hj (by omega))
/-- what is put so far stands in the array of field o -/
def OutAt (s : rS) (o : Nat) (l : List Nat) : Prop := s.2.1 = o ∧ s.1 37 = l.length ∧ Seg (s.2.2 o) 0 l
theorem stA_f (f j x : Nat) (s : rS) : (stA f j x s).2.2 f = updN (s.2.2 f) j x := by simp [stA]
theorem r_put1 {d r : Nat} {h h0 : mH} {s : rS} {o kk nn v : Nat} {l : List Nat} {Q : mP} (hR : Rf r h0 s h) (ho : OutAt s o l) (ha : rArr o = some (kk, 0, nn)) (hl : l.length < nn) (q : ∀ h' s', Rf r h0 s' h' → On [37, o] s s' → OutAt s' o (l ++ [v]) → Q none h') : mWP (d + 1) 210 [.ref r, .int (nI v)] h Q := by
  refine r_put hR ho.1 ha ho.2.1 hl (fun h' hR => ?_)
  refine q h' _ hR ((On.rfl.A (by simp)).I (by simp)) ⟨ho.1, ?_, ?_⟩
  · rw [gI_eq, List.length_append]; rfl
  · show Seg ((stA o l.length v s).2.2 o) 0 (l ++ [v])
    rw [stA_f]
    have := Seg.app (x := v) ho.2.2
    rw [Nat.zero_add] at this
    exact this
def puU (p : Nat) : List Nat := if p < 65536 then [p] else [utF p, utS p]
set_option maxRecDepth 10000 in
theorem r_putUnits {d r : Nat} {h h0 : mH} {s : rS} {o kk nn p : Nat} {l : List Nat} {Q : mP} (hR : Rf r h0 s h) (ho : OutAt s o l) (ha : rArr o = some (kk, 0, nn)) (hl : l.length + 2 ≤ nn) (hp : p < 1114112)  (q : ∀ h' s', Rf r h0 s' h' → On [37, o] s s' → OutAt s' o (l ++ puU p) → Q none h') : mWP (d + 2) 211 [.ref r, .int (nI p)] h Q := by
  refine z_in [some (.ref r), some (.int (nI p))] (by rfl) rfl rfl rfl ?_
  refine z_iload 1 rfl rfl rfl ?_
  refine z_push 3 (nI 65536) rfl rfl rfl ?_
  refine z_nge 6 rfl rfl (by omega) (by omega) (fun hc3 => ?_) (fun hc3 => ?_)
  · refine z_aload 13 rfl rfl rfl ?_
    refine z_iload 14 rfl rfl rfl ?_
    refine z_cs1 17 rfl rfl rfl (Nat.le_refl _) (Nat.le_refl _) ?_
    refine r_first (by omega) hp ?_
    refine z_cv1 20 rfl rfl hR.1 rfl (Nat.le_refl _) (Nat.le_refl _) ?_
    refine r_put1 hR ho ha (by omega) (fun h s1 hR hO ho1 => ?_)
    refine z_aload 21 rfl rfl rfl ?_
    refine z_iload 22 rfl rfl rfl ?_
    refine z_cs1 25 rfl rfl rfl (Nat.le_refl _) (Nat.le_refl _) ?_
    refine r_second (by omega) hp ?_
    refine z_cv1 28 rfl rfl hR.1 rfl (Nat.le_refl _) (Nat.le_refl _) ?_
    refine r_put1 hR ho1 ha (by rw [List.length_append, List.length_singleton]; omega) (fun h s2 hR hO2 ho2 => ?_)
    refine z_vret rfl (Nat.le_refl _) (Nat.le_refl _) ?_
    rw [show puU p = [utF p, utS p] from if_neg (by omega)] at q
    rw [List.append_assoc] at ho2
    exact q h s2 hR (hO.trans hO2) ho2
  · refine z_aload 7 rfl rfl rfl ?_
    refine z_iload 8 rfl rfl rfl ?_
    refine z_cv1 11 rfl rfl hR.1 rfl (Nat.le_refl _) (Nat.le_refl _) ?_
    refine r_put1 hR ho ha (by omega) (fun h s1 hR hO ho1 => ?_)
    refine z_vret rfl (Nat.le_refl _) (Nat.le_refl _) ?_
    rw [show puU p = [p] from if_pos (by omega)] at q
    exact q h s1 hR hO ho1
theorem RInv.on2 {s s1 : rS} {A : Ab} (h : RInv s A) (hO : On [15] s s1) : RPg s1 A.pgs ∧ RUn s1 A.uns ∧ True ∧ RRe s1 A.res ∧ RSg s1 A.sgn ∧ RFb s1 A.fbs ∧ RMc s1 A.mcs ∧ s1.1 22 = A.plc ∧ RBk s1 A.brk ∧ s1.1 24 = A.fnd ∧ s1.1 48 = 0 := by
  have n : ∀ c, c ≠ 15 → s1.1 c = s.1 c ∧ s1.2.2 c = s.2.2 c := fun c hc => hO.1 c (by simp [hc])
  obtain ⟨a1, a2, a3, a4, a5, a6, a7, a8, a9, a10, a11⟩ := h
  refine ⟨?_, ?_, trivial, ?_, ?_, ?_, fun d hd => ⟨fun e => ?_, fun m e => ?_⟩, (n 22 (by decide)).1.trans a8, ?_, (n 24 (by decide)).1.trans a10, (n 48 (by decide)).1.trans a11⟩
  · refine ⟨(n 0 (by decide)).1.trans a1.1, a1.2.1, fun p hp => ⟨?_, ?_, On.tb hO (by simp) (a1.2.2 p hp).2.2⟩⟩
    · rw [(n 1 (by decide)).2]; exact (a1.2.2 p hp).1
    · rw [(n 2 (by decide)).2]; exact (a1.2.2 p hp).2.1
  · simp only [RUn, (n 16 (by decide)).1, (n 17 (by decide)).2]; exact a3
  · simp only [RRe, (n 18 (by decide)).1, (n 19 (by decide)).1, (n 20 (by decide)).2]; exact a4
  · simp only [RSg, (n 21 (by decide)).2]; exact a5
  · simp only [RFb, (n 25 (by decide)).1, (n 26 (by decide)).2, (n 27 (by decide)).2, (n 28 (by decide)).2]; exact a6
  · rw [(n 52 (by decide)).2]; exact (a7 d hd).1 e
  · have := (a7 d hd).2 m e
    simp only [RM1, (n 52 (by decide)).2, (n 53 (by decide)).2, (n 54 (by decide)).2, (n 55 (by decide)).2, (n 56 (by decide)).2, (n 57 (by decide)).2, (n 58 (by decide)).2, (n 59 (by decide)).2, (n 60 (by decide)).2, (n 61 (by decide)).2, (n 62 (by decide)).2, (n 63 (by decide)).2]
    exact this
  · simp only [RBk, (n 23 (by decide)).2]; exact a9
theorem RInv.on3 {s s1 : rS} {A : Ab} (h : RInv s A) (hO : On [17] s s1) : RPg s1 A.pgs ∧ RBy s1 A.bys ∧ True ∧ RRe s1 A.res ∧ RSg s1 A.sgn ∧ RFb s1 A.fbs ∧ RMc s1 A.mcs ∧ s1.1 22 = A.plc ∧ RBk s1 A.brk ∧ s1.1 24 = A.fnd ∧ s1.1 48 = 0 := by
  have n : ∀ c, c ≠ 17 → s1.1 c = s.1 c ∧ s1.2.2 c = s.2.2 c := fun c hc => hO.1 c (by simp [hc])
  obtain ⟨a1, a2, a3, a4, a5, a6, a7, a8, a9, a10, a11⟩ := h
  refine ⟨?_, ?_, trivial, ?_, ?_, ?_, fun d hd => ⟨fun e => ?_, fun m e => ?_⟩, (n 22 (by decide)).1.trans a8, ?_, (n 24 (by decide)).1.trans a10, (n 48 (by decide)).1.trans a11⟩
  · refine ⟨(n 0 (by decide)).1.trans a1.1, a1.2.1, fun p hp => ⟨?_, ?_, On.tb hO (by simp) (a1.2.2 p hp).2.2⟩⟩
    · rw [(n 1 (by decide)).2]; exact (a1.2.2 p hp).1
    · rw [(n 2 (by decide)).2]; exact (a1.2.2 p hp).2.1
  · simp only [RBy, (n 14 (by decide)).1, (n 15 (by decide)).2]; exact a2
  · simp only [RRe, (n 18 (by decide)).1, (n 19 (by decide)).1, (n 20 (by decide)).2]; exact a4
  · simp only [RSg, (n 21 (by decide)).2]; exact a5
  · simp only [RFb, (n 25 (by decide)).1, (n 26 (by decide)).2, (n 27 (by decide)).2, (n 28 (by decide)).2]; exact a6
  · rw [(n 52 (by decide)).2]; exact (a7 d hd).1 e
  · have := (a7 d hd).2 m e
    simp only [RM1, (n 52 (by decide)).2, (n 53 (by decide)).2, (n 54 (by decide)).2, (n 55 (by decide)).2, (n 56 (by decide)).2, (n 57 (by decide)).2, (n 58 (by decide)).2, (n 59 (by decide)).2, (n 60 (by decide)).2, (n 61 (by decide)).2, (n 62 (by decide)).2, (n 63 (by decide)).2]
    exact this
  · simp only [RBk, (n 23 (by decide)).2]; exact a9
set_option maxRecDepth 10000 in
theorem r_fill {d r : Nat} {h h0 : mH} {s : rS} {A : Ab} {w : Int32} {Q : mP} (hR : Rf r h0 s h) (hI : RInv s A) (hZ2 : A.res.1 < 3)  (q : ∀ h' s', Rf r h0 s' h' → RInv s' (sp_fill A w).2 → Q (some (.int (sp_fill A w).1)) h') : mWP (d + 2) 209 [.ref r, .int w] h Q := by
  have f0 : s.1 0 = A.pgs.length := hI.1.1
  have f14 : s.1 14 = A.bys.length := hI.2.1.1
  have f16 : s.1 16 = A.uns.length := hI.2.2.1.1
  have f18 : s.1 18 = A.res.2.length := hI.2.2.2.1.1
  have f19 : s.1 19 = A.res.1 := hI.2.2.2.1.2.2.1
  have f22 : s.1 22 = A.plc := hI.2.2.2.2.2.2.2.1
  have f24 : s.1 24 = A.fnd := hI.2.2.2.2.2.2.2.2.2.1
  have f25 : s.1 25 = A.fbs.length := hI.2.2.2.2.2.1.1
  have f48 : s.1 48 = 0 := hI.2.2.2.2.2.2.2.2.2.2
  have l0 : A.pgs.length ≤ 10 := hI.1.2.1
  have l14 : A.bys.length ≤ 1000 := hI.2.1.2.1
  have l16 : A.uns.length ≤ 1000 := hI.2.2.1.2.1
  have l18 : A.res.2.length ≤ 6000 := hI.2.2.2.1.2.1
  have l25 : A.fbs.length ≤ 40 := hI.2.2.2.2.2.1.2.1
  refine z_in [some (.ref r), some (.int w), none] (by rfl) rfl rfl rfl ?_
  refine z_iload 1 rfl rfl rfl ?_
  refine z_push 2 (nI 0) rfl rfl rfl ?_
  refine z_push 3 (nI 3) rfl rfl rfl ?_
  refine z_cs3 6 rfl rfl rfl (Nat.le_refl _) (Nat.le_refl _) ?_
  refine r_in ?_
  rw [jIn_l (by omega) (by omega)]
  first | refine z_bne 9 rfl rfl (fun hc6 => ?_) (fun hc6 => ?_)
  · rw [decide_eq_true_eq] at hc6
    obtain ⟨W, hW9, rfl, hw1, hw2⟩ := ix_of (x := w) (n := 4) (by omega)
    have hWW : W = 0 ∨ W = 1 ∨ W = 2 ∨ W = 3 := by omega
    have loop2 : W = 2 → ∀ m i s1 h, A.res.2.length < i + m → i ≤ A.res.2.length → A.res.2.length ≤ 1000 → Rf r h0 s1 h → On [15] s s1 → (∀ j, j < i → s1.2.2 15 j = A.res.2.getD j 0) → sp_fill A (nI W) = (nI A.res.2.length, A.wBys A.res.2) → mZ (d + 1) tk_209 0 0 Q 91 [some (.ref r), some (.int (nI W)), some (.int (nI i))] [] h 0 0 := by
      intro hW0 m
      induction m with
      | zero => intro i s1 h h1 h2; omega
      | succ m ih =>
        intro i s1 h h1 h2 h3 hR hO hb e9
        have g18 : s1.1 18 = A.res.2.length := (hO.1 18 (by decide)).1.trans f18
        have g20 : ∀ j, j < A.res.2.length → s1.2.2 20 j = A.res.2.getD j 0 := fun j hj => by
          rw [(hO.1 20 (by decide)).2]
          have := hI.2.2.2.1.2.2.2 j hj
          rw [Nat.zero_add] at this
          exact this
        refine z_iload 92 rfl rfl rfl ?_
        refine z_aload 93 rfl rfl rfl ?_
        refine y_gi 96 _ hR rfl rfl rfl rfl rfl (by repeat (first | with_reducible exact gI_eq _ _ _ | (with_reducible apply gI_ne; decide) | with_reducible apply gI_A | with_reducible apply gI_O | with_reducible exact g18 | with_reducible exact g20 i (by omega) | with_reducible rfl)) ?_
        refine z_nge 99 rfl rfl (by omega) (by omega) (fun hc96 => ?_) (fun hc96 => ?_)
        · refine z_iload 138 rfl rfl rfl ?_
          refine z_push 139 (nI 2) rfl rfl rfl ?_
          refine z_nne 142 rfl rfl (by omega) (by omega) (fun h9 => absurd h9 (by omega)) (fun _ => ?_)
          refine z_aload 143 rfl rfl rfl ?_
          refine z_aload 144 rfl rfl rfl ?_
          refine y_gi 147 _ hR rfl rfl rfl rfl rfl (by repeat (first | with_reducible exact gI_eq _ _ _ | (with_reducible apply gI_ne; decide) | with_reducible apply gI_A | with_reducible apply gI_O | with_reducible exact g18 | with_reducible exact g20 i (by omega) | with_reducible rfl)) ?_
          refine y_pi 150 hR rfl rfl rfl rfl rfl (mFi rfl) ?_
          intro h hR
          refine z_goto rfl ?_
          refine z_aload 162 rfl rfl rfl ?_
          refine y_gi 165 _ hR rfl rfl rfl rfl rfl (by repeat (first | with_reducible exact gI_eq _ _ _ | (with_reducible apply gI_ne; decide) | with_reducible apply gI_A | with_reducible apply gI_O | with_reducible exact g18 | with_reducible exact g20 i (by omega) | with_reducible rfl)) ?_
          refine z_ireti rfl (Nat.le_refl _) (Nat.le_refl _) ?_
          obtain rfl : i = A.res.2.length := by omega
          rw [e9] at q
          obtain ⟨a1, a2, a3, a4, a5, a6, a7, a8, a9, a10, a11⟩ := (hI.on2 hO)
          refine q h _ hR ⟨a1, ⟨gI_eq _ _ _, h3, fun j hj => by rw [Nat.zero_add]; exact hb j hj⟩, a2, a4, a5, a6, a7, a8, a9, a10, a11⟩
        · refine z_iload 100 rfl rfl rfl ?_
          refine z_push 101 (nI 2) rfl rfl rfl ?_
          refine z_nne 104 rfl rfl (by omega) (by omega) (fun h9 => absurd h9 (by omega)) (fun _ => ?_)
          refine z_aload 105 rfl rfl rfl ?_
          refine y_ga 108 hR rfl rfl rfl ?_
          refine z_iload 109 rfl rfl rfl ?_
          refine z_aload 110 rfl rfl rfl ?_
          refine y_ga 113 hR rfl rfl rfl ?_
          refine z_iload 114 rfl rfl rfl ?_
          refine y_al (f := 20) 115 _ hR rfl rfl rfl rfl (by omega) (by repeat (first | with_reducible exact g18 | with_reducible exact g20 i (by omega) | with_reducible exact gA_eq _ _ _ _ | (with_reducible apply gA_ne; decide) | with_reducible apply gA_I | with_reducible apply gA_O | (with_reducible apply gA_nj; omega) | with_reducible rfl)) ?_
          refine y_as (f := 15) 116 hR rfl rfl rfl rfl (by omega) ?_
          intro h hR
          refine z_goto rfl ?_
          refine z_iinc 134 _ rfl rfl rfl rfl (by first | with_reducible exact zi_1 _ | rfl) ?_
          refine z_goto rfl ?_
          refine ih (i + 1) _ h (by omega) (by omega) h3 hR (hO.A (by decide)) (fun j hj => ?_) e9
          by_cases e : j = i
          · subst e; exact gA_eq _ _ _ _
          · exact (gA_nj e rfl).trans (hb j (by omega))
    have loop3 : W = 3 → ∀ m i s1 h, A.res.2.length < i + m → i ≤ A.res.2.length → A.res.2.length ≤ 1000 → Rf r h0 s1 h → On [17] s s1 → (∀ j, j < i → s1.2.2 17 j = A.res.2.getD j 0) → sp_fill A (nI W) = (nI A.res.2.length, A.wUns A.res.2) → mZ (d + 1) tk_209 0 0 Q 91 [some (.ref r), some (.int (nI W)), some (.int (nI i))] [] h 0 0 := by
      intro hW0 m
      induction m with
      | zero => intro i s1 h h1 h2; omega
      | succ m ih =>
        intro i s1 h h1 h2 h3 hR hO hb e9
        have g18 : s1.1 18 = A.res.2.length := (hO.1 18 (by decide)).1.trans f18
        have g20 : ∀ j, j < A.res.2.length → s1.2.2 20 j = A.res.2.getD j 0 := fun j hj => by
          rw [(hO.1 20 (by decide)).2]
          have := hI.2.2.2.1.2.2.2 j hj
          rw [Nat.zero_add] at this
          exact this
        refine z_iload 92 rfl rfl rfl ?_
        refine z_aload 93 rfl rfl rfl ?_
        refine y_gi 96 _ hR rfl rfl rfl rfl rfl (by repeat (first | with_reducible exact gI_eq _ _ _ | (with_reducible apply gI_ne; decide) | with_reducible apply gI_A | with_reducible apply gI_O | with_reducible exact g18 | with_reducible exact g20 i (by omega) | with_reducible rfl)) ?_
        refine z_nge 99 rfl rfl (by omega) (by omega) (fun hc96 => ?_) (fun hc96 => ?_)
        · refine z_iload 138 rfl rfl rfl ?_
          refine z_push 139 (nI 2) rfl rfl rfl ?_
          refine z_nne 142 rfl rfl (by omega) (by omega) (fun _ => ?_) (fun h9 => absurd h9 (by omega))
          refine z_aload 154 rfl rfl rfl ?_
          refine z_aload 155 rfl rfl rfl ?_
          refine y_gi 158 _ hR rfl rfl rfl rfl rfl (by repeat (first | with_reducible exact gI_eq _ _ _ | (with_reducible apply gI_ne; decide) | with_reducible apply gI_A | with_reducible apply gI_O | with_reducible exact g18 | with_reducible exact g20 i (by omega) | with_reducible rfl)) ?_
          refine y_pi 161 hR rfl rfl rfl rfl rfl (mFi rfl) ?_
          intro h hR
          refine z_aload 162 rfl rfl rfl ?_
          refine y_gi 165 _ hR rfl rfl rfl rfl rfl (by repeat (first | with_reducible exact gI_eq _ _ _ | (with_reducible apply gI_ne; decide) | with_reducible apply gI_A | with_reducible apply gI_O | with_reducible exact g18 | with_reducible exact g20 i (by omega) | with_reducible rfl)) ?_
          refine z_ireti rfl (Nat.le_refl _) (Nat.le_refl _) ?_
          obtain rfl : i = A.res.2.length := by omega
          rw [e9] at q
          obtain ⟨a1, a2, a3, a4, a5, a6, a7, a8, a9, a10, a11⟩ := (hI.on3 hO)
          refine q h _ hR ⟨a1, a2, ⟨gI_eq _ _ _, h3, fun j hj => by rw [Nat.zero_add]; exact hb j hj⟩, a4, a5, a6, a7, a8, a9, a10, a11⟩
        · refine z_iload 100 rfl rfl rfl ?_
          refine z_push 101 (nI 2) rfl rfl rfl ?_
          refine z_nne 104 rfl rfl (by omega) (by omega) (fun _ => ?_) (fun h9 => absurd h9 (by omega))
          refine z_aload 120 rfl rfl rfl ?_
          refine y_ga 123 hR rfl rfl rfl ?_
          refine z_iload 124 rfl rfl rfl ?_
          refine z_aload 125 rfl rfl rfl ?_
          refine y_ga 128 hR rfl rfl rfl ?_
          refine z_iload 129 rfl rfl rfl ?_
          refine y_al (f := 20) 130 _ hR rfl rfl rfl rfl (by omega) (by repeat (first | with_reducible exact g18 | with_reducible exact g20 i (by omega) | with_reducible exact gA_eq _ _ _ _ | (with_reducible apply gA_ne; decide) | with_reducible apply gA_I | with_reducible apply gA_O | (with_reducible apply gA_nj; omega) | with_reducible rfl)) ?_
          refine y_as (f := 17) 131 hR rfl rfl rfl rfl (by omega) ?_
          intro h hR
          refine z_iinc 134 _ rfl rfl rfl rfl (by first | with_reducible exact zi_1 _ | rfl) ?_
          refine z_goto rfl ?_
          refine ih (i + 1) _ h (by omega) (by omega) h3 hR (hO.A (by decide)) (fun j hj => ?_) e9
          by_cases e : j = i
          · subst e; exact gA_eq _ _ _ _
          · exact (gA_nj e rfl).trans (hb j (by omega))
    refine z_iload 16 rfl rfl rfl ?_
    rcases hWW with rfl | rfl | rfl | rfl
    · refine z_zne 19 rfl rfl (by omega) (fun h9 => absurd h9 (by omega)) (fun _ => ?_)
      refine z_aload 20 rfl rfl rfl ?_
      refine y_gi 23 _ hR rfl rfl rfl rfl rfl (by repeat (first | with_reducible exact gI_eq _ _ _ | (with_reducible apply gI_ne; decide) | with_reducible apply gI_A | with_reducible apply gI_O | with_reducible exact f0 | with_reducible exact f14 | with_reducible exact f16 | with_reducible exact f18 | with_reducible exact f19 | with_reducible exact f22 | with_reducible exact f24 | with_reducible exact f25 | with_reducible exact f48 | with_reducible rfl)) ?_
      refine z_istore 24 rfl rfl rfl rfl ?_
      refine z_aload 25 rfl rfl rfl ?_
      refine z_push 26 (nI 0) rfl rfl rfl ?_
      refine y_pi 29 hR rfl rfl rfl rfl rfl (mFi rfl) ?_
      intro h hR
      refine z_iload 30 rfl rfl rfl ?_
      refine z_ireti rfl (Nat.le_refl _) (Nat.le_refl _) ?_
      have e9 : sp_fill A (nI 0) = (nI A.bys.length, A.wBys []) := by
        rw [sp_fill, if_pos (by omega), if_pos (by omega)]
      rw [e9] at q
      obtain ⟨a1, a2, a3, a4, a5, a6, a7, a8, a9, a10, a11⟩ := hI
      exact q h _ hR ⟨a1, ⟨gI_eq _ _ _, Nat.zero_le _, fun j hj => absurd hj (Nat.not_lt_zero j)⟩, a3, a4, a5, a6, a7, a8, a9, a10, a11⟩
    · refine z_zne 19 rfl rfl (by omega) (fun _ => ?_) (fun h9 => absurd h9 (by omega))
      refine z_iload 32 rfl rfl rfl ?_
      refine z_push 33 (nI 1) rfl rfl rfl ?_
      refine z_nne 36 rfl rfl (by omega) (by omega) (fun h9 => absurd h9 (by omega)) (fun _ => ?_)
      refine z_aload 37 rfl rfl rfl ?_
      refine y_gi 40 _ hR rfl rfl rfl rfl rfl (by repeat (first | with_reducible exact gI_eq _ _ _ | (with_reducible apply gI_ne; decide) | with_reducible apply gI_A | with_reducible apply gI_O | with_reducible exact f0 | with_reducible exact f14 | with_reducible exact f16 | with_reducible exact f18 | with_reducible exact f19 | with_reducible exact f22 | with_reducible exact f24 | with_reducible exact f25 | with_reducible exact f48 | with_reducible rfl)) ?_
      refine z_istore 41 rfl rfl rfl rfl ?_
      refine z_aload 42 rfl rfl rfl ?_
      refine z_push 43 (nI 0) rfl rfl rfl ?_
      refine y_pi 46 hR rfl rfl rfl rfl rfl (mFi rfl) ?_
      intro h hR
      refine z_iload 47 rfl rfl rfl ?_
      refine z_ireti rfl (Nat.le_refl _) (Nat.le_refl _) ?_
      have e9 : sp_fill A (nI 1) = (nI A.uns.length, A.wUns []) := by
        rw [sp_fill, if_pos (by omega), if_neg (by omega), if_pos (by omega)]
      rw [e9] at q
      obtain ⟨a1, a2, a3, a4, a5, a6, a7, a8, a9, a10, a11⟩ := hI
      exact q h _ hR ⟨a1, a2, ⟨gI_eq _ _ _, Nat.zero_le _, fun j hj => absurd hj (Nat.not_lt_zero j)⟩, a4, a5, a6, a7, a8, a9, a10, a11⟩
    · refine z_zne 19 rfl rfl (by omega) (fun _ => ?_) (fun h9 => absurd h9 (by omega))
      refine z_iload 32 rfl rfl rfl ?_
      refine z_push 33 (nI 1) rfl rfl rfl ?_
      refine z_nne 36 rfl rfl (by omega) (by omega) (fun _ => ?_) (fun h9 => absurd h9 (by omega))
      refine z_aload 49 rfl rfl rfl ?_
      refine y_gi 52 _ hR rfl rfl rfl rfl rfl (by repeat (first | with_reducible exact gI_eq _ _ _ | (with_reducible apply gI_ne; decide) | with_reducible apply gI_A | with_reducible apply gI_O | with_reducible exact f0 | with_reducible exact f14 | with_reducible exact f16 | with_reducible exact f18 | with_reducible exact f19 | with_reducible exact f22 | with_reducible exact f24 | with_reducible exact f25 | with_reducible exact f48 | with_reducible rfl)) ?_
      refine z_iload 53 rfl rfl rfl ?_
      refine z_push 54 (nI 2) rfl rfl rfl ?_
      refine z_nne 57 rfl rfl (by omega) (by omega) (fun h9 => absurd h9 (by omega)) (fun _ => ?_)
      refine z_push 58 (nI 2) rfl rfl rfl ?_
      refine z_goto rfl ?_
      refine z_neq 65 rfl rfl (by omega) (by omega) (fun hc62 => ?_) (fun hc62 => ?_)
      · refine z_aload 73 rfl rfl rfl ?_
        refine y_gi 76 _ hR rfl rfl rfl rfl rfl (by repeat (first | with_reducible exact gI_eq _ _ _ | (with_reducible apply gI_ne; decide) | with_reducible apply gI_A | with_reducible apply gI_O | with_reducible exact f0 | with_reducible exact f14 | with_reducible exact f16 | with_reducible exact f18 | with_reducible exact f19 | with_reducible exact f22 | with_reducible exact f24 | with_reducible exact f25 | with_reducible exact f48 | with_reducible rfl)) ?_
        refine z_push 79 (nI 1000) rfl rfl rfl ?_
        refine z_nle 82 rfl rfl (by omega) (by omega) (fun hc79 => ?_) (fun hc79 => ?_)
        · refine z_push 90 (nI 0) rfl rfl rfl ?_
          refine z_istore 91 rfl rfl rfl rfl ?_
          exact loop2 rfl (A.res.2.length + 1) 0 s h (by omega) (by omega) (by omega) hR On.rfl (fun j hj => absurd hj (by omega)) (by rw [sp_fill, if_pos (by omega), if_neg (by omega), if_neg (by omega), if_pos (by omega), if_pos hc62, if_pos (by omega)])
        · refine z_aload 83 rfl rfl rfl ?_
          refine z_push 85 (-6) rfl rfl rfl ?_
          refine z_cv1 88 rfl rfl hR.1 rfl (Nat.le_refl _) (Nat.le_refl _) ?_
          refine r_tell hR (fun h9 => absurd h9 (by decide)) (fun _ h hR => ?_)
          refine z_ireti rfl (Nat.le_refl _) (Nat.le_refl _) ?_
          have e9 : sp_fill A (nI 2) = (-6, A.tell) := by
            rw [sp_fill, if_pos (by omega), if_neg (by omega), if_neg (by omega), if_pos (by omega), if_pos hc62, if_neg (by omega)]
          rw [e9] at q
          exact q h _ hR hI.tell
      · refine z_aload 66 rfl rfl rfl ?_
        refine z_push 68 (-2) rfl rfl rfl ?_
        refine z_cv1 71 rfl rfl hR.1 rfl (Nat.le_refl _) (Nat.le_refl _) ?_
        refine r_tell hR (fun h9 => absurd h9 (by decide)) (fun _ h hR => ?_)
        refine z_ireti rfl (Nat.le_refl _) (Nat.le_refl _) ?_
        have e9 : sp_fill A (nI 2) = (-2, A.tell) := by
          rw [sp_fill, if_pos (by omega), if_neg (by omega), if_neg (by omega), if_pos (by omega), if_neg hc62]
        rw [e9] at q
        exact q h _ hR hI.tell
    · refine z_zne 19 rfl rfl (by omega) (fun _ => ?_) (fun h9 => absurd h9 (by omega))
      refine z_iload 32 rfl rfl rfl ?_
      refine z_push 33 (nI 1) rfl rfl rfl ?_
      refine z_nne 36 rfl rfl (by omega) (by omega) (fun _ => ?_) (fun h9 => absurd h9 (by omega))
      refine z_aload 49 rfl rfl rfl ?_
      refine y_gi 52 _ hR rfl rfl rfl rfl rfl (by repeat (first | with_reducible exact gI_eq _ _ _ | (with_reducible apply gI_ne; decide) | with_reducible apply gI_A | with_reducible apply gI_O | with_reducible exact f0 | with_reducible exact f14 | with_reducible exact f16 | with_reducible exact f18 | with_reducible exact f19 | with_reducible exact f22 | with_reducible exact f24 | with_reducible exact f25 | with_reducible exact f48 | with_reducible rfl)) ?_
      refine z_iload 53 rfl rfl rfl ?_
      refine z_push 54 (nI 2) rfl rfl rfl ?_
      refine z_nne 57 rfl rfl (by omega) (by omega) (fun _ => ?_) (fun h9 => absurd h9 (by omega))
      refine z_push 62 (nI 1) rfl rfl rfl ?_
      refine z_neq 65 rfl rfl (by omega) (by omega) (fun hc62 => ?_) (fun hc62 => ?_)
      · refine z_aload 73 rfl rfl rfl ?_
        refine y_gi 76 _ hR rfl rfl rfl rfl rfl (by repeat (first | with_reducible exact gI_eq _ _ _ | (with_reducible apply gI_ne; decide) | with_reducible apply gI_A | with_reducible apply gI_O | with_reducible exact f0 | with_reducible exact f14 | with_reducible exact f16 | with_reducible exact f18 | with_reducible exact f19 | with_reducible exact f22 | with_reducible exact f24 | with_reducible exact f25 | with_reducible exact f48 | with_reducible rfl)) ?_
        refine z_push 79 (nI 1000) rfl rfl rfl ?_
        refine z_nle 82 rfl rfl (by omega) (by omega) (fun hc79 => ?_) (fun hc79 => ?_)
        · refine z_push 90 (nI 0) rfl rfl rfl ?_
          refine z_istore 91 rfl rfl rfl rfl ?_
          exact loop3 rfl (A.res.2.length + 1) 0 s h (by omega) (by omega) (by omega) hR On.rfl (fun j hj => absurd hj (by omega)) (by rw [sp_fill, if_pos (by omega), if_neg (by omega), if_neg (by omega), if_neg (by omega), if_pos hc62, if_pos (by omega)])
        · refine z_aload 83 rfl rfl rfl ?_
          refine z_push 85 (-6) rfl rfl rfl ?_
          refine z_cv1 88 rfl rfl hR.1 rfl (Nat.le_refl _) (Nat.le_refl _) ?_
          refine r_tell hR (fun h9 => absurd h9 (by decide)) (fun _ h hR => ?_)
          refine z_ireti rfl (Nat.le_refl _) (Nat.le_refl _) ?_
          have e9 : sp_fill A (nI 3) = (-6, A.tell) := by
            rw [sp_fill, if_pos (by omega), if_neg (by omega), if_neg (by omega), if_neg (by omega), if_pos hc62, if_neg (by omega)]
          rw [e9] at q
          exact q h _ hR hI.tell
      · refine z_aload 66 rfl rfl rfl ?_
        refine z_push 68 (-2) rfl rfl rfl ?_
        refine z_cv1 71 rfl rfl hR.1 rfl (Nat.le_refl _) (Nat.le_refl _) ?_
        refine r_tell hR (fun h9 => absurd h9 (by decide)) (fun _ h hR => ?_)
        refine z_ireti rfl (Nat.le_refl _) (Nat.le_refl _) ?_
        have e9 : sp_fill A (nI 3) = (-2, A.tell) := by
          rw [sp_fill, if_pos (by omega), if_neg (by omega), if_neg (by omega), if_neg (by omega), if_neg hc62]
        rw [e9] at q
        exact q h _ hR hI.tell
  · refine z_aload 10 rfl rfl rfl ?_
    refine z_push 11 (-1) rfl rfl rfl ?_
    refine z_cv1 14 rfl rfl hR.1 rfl (Nat.le_refl _) (Nat.le_refl _) ?_
    refine r_tell hR (fun h9 => absurd h9 (by decide)) (fun _ h hR => ?_)
    refine z_ireti rfl (Nat.le_refl _) (Nat.le_refl _) ?_
    rw [decide_eq_false_iff_not] at hc6
    have e9 : sp_fill A w = (-1, A.tell) := if_neg (by omega)
    rw [e9] at q
    exact q h _ hR hI.tell
