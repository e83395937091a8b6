/-! the reference: reading -/
theorem cmn_b {n v : Nat} {bs : List Nat} : ∀ (m j : Nat), j ≤ bs.length → cmn n v bs m j ≤ bs.length
  | 0, _, h => h
  | m + 1, j, h => by
    unfold cmn
    split
    · exact cmn_b m (j + 1) (by omega)
    · exact h
theorem lkFl_b {n : Nat} {bs : List Nat} (hb : ∀ j, bs.getD j 0 < 256) (hn : n ≤ 4) : ∀ (m k v : Nat), m = n - k → 1 ≤ k → k ≤ n → k ≤ bs.length → (k = n → v < 1114112) → (lkFl n bs m k v).1 = 2 → (lkFl n bs m k v).2.1 = n ∧ n ≤ bs.length ∧ (lkFl n bs m k v).2.2 < 1114112
  | 0, k, v, hm, hk, hkn, hkb, hv, _ => by
    obtain rfl : k = n := by omega
    exact ⟨rfl, hkb, hv rfl⟩
  | m + 1, k, v, hm, hk, hkn, hkb, hv, h => by
    unfold lkFl at h ⊢
    split
    · rename_i h1; rw [if_pos h1] at h; exact absurd h (by decide)
    · rename_i h1
      rw [if_neg h1] at h
      split
      · rename_i h2
        rw [if_pos h2] at h
        split
        · rename_i h3; rw [if_pos h3] at h; exact absurd h (by decide)
        · rename_i h3
          rw [if_neg h3] at h
          refine lkFl_b hb hn m (k + 1) _ (by omega) (by omega) (by omega) (by omega) (fun e => ?_) h
          rw [fwX, decide_eq_true_eq, show 6 * (n - 1 - k) = 0 by omega] at h3
          omega
      · rename_i h2; rw [if_neg h2] at h; exact absurd h (by decide)
theorem lkF_b {bs : List Nat} (hb : ∀ j, bs.getD j 0 < 256) (hn : 1 ≤ bs.length) (h : (lkF bs).1 = 2) : 1 ≤ (lkF bs).2.1 ∧ (lkF bs).2.1 ≤ bs.length ∧ (lkF bs).2.2 < 1114112 := by
  unfold lkF at h ⊢
  split
  · rename_i h1; rw [if_pos h1] at h; exact absurd h (by decide)
  · rename_i h1
    rw [if_neg h1] at h
    have hm : fwM (bs.getD 0 0) ≤ 4 := by unfold fwM; repeat' split
                                          all_goals omega
    have h2 := lkFl_b hb hm _ 1 _ rfl (by decide) (by omega) hn (fun e => by rw [← e, fwB, if_pos rfl]; have := hb 0; omega) h
    rw [h2.1]
    exact ⟨by omega, h2.2.1, h2.2.2⟩
theorem lkU_b {hi : Bool} {bs : List Nat} (hb : ∀ j, bs.getD j 0 < 256) (h : (lkU hi bs).1 = 2) : 1 ≤ (lkU hi bs).2.1 ∧ (lkU hi bs).2.1 ≤ bs.length ∧ (lkU hi bs).2.2 < 1114112 := by
  have h0 := hb 0
  have h1 := hb 1
  have h2 := hb 2
  have h3 := hb 3
  clear hb
  unfold lkU at h ⊢
  generalize bs.getD 0 0 = b0 at *
  generalize bs.getD 1 0 = b1 at *
  generalize bs.getD 2 0 = b2 at *
  generalize bs.getD 3 0 = b3 at *
  split at h
  · rename_i c0
    simp only [c0, if_true]
    split at h
    · exact absurd h (by decide)
    · rename_i c1
      rw [if_neg c1]
      split at h
      · exact absurd h (by decide)
      · rename_i c2
        rw [if_neg c2]
        split at h
        · rename_i c3
          rw [if_pos c3]
          split at h
          · exact absurd h (by decide)
          · rename_i c4
            rw [if_neg c4]
            split at h
            · rename_i c5
              rw [if_pos c5]
              split at h
              · exact absurd h (by decide)
              · rename_i c6
                rw [if_neg c6]
                refine ⟨?_, ?_, ?_⟩ <;> simp only <;> omega
            · exact absurd h (by decide)
        · rename_i c3
          rw [if_neg c3]
          refine ⟨?_, ?_, ?_⟩ <;> simp only <;> omega
  · rename_i c0
    rw [if_neg c0]
    split at h
    · exact absurd h (by decide)
    · rename_i c1
      rw [if_neg c1]
      split at h
      · exact absurd h (by decide)
      · rename_i c2
        rw [if_neg c2]
        split at h
        · rename_i c3
          rw [if_pos c3]
          split at h
          · exact absurd h (by decide)
          · rename_i c4
            rw [if_neg c4]
            split at h
            · rename_i c5
              rw [if_pos c5]
              refine ⟨?_, ?_, ?_⟩ <;> simp only <;> omega
            · exact absurd h (by decide)
        · rename_i c3
          rw [if_neg c3]
          refine ⟨?_, ?_, ?_⟩ <;> simp only <;> omega
theorem ffd_p {P : Nat → Bool} {k : Nat} : ∀ {m i : Nat}, ffd P m i = some k → P k = true
  | 0, _, h => by cases h
  | m + 1, i, h => by
    unfold ffd at h
    split at h
    · rename_i hp; cases h; exact hp
    · exact ffd_p h
theorem lkT_2 {due : Nat} {fr : Bool} {E : List En} {H : List Sh} {bs : List Nat} (h : (lkT E H due fr bs).1 = 2) : ∃ k, ffd (mtW E due bs) E.length 0 = some k ∧ lkT E H due fr bs = (2, enN E k, enP E k) := by
  unfold lkT at h ⊢
  generalize (if fr = true then ffd (sQ H due (bs.getD 0 0)) H.length 0 else none) = g at h ⊢
  rcases hf : ffd (mtW E due bs) E.length 0 with _ | k
  · rw [hf] at h
    exfalso
    cases g with
    | some k => exact absurd (show (3 : Nat) = 2 from h) (by decide)
    | none =>
      by_cases ha : anyB (mtP E due bs) E.length = true
      · simp [ha] at h
      · simp [ha] at h
  · exact ⟨k, rfl, rfl⟩
theorem lkT_3 {due : Nat} {fr : Bool} {E : List En} {H : List Sh} {bs : List Nat} (h : (lkT E H due fr bs).1 = 3) : fr = true ∧ ∃ k, ffd (sQ H due (bs.getD 0 0)) H.length 0 = some k ∧ lkT E H due fr bs = (3, k, 0) := by
  unfold lkT at h ⊢
  rcases hf : ffd (mtW E due bs) E.length 0 with _ | k
  · rw [hf] at h
    cases fr with
    | true =>
      refine ⟨rfl, ?_⟩
      simp only [if_true] at h ⊢
      rcases hs : ffd (sQ H due (bs.getD 0 0)) H.length 0 with _ | k
      · rw [hs] at h
        exfalso
        by_cases ha : anyB (mtP E due bs) E.length = true
        · simp [ha] at h
        · simp [ha] at h
      · exact ⟨k, rfl, rfl⟩
    | false =>
      exfalso
      by_cases ha : anyB (mtP E due bs) E.length = true
      · simp [ha] at h
      · simp [ha] at h
  · rw [hf] at h
    exact absurd (show (2 : Nat) = 3 from h) (by decide)
theorem lkT_4 (due : Nat) (fr : Bool) (E : List En) (H : List Sh) (bs : List Nat) : (lkT E H due fr bs).1 < 4 := by
  unfold lkT
  generalize (if fr = true then ffd (sQ H due (bs.getD 0 0)) H.length 0 else none) = g
  rcases hf : ffd (mtW E due bs) E.length 0 with _ | k
  · cases g with
    | some k => exact (by decide : (3 : Nat) < 4)
    | none =>
      by_cases ha : anyB (mtP E due bs) E.length = true
      · simp [ha]
      · simp [ha]
  · exact (by decide : (2 : Nat) < 4)
theorem lk_4 (K st pn : Nat) (E : List En) (H : List Sh) (bs : List Nat) : (lk K E H st pn bs).1 < 4 := by
  unfold lk
  split
  · have := lkF_3 bs; omega
  · split
    · exact lkT_4 _ _ _ _ _
    · have := lkU_3 (decide (K = 1)) bs; omega
theorem lk_b {K st pn : Nat} {E : List En} {H : List Sh} {bs : List Nat} (hW : TbW E H) (hb : ∀ j, bs.getD j 0 < 256) (hn : 1 ≤ bs.length) (h : (lk K E H st pn bs).1 = 2) : 1 ≤ (lk K E H st pn bs).2.1 ∧ (lk K E H st pn bs).2.1 ≤ bs.length ∧ (lk K E H st pn bs).2.2 < 1114112 := by
  unfold lk at h ⊢
  split
  · rename_i c; rw [if_pos c] at h; exact lkF_b hb hn h
  · rename_i c
    rw [if_neg c] at h
    split
    · rename_i c2
      rw [if_pos c2] at h
      obtain ⟨k, hf, he⟩ := lkT_2 h
      rw [he]
      have h1 := ffd_p hf
      have h2 := ffd_lt hf
      simp only [mtW, Bool.and_eq_true, decide_eq_true_eq] at h1
      have h3 : cmS E bs k ≤ bs.length := cmn_b _ _ (by omega)
      have h4 := hW.2.2.1 k (by omega)
      exact ⟨h4.2.1, by simp only; omega, nPt_lt h4.2.2.2.2⟩
    · rename_i c2
      rw [if_neg c2] at h
      exact lkU_b hb h
theorem lk_c {K st pn : Nat} {E : List En} {H : List Sh} {bs : List Nat} (h : (lk K E H st pn bs).1 = 3) : (lk K E H st pn bs).2.1 < H.length ∧ pn = 4 := by
  unfold lk at h ⊢
  split
  · rename_i c; rw [if_pos c] at h; exact absurd h (by have := lkF_3 bs; omega)
  · rename_i c
    rw [if_neg c] at h
    split
    · rename_i c2
      rw [if_pos c2] at h
      obtain ⟨hfr, k, hs, he⟩ := lkT_3 h
      rw [he]
      have := ffd_lt hs
      exact ⟨by simp only; omega, of_decide_eq_true hfr⟩
    · rename_i c2
      rw [if_neg c2] at h
      exact absurd h (by have := lkU_3 (decide (K = 1)) bs; omega)
/-- one step of reading: bytes used (0: refused, or more must come), state, pending, units, faults -/
def rd1 (K : Nat) (E : List En) (H : List Sh) (rule sg : Nat) (last : Bool) (st pn : Nat) (bs : List Nat) : Nat × Nat × Nat × List Nat × Nat :=
  if (lk K E H st pn bs).1 = 1 ∧ last = false then (0, st, pn, [], 0)
  else if (lk K E H st pn bs).1 = 2 then ((lk K E H st pn bs).2.1, st, 4, puU (lk K E H st pn bs).2.2, 0)
  else if (lk K E H st pn bs).1 = 3 then (if shK H (lk K E H st pn bs).2.1 = true then (1, shG H (lk K E H st pn bs).2.1, pn, [], 0) else (1, st, shG H (lk K E H st pn bs).2.1, [], 0))
  else if rule = 0 then (0, st, pn, [], 1)
  else (1, st, 4, if rule = 1 then puU sg else if rule = 3 then [56320 + bs.getD 0 0] else [], 1)
def rI (x : Nat × Nat × Nat × List Nat × Nat) : Int32 := if x.1 = 0 ∧ x.2.2.2.2 = 1 then -9 else nI x.1
def rdL (o : Nat) : List Nat := [34, 35, 37, 39, 40, 41, 42, o]
theorem puU_len (p : Nat) : (puU p).length ≤ 2 := by unfold puU; split <;> simp
set_option maxRecDepth 10000 in
theorem r_readOne {d r : Nat} {h h0 : mH} {s : rS} {p K st pn rule sg fc o ok on : Nat} {last : Bool} {l : List Nat} {E : List En} {H : List Sh} {f kk nn a : Nat} {bs : List Nat} {Q : mP} (hR : Rf r h0 s h) (hp11 : p < 11) (hk : s.2.2 1 p = K) (hK : K < 4) (hT : TbR s p E H) (hW : TbW E H) (h34 : s.1 34 = st) (h35 : s.1 35 = pn) (hst : st < 4) (hpn : pn ≤ 4) (hru : rule < 4) (hsg : s.2.2 21 0 = sg) (hsgb : sg < 1114112) (h39 : s.1 39 = fc) (ho : OutAt s o l) (hoa : rArr o = some (ok, 0, on)) (hol : l.length + 2 ≤ on) (hoL : o ∉ [40, 41, 42]) (hfL : f ∉ [40, 41, 42]) (hno : ∀ c, c ∈ [34, 35, 39, 40, 41, 42] → c ∉ [37, o]) (ha : rArr f = some (kk, 0, nn)) (hb : ByAt s f a bs) (hn1 : 1 ≤ bs.length) (hnn : a + bs.length ≤ nn) (hnb : nn < 2 ^ 30)  (q : ∀ h' s', Rf r h0 s' h' → On (rdL o) s s' → s'.1 34 = (rd1 K E H rule sg last st pn bs).2.1 → s'.1 35 = (rd1 K E H rule sg last st pn bs).2.2.1 → s'.1 39 = fc + (rd1 K E H rule sg last st pn bs).2.2.2.2 → OutAt s' o (l ++ (rd1 K E H rule sg last st pn bs).2.2.2.1) → Q (some (.int (rI (rd1 K E H rule sg last st pn bs)))) h') : mWP (d + 5) 215 [.ref r, .int (nI p), .int (nI rule), .ref (r + kk), .int (nI a), .int (nI (a + bs.length)), .int (bI last)] h Q := by
  refine z_in [some (.ref r), some (.int (nI p)), some (.int (nI rule)), some (.ref (r + kk)), some (.int (nI a)), some (.int (nI (a + bs.length))), some (.int (bI last)), none] (by rfl) rfl rfl rfl ?_
  refine z_aload 1 rfl rfl rfl ?_
  refine z_iload 2 rfl rfl rfl ?_
  refine z_aload 3 rfl rfl rfl ?_
  refine z_iload 5 rfl rfl rfl ?_
  refine z_iload 7 rfl rfl rfl ?_
  refine z_cv4 10 rfl rfl hR.1 rfl (Nat.le_refl _) (Nat.le_refl _) ?_
  refine r_look hR hp11 hk hK hT hW h34 h35 hst hpn ha hb hn1 hnn hnb (fun h s1 hR hO hF2 hF3 => ?_)
  have hx3 : (lk K E H st pn bs).1 < 4 := lk_4 _ _ _ _ _ _
  have ho1 : OutAt s1 o l := ⟨hO.2.trans ho.1, (hO.1 37 (by decide)).1.trans ho.2.1, by rw [(hO.1 o hoL).2]; exact ho.2.2⟩
  have g39 : s1.1 39 = fc := (hO.1 39 (by decide)).1.trans h39
  have g34 : s1.1 34 = st := (hO.1 34 (by decide)).1.trans h34
  have g35 : s1.1 35 = pn := (hO.1 35 (by decide)).1.trans h35
  have hT1 := hO.tb (by decide) hT
  obtain ⟨hT11, hT12, hT13, hT14, hT15⟩ := id hT1
  have gsg : s1.2.2 21 0 = sg := by rw [(hO.1 21 (by decide)).2]; exact hsg
  have gb0 : s1.2.2 f a = bs.getD 0 0 := by rw [(hO.1 f hfL).2]; exact hb.1 0 (by omega)
  have hb0 := hb.2 0
  refine z_istore 12 rfl rfl rfl rfl ?_
  refine z_iload 14 rfl rfl rfl ?_
  refine z_push 15 (nI 1) rfl rfl rfl ?_
  refine z_nne 18 rfl rfl (by omega) (by omega) (fun hc15 => ?_) (fun hc15 => ?_)
  · refine z_iload 27 rfl rfl rfl ?_
    refine z_push 28 (nI 2) rfl rfl rfl ?_
    refine z_nne 31 rfl rfl (by omega) (by omega) (fun hc28 => ?_) (fun hc28 => ?_)
    · refine z_iload 51 rfl rfl rfl ?_
      refine z_push 52 (nI 3) rfl rfl rfl ?_
      refine z_nne 55 rfl rfl (by omega) (by omega) (fun hc52 => ?_) (fun hc52 => ?_)
      · refine z_aload 99 rfl rfl rfl ?_
        first | refine z_dup 100 rfl rfl ?_ | refine z_dupi 100 rfl rfl ?_
        refine y_gi 103 _ hR rfl rfl rfl rfl rfl (by repeat (first | with_reducible exact gI_eq _ _ _ | (with_reducible apply gI_ne; decide) | with_reducible apply gI_A | with_reducible apply gI_O | with_reducible exact hm2 | with_reducible exact hm1 | with_reducible exact hm3 | with_reducible exact k40 | with_reducible exact hs3 | with_reducible exact hs4 | with_reducible exact g39 | with_reducible exact gsg | with_reducible exact gb0 | with_reducible rfl)) ?_
        refine z_push 104 (nI 1) rfl rfl rfl ?_
        refine z_bop 105 _ rfl rfl (by first | with_reducible exact zb_0 _ _ | exact zd_0 _ _) ?_
        refine y_pi 108 hR rfl rfl rfl rfl rfl (mFi rfl) ?_
        intro h hR
        refine z_iload 109 rfl rfl rfl ?_
        first | refine z_zne 112 rfl rfl (by omega) (fun hc109 => ?_) (fun hc109 => ?_)
        · refine z_aload 116 rfl rfl rfl ?_
          refine z_push 117 (nI 4) rfl rfl rfl ?_
          refine y_pi 120 hR rfl rfl rfl rfl rfl (mFi rfl) ?_
          intro h hR
          have ho3 : OutAt (stI 35 4 (stI 39 (fc + 1) s1)) o l := ho1
          refine z_iload 121 rfl rfl rfl ?_
          refine z_push 122 (nI 1) rfl rfl rfl ?_
          refine z_nne 125 rfl rfl (by omega) (by omega) (fun hc122 => ?_) (fun hc122 => ?_)
          · refine z_iload 136 rfl rfl rfl ?_
            refine z_push 137 (nI 3) rfl rfl rfl ?_
            refine z_nne 140 rfl rfl (by omega) (by omega) (fun hc137 => ?_) (fun hc137 => ?_)
            · refine z_push 152 (nI 1) rfl rfl rfl ?_
              refine z_ireti rfl (Nat.le_refl _) (Nat.le_refl _) ?_
              have e9 : rd1 K E H rule sg last st pn bs = (1, st, 4, [], 1) := by rw [rd1, if_neg (fun h9 => by first | omega | (rw [hc20] at h9; exact absurd h9.2 (by decide))), if_neg (fun h9 => by first | omega | (rw [hc20] at h9; exact absurd h9.2 (by decide))), if_neg (fun h9 => by first | omega | (rw [hc20] at h9; exact absurd h9.2 (by decide))), if_neg hc109, if_neg hc122, if_neg hc137]
              rw [e9] at q
              exact q h _ hR (((hO.mono (by simp [rdL])).I (by simp [rdL])).I (by simp [rdL])) g34 (gI_eq _ _ _) (gI_ne (by decide) (gI_eq _ _ _)) (by rw [List.append_nil]; exact ho1)
            · refine z_aload 141 rfl rfl rfl ?_
              refine z_push 143 (nI 56320) rfl rfl rfl ?_
              refine z_aload 144 rfl rfl rfl ?_
              refine z_iload 146 rfl rfl rfl ?_
              refine y_al (f := f) 147 _ hR rfl rfl ha rfl (by omega) (by repeat (first | with_reducible exact hm2 | with_reducible exact hm1 | with_reducible exact hm3 | with_reducible exact k40 | with_reducible exact hs3 | with_reducible exact hs4 | with_reducible exact g39 | with_reducible exact gsg | with_reducible exact gb0 | with_reducible exact gA_eq _ _ _ _ | (with_reducible apply gA_ne; decide) | with_reducible apply gA_I | with_reducible apply gA_O | (with_reducible apply gA_nj; omega) | with_reducible rfl)) ?_
              refine z_bop 148 _ rfl rfl (by first | with_reducible exact zb_0 _ _ | exact zd_0 _ _) ?_
              refine z_cv1 151 rfl rfl hR.1 rfl (Nat.le_refl _) (Nat.le_refl _) ?_
              refine r_put1 hR ho3 hoa (by omega) (fun h s2 hR hO2 ho2 => ?_)
              refine z_push 152 (nI 1) rfl rfl rfl ?_
              refine z_ireti rfl (Nat.le_refl _) (Nat.le_refl _) ?_
              have e9 : rd1 K E H rule sg last st pn bs = (1, st, 4, [56320 + bs.getD 0 0], 1) := by rw [rd1, if_neg (fun h9 => by first | omega | (rw [hc20] at h9; exact absurd h9.2 (by decide))), if_neg (fun h9 => by first | omega | (rw [hc20] at h9; exact absurd h9.2 (by decide))), if_neg (fun h9 => by first | omega | (rw [hc20] at h9; exact absurd h9.2 (by decide))), if_neg hc109, if_neg hc122, if_pos hc137]
              rw [e9] at q
              exact q h s2 hR ((((hO.mono (by simp [rdL])).I (by simp [rdL])).I (by simp [rdL])).trans (hO2.mono (by simp [rdL]))) ((hO2.1 34 (hno 34 (by decide))).1.trans g34) ((hO2.1 35 (hno 35 (by decide))).1.trans (gI_eq _ _ _)) ((hO2.1 39 (hno 39 (by decide))).1.trans (gI_ne (by decide) (gI_eq _ _ _))) ho2
          · refine z_aload 126 rfl rfl rfl ?_
            refine z_aload 127 rfl rfl rfl ?_
            refine y_ga 130 hR rfl rfl rfl ?_
            refine z_push 131 (nI 0) rfl rfl rfl ?_
            refine y_al (f := 21) 132 _ hR rfl rfl rfl rfl (by omega) (by repeat (first | with_reducible exact hm2 | with_reducible exact hm1 | with_reducible exact hm3 | with_reducible exact k40 | with_reducible exact hs3 | with_reducible exact hs4 | with_reducible exact g39 | with_reducible exact gsg | with_reducible exact gb0 | with_reducible exact gA_eq _ _ _ _ | (with_reducible apply gA_ne; decide) | with_reducible apply gA_I | with_reducible apply gA_O | (with_reducible apply gA_nj; omega) | with_reducible rfl)) ?_
            refine z_cv1 135 rfl rfl hR.1 rfl (Nat.le_refl _) (Nat.le_refl _) ?_
            refine r_putUnits hR ho3 hoa (by omega) (by omega) (fun h s2 hR hO2 ho2 => ?_)
            refine z_iload 136 rfl rfl rfl ?_
            refine z_push 137 (nI 3) rfl rfl rfl ?_
            refine z_nne 140 rfl rfl (by omega) (by omega) (fun _ => ?_) (fun h9 => absurd h9 (by omega))
            refine z_push 152 (nI 1) rfl rfl rfl ?_
            refine z_ireti rfl (Nat.le_refl _) (Nat.le_refl _) ?_
            have e9 : rd1 K E H rule sg last st pn bs = (1, st, 4, puU sg, 1) := by rw [rd1, if_neg (fun h9 => by first | omega | (rw [hc20] at h9; exact absurd h9.2 (by decide))), if_neg (fun h9 => by first | omega | (rw [hc20] at h9; exact absurd h9.2 (by decide))), if_neg (fun h9 => by first | omega | (rw [hc20] at h9; exact absurd h9.2 (by decide))), if_neg hc109, if_pos hc122]
            rw [e9] at q
            exact q h s2 hR ((((hO.mono (by simp [rdL])).I (by simp [rdL])).I (by simp [rdL])).trans (hO2.mono (by simp [rdL]))) ((hO2.1 34 (hno 34 (by decide))).1.trans g34) ((hO2.1 35 (hno 35 (by decide))).1.trans (gI_eq _ _ _)) ((hO2.1 39 (hno 39 (by decide))).1.trans (gI_ne (by decide) (gI_eq _ _ _))) ho2
        · refine z_push 114 (-9) rfl rfl rfl ?_
          refine z_ireti rfl (Nat.le_refl _) (Nat.le_refl _) ?_
          have e9 : rd1 K E H rule sg last st pn bs = (0, st, pn, [], 1) := by rw [rd1, if_neg (fun h9 => by first | omega | (rw [hc20] at h9; exact absurd h9.2 (by decide))), if_neg (fun h9 => by first | omega | (rw [hc20] at h9; exact absurd h9.2 (by decide))), if_neg (fun h9 => by first | omega | (rw [hc20] at h9; exact absurd h9.2 (by decide))), if_pos hc109]
          rw [e9] at q
          exact q h _ hR ((hO.mono (by simp [rdL])).I (by simp [rdL])) g34 g35 (gI_eq _ _ _) (by rw [List.append_nil]; exact ho1)
      · have hm3 := hF3 hc52
        obtain ⟨hc1, hc2⟩ := lk_c hc52
        obtain ⟨hs1, hs2, hs3, hs4⟩ := hT15 _ hc1
        have hl10 := hW.2.1
        have hWk := hW.2.2.2 _ hc1
        refine z_aload 56 rfl rfl rfl ?_
        refine y_ga 59 hR rfl rfl rfl ?_
        refine z_aload 60 rfl rfl rfl ?_
        refine y_gi 63 _ hR rfl rfl rfl rfl rfl (by repeat (first | with_reducible exact gI_eq _ _ _ | (with_reducible apply gI_ne; decide) | with_reducible apply gI_A | with_reducible apply gI_O | with_reducible exact hm2 | with_reducible exact hm1 | with_reducible exact hm3 | with_reducible exact k40 | with_reducible exact hs3 | with_reducible exact hs4 | with_reducible exact g39 | with_reducible exact gsg | with_reducible exact gb0 | with_reducible rfl)) ?_
        refine y_bb (f := 13) 64 _ hR rfl rfl rfl rfl (by omega) (by repeat (first | with_reducible exact hm2 | with_reducible exact hm1 | with_reducible exact hm3 | with_reducible exact k40 | with_reducible exact hs3 | with_reducible exact hs4 | with_reducible exact g39 | with_reducible exact gsg | with_reducible exact gb0 | with_reducible exact gA_eq _ _ _ _ | (with_reducible apply gA_ne; decide) | with_reducible apply gA_I | with_reducible apply gA_O | (with_reducible apply gA_nj; omega) | with_reducible rfl)) ?_
        first | refine z_beq 67 rfl rfl (fun hc64 => ?_) (fun hc64 => ?_)
        · refine z_aload 84 rfl rfl rfl ?_
          refine z_aload 85 rfl rfl rfl ?_
          refine y_ga 88 hR rfl rfl rfl ?_
          refine z_aload 89 rfl rfl rfl ?_
          refine y_gi 92 _ hR rfl rfl rfl rfl rfl (by repeat (first | with_reducible exact gI_eq _ _ _ | (with_reducible apply gI_ne; decide) | with_reducible apply gI_A | with_reducible apply gI_O | with_reducible exact hm2 | with_reducible exact hm1 | with_reducible exact hm3 | with_reducible exact k40 | with_reducible exact hs3 | with_reducible exact hs4 | with_reducible exact g39 | with_reducible exact gsg | with_reducible exact gb0 | with_reducible rfl)) ?_
          refine y_al (f := 12) 93 _ hR rfl rfl rfl rfl (by omega) (by repeat (first | with_reducible exact hm2 | with_reducible exact hm1 | with_reducible exact hm3 | with_reducible exact k40 | with_reducible exact hs3 | with_reducible exact hs4 | with_reducible exact g39 | with_reducible exact gsg | with_reducible exact gb0 | with_reducible exact gA_eq _ _ _ _ | (with_reducible apply gA_ne; decide) | with_reducible apply gA_I | with_reducible apply gA_O | (with_reducible apply gA_nj; omega) | with_reducible rfl)) ?_
          refine y_pi 96 hR rfl rfl rfl rfl rfl (mFi rfl) ?_
          intro h hR
          refine z_push 97 (nI 1) rfl rfl rfl ?_
          refine z_ireti rfl (Nat.le_refl _) (Nat.le_refl _) ?_
          have e9 : rd1 K E H rule sg last st pn bs = (1, st, shG H (lk K E H st pn bs).2.1, [], 0) := by rw [rd1, if_neg (fun h9 => by first | omega | (rw [hc20] at h9; exact absurd h9.2 (by decide))), if_neg (fun h9 => by first | omega | (rw [hc20] at h9; exact absurd h9.2 (by decide))), if_pos hc52, if_neg (by rw [hc64]; decide)]
          rw [e9] at q
          exact q h _ hR (((hO.mono (by simp [rdL]))).I (by simp [rdL])) g34 (gI_eq _ _ _) g39 (by rw [List.append_nil]; exact ho1)
        · refine z_aload 68 rfl rfl rfl ?_
          refine z_aload 69 rfl rfl rfl ?_
          refine y_ga 72 hR rfl rfl rfl ?_
          refine z_aload 73 rfl rfl rfl ?_
          refine y_gi 76 _ hR rfl rfl rfl rfl rfl (by repeat (first | with_reducible exact gI_eq _ _ _ | (with_reducible apply gI_ne; decide) | with_reducible apply gI_A | with_reducible apply gI_O | with_reducible exact hm2 | with_reducible exact hm1 | with_reducible exact hm3 | with_reducible exact k40 | with_reducible exact hs3 | with_reducible exact hs4 | with_reducible exact g39 | with_reducible exact gsg | with_reducible exact gb0 | with_reducible rfl)) ?_
          refine y_al (f := 12) 77 _ hR rfl rfl rfl rfl (by omega) (by repeat (first | with_reducible exact hm2 | with_reducible exact hm1 | with_reducible exact hm3 | with_reducible exact k40 | with_reducible exact hs3 | with_reducible exact hs4 | with_reducible exact g39 | with_reducible exact gsg | with_reducible exact gb0 | with_reducible exact gA_eq _ _ _ _ | (with_reducible apply gA_ne; decide) | with_reducible apply gA_I | with_reducible apply gA_O | (with_reducible apply gA_nj; omega) | with_reducible rfl)) ?_
          refine y_pi 80 hR rfl rfl rfl rfl rfl (mFi rfl) ?_
          intro h hR
          refine z_goto rfl ?_
          refine z_push 97 (nI 1) rfl rfl rfl ?_
          refine z_ireti rfl (Nat.le_refl _) (Nat.le_refl _) ?_
          have e9 : rd1 K E H rule sg last st pn bs = (1, shG H (lk K E H st pn bs).2.1, pn, [], 0) := by rw [rd1, if_neg (fun h9 => by first | omega | (rw [hc20] at h9; exact absurd h9.2 (by decide))), if_neg (fun h9 => by first | omega | (rw [hc20] at h9; exact absurd h9.2 (by decide))), if_pos hc52, if_pos hc64]
          rw [e9] at q
          exact q h _ hR (((hO.mono (by simp [rdL]))).I (by simp [rdL])) (gI_eq _ _ _) g35 g39 (by rw [List.append_nil]; exact ho1)
    · obtain ⟨hm1, hm2⟩ := hF2 hc28
      obtain ⟨hb1, hb2, hb3⟩ := lk_b hW hb.2 hn1 hc28
      refine z_aload 32 rfl rfl rfl ?_
      refine z_aload 33 rfl rfl rfl ?_
      refine y_gi 36 _ hR rfl rfl rfl rfl rfl (by repeat (first | with_reducible exact gI_eq _ _ _ | (with_reducible apply gI_ne; decide) | with_reducible apply gI_A | with_reducible apply gI_O | with_reducible exact hm2 | with_reducible exact hm1 | with_reducible exact hm3 | with_reducible exact k40 | with_reducible exact hs3 | with_reducible exact hs4 | with_reducible exact g39 | with_reducible exact gsg | with_reducible exact gb0 | with_reducible rfl)) ?_
      refine z_cv1 39 rfl rfl hR.1 rfl (Nat.le_refl _) (Nat.le_refl _) ?_
      refine r_putUnits hR ho1 hoa (by omega) (by omega) (fun h s2 hR hO2 ho2 => ?_)
      have k40 : s2.1 40 = (lk K E H st pn bs).2.1 := (hO2.1 40 (hno 40 (by decide))).1.trans hm1
      refine z_aload 40 rfl rfl rfl ?_
      refine z_push 41 (nI 4) rfl rfl rfl ?_
      refine y_pi 44 hR rfl rfl rfl rfl rfl (mFi rfl) ?_
      intro h hR
      refine z_aload 45 rfl rfl rfl ?_
      refine y_gi 48 _ hR rfl rfl rfl rfl rfl (by repeat (first | with_reducible exact gI_eq _ _ _ | (with_reducible apply gI_ne; decide) | with_reducible apply gI_A | with_reducible apply gI_O | with_reducible exact hm2 | with_reducible exact hm1 | with_reducible exact hm3 | with_reducible exact k40 | with_reducible exact hs3 | with_reducible exact hs4 | with_reducible exact g39 | with_reducible exact gsg | with_reducible exact gb0 | with_reducible rfl)) ?_
      refine z_ireti rfl (Nat.le_refl _) (Nat.le_refl _) ?_
      have e9 : rd1 K E H rule sg last st pn bs = ((lk K E H st pn bs).2.1, st, 4, puU (lk K E H st pn bs).2.2, 0) := by rw [rd1, if_neg (fun h9 => by first | omega | (rw [hc20] at h9; exact absurd h9.2 (by decide))), if_pos hc28]
      rw [e9] at q
      rw [show rI ((lk K E H st pn bs).2.1, st, 4, puU (lk K E H st pn bs).2.2, 0) = nI (lk K E H st pn bs).2.1 from if_neg (fun h9 => absurd (show (0 : Nat) = 1 from h9.2) (by decide))] at q
      exact q h _ hR (((hO.mono (by simp [rdL])).trans (hO2.mono (by simp [rdL]))).I (by simp [rdL])) (gI_ne (by decide) ((hO2.1 34 (hno 34 (by decide))).1.trans g34)) (gI_eq _ _ _) (gI_ne (by decide) ((hO2.1 39 (hno 39 (by decide))).1.trans g39)) ho2
  · refine z_iload 20 rfl rfl rfl ?_
    first | refine z_bne 23 rfl rfl (fun hc20 => ?_) (fun hc20 => ?_)
    · refine z_iload 27 rfl rfl rfl ?_
      refine z_push 28 (nI 2) rfl rfl rfl ?_
      refine z_nne 31 rfl rfl (by omega) (by omega) (fun hc28 => ?_) (fun hc28 => ?_)
      · refine z_iload 51 rfl rfl rfl ?_
        refine z_push 52 (nI 3) rfl rfl rfl ?_
        refine z_nne 55 rfl rfl (by omega) (by omega) (fun hc52 => ?_) (fun hc52 => ?_)
        · refine z_aload 99 rfl rfl rfl ?_
          first | refine z_dup 100 rfl rfl ?_ | refine z_dupi 100 rfl rfl ?_
          refine y_gi 103 _ hR rfl rfl rfl rfl rfl (by repeat (first | with_reducible exact gI_eq _ _ _ | (with_reducible apply gI_ne; decide) | with_reducible apply gI_A | with_reducible apply gI_O | with_reducible exact hm2 | with_reducible exact hm1 | with_reducible exact hm3 | with_reducible exact k40 | with_reducible exact hs3 | with_reducible exact hs4 | with_reducible exact g39 | with_reducible exact gsg | with_reducible exact gb0 | with_reducible rfl)) ?_
          refine z_push 104 (nI 1) rfl rfl rfl ?_
          refine z_bop 105 _ rfl rfl (by first | with_reducible exact zb_0 _ _ | exact zd_0 _ _) ?_
          refine y_pi 108 hR rfl rfl rfl rfl rfl (mFi rfl) ?_
          intro h hR
          refine z_iload 109 rfl rfl rfl ?_
          first | refine z_zne 112 rfl rfl (by omega) (fun hc109 => ?_) (fun hc109 => ?_)
          · refine z_aload 116 rfl rfl rfl ?_
            refine z_push 117 (nI 4) rfl rfl rfl ?_
            refine y_pi 120 hR rfl rfl rfl rfl rfl (mFi rfl) ?_
            intro h hR
            have ho3 : OutAt (stI 35 4 (stI 39 (fc + 1) s1)) o l := ho1
            refine z_iload 121 rfl rfl rfl ?_
            refine z_push 122 (nI 1) rfl rfl rfl ?_
            refine z_nne 125 rfl rfl (by omega) (by omega) (fun hc122 => ?_) (fun hc122 => ?_)
            · refine z_iload 136 rfl rfl rfl ?_
              refine z_push 137 (nI 3) rfl rfl rfl ?_
              refine z_nne 140 rfl rfl (by omega) (by omega) (fun hc137 => ?_) (fun hc137 => ?_)
              · refine z_push 152 (nI 1) rfl rfl rfl ?_
                refine z_ireti rfl (Nat.le_refl _) (Nat.le_refl _) ?_
                have e9 : rd1 K E H rule sg last st pn bs = (1, st, 4, [], 1) := by rw [rd1, if_neg (fun h9 => by first | omega | (rw [hc20] at h9; exact absurd h9.2 (by decide))), if_neg (fun h9 => by first | omega | (rw [hc20] at h9; exact absurd h9.2 (by decide))), if_neg (fun h9 => by first | omega | (rw [hc20] at h9; exact absurd h9.2 (by decide))), if_neg hc109, if_neg hc122, if_neg hc137]
                rw [e9] at q
                exact q h _ hR (((hO.mono (by simp [rdL])).I (by simp [rdL])).I (by simp [rdL])) g34 (gI_eq _ _ _) (gI_ne (by decide) (gI_eq _ _ _)) (by rw [List.append_nil]; exact ho1)
              · refine z_aload 141 rfl rfl rfl ?_
                refine z_push 143 (nI 56320) rfl rfl rfl ?_
                refine z_aload 144 rfl rfl rfl ?_
                refine z_iload 146 rfl rfl rfl ?_
                refine y_al (f := f) 147 _ hR rfl rfl ha rfl (by omega) (by repeat (first | with_reducible exact hm2 | with_reducible exact hm1 | with_reducible exact hm3 | with_reducible exact k40 | with_reducible exact hs3 | with_reducible exact hs4 | with_reducible exact g39 | with_reducible exact gsg | with_reducible exact gb0 | with_reducible exact gA_eq _ _ _ _ | (with_reducible apply gA_ne; decide) | with_reducible apply gA_I | with_reducible apply gA_O | (with_reducible apply gA_nj; omega) | with_reducible rfl)) ?_
                refine z_bop 148 _ rfl rfl (by first | with_reducible exact zb_0 _ _ | exact zd_0 _ _) ?_
                refine z_cv1 151 rfl rfl hR.1 rfl (Nat.le_refl _) (Nat.le_refl _) ?_
                refine r_put1 hR ho3 hoa (by omega) (fun h s2 hR hO2 ho2 => ?_)
                refine z_push 152 (nI 1) rfl rfl rfl ?_
                refine z_ireti rfl (Nat.le_refl _) (Nat.le_refl _) ?_
                have e9 : rd1 K E H rule sg last st pn bs = (1, st, 4, [56320 + bs.getD 0 0], 1) := by rw [rd1, if_neg (fun h9 => by first | omega | (rw [hc20] at h9; exact absurd h9.2 (by decide))), if_neg (fun h9 => by first | omega | (rw [hc20] at h9; exact absurd h9.2 (by decide))), if_neg (fun h9 => by first | omega | (rw [hc20] at h9; exact absurd h9.2 (by decide))), if_neg hc109, if_neg hc122, if_pos hc137]
                rw [e9] at q
                exact q h s2 hR ((((hO.mono (by simp [rdL])).I (by simp [rdL])).I (by simp [rdL])).trans (hO2.mono (by simp [rdL]))) ((hO2.1 34 (hno 34 (by decide))).1.trans g34) ((hO2.1 35 (hno 35 (by decide))).1.trans (gI_eq _ _ _)) ((hO2.1 39 (hno 39 (by decide))).1.trans (gI_ne (by decide) (gI_eq _ _ _))) ho2
            · refine z_aload 126 rfl rfl rfl ?_
              refine z_aload 127 rfl rfl rfl ?_
              refine y_ga 130 hR rfl rfl rfl ?_
              refine z_push 131 (nI 0) rfl rfl rfl ?_
              refine y_al (f := 21) 132 _ hR rfl rfl rfl rfl (by omega) (by repeat (first | with_reducible exact hm2 | with_reducible exact hm1 | with_reducible exact hm3 | with_reducible exact k40 | with_reducible exact hs3 | with_reducible exact hs4 | with_reducible exact g39 | with_reducible exact gsg | with_reducible exact gb0 | with_reducible exact gA_eq _ _ _ _ | (with_reducible apply gA_ne; decide) | with_reducible apply gA_I | with_reducible apply gA_O | (with_reducible apply gA_nj; omega) | with_reducible rfl)) ?_
              refine z_cv1 135 rfl rfl hR.1 rfl (Nat.le_refl _) (Nat.le_refl _) ?_
              refine r_putUnits hR ho3 hoa (by omega) (by omega) (fun h s2 hR hO2 ho2 => ?_)
              refine z_iload 136 rfl rfl rfl ?_
              refine z_push 137 (nI 3) rfl rfl rfl ?_
              refine z_nne 140 rfl rfl (by omega) (by omega) (fun _ => ?_) (fun h9 => absurd h9 (by omega))
              refine z_push 152 (nI 1) rfl rfl rfl ?_
              refine z_ireti rfl (Nat.le_refl _) (Nat.le_refl _) ?_
              have e9 : rd1 K E H rule sg last st pn bs = (1, st, 4, puU sg, 1) := by rw [rd1, if_neg (fun h9 => by first | omega | (rw [hc20] at h9; exact absurd h9.2 (by decide))), if_neg (fun h9 => by first | omega | (rw [hc20] at h9; exact absurd h9.2 (by decide))), if_neg (fun h9 => by first | omega | (rw [hc20] at h9; exact absurd h9.2 (by decide))), if_neg hc109, if_pos hc122]
              rw [e9] at q
              exact q h s2 hR ((((hO.mono (by simp [rdL])).I (by simp [rdL])).I (by simp [rdL])).trans (hO2.mono (by simp [rdL]))) ((hO2.1 34 (hno 34 (by decide))).1.trans g34) ((hO2.1 35 (hno 35 (by decide))).1.trans (gI_eq _ _ _)) ((hO2.1 39 (hno 39 (by decide))).1.trans (gI_ne (by decide) (gI_eq _ _ _))) ho2
          · refine z_push 114 (-9) rfl rfl rfl ?_
            refine z_ireti rfl (Nat.le_refl _) (Nat.le_refl _) ?_
            have e9 : rd1 K E H rule sg last st pn bs = (0, st, pn, [], 1) := by rw [rd1, if_neg (fun h9 => by first | omega | (rw [hc20] at h9; exact absurd h9.2 (by decide))), if_neg (fun h9 => by first | omega | (rw [hc20] at h9; exact absurd h9.2 (by decide))), if_neg (fun h9 => by first | omega | (rw [hc20] at h9; exact absurd h9.2 (by decide))), if_pos hc109]
            rw [e9] at q
            exact q h _ hR ((hO.mono (by simp [rdL])).I (by simp [rdL])) g34 g35 (gI_eq _ _ _) (by rw [List.append_nil]; exact ho1)
        · have hm3 := hF3 hc52
          obtain ⟨hc1, hc2⟩ := lk_c hc52
          obtain ⟨hs1, hs2, hs3, hs4⟩ := hT15 _ hc1
          have hl10 := hW.2.1
          have hWk := hW.2.2.2 _ hc1
          refine z_aload 56 rfl rfl rfl ?_
          refine y_ga 59 hR rfl rfl rfl ?_
          refine z_aload 60 rfl rfl rfl ?_
          refine y_gi 63 _ hR rfl rfl rfl rfl rfl (by repeat (first | with_reducible exact gI_eq _ _ _ | (with_reducible apply gI_ne; decide) | with_reducible apply gI_A | with_reducible apply gI_O | with_reducible exact hm2 | with_reducible exact hm1 | with_reducible exact hm3 | with_reducible exact k40 | with_reducible exact hs3 | with_reducible exact hs4 | with_reducible exact g39 | with_reducible exact gsg | with_reducible exact gb0 | with_reducible rfl)) ?_
          refine y_bb (f := 13) 64 _ hR rfl rfl rfl rfl (by omega) (by repeat (first | with_reducible exact hm2 | with_reducible exact hm1 | with_reducible exact hm3 | with_reducible exact k40 | with_reducible exact hs3 | with_reducible exact hs4 | with_reducible exact g39 | with_reducible exact gsg | with_reducible exact gb0 | with_reducible exact gA_eq _ _ _ _ | (with_reducible apply gA_ne; decide) | with_reducible apply gA_I | with_reducible apply gA_O | (with_reducible apply gA_nj; omega) | with_reducible rfl)) ?_
          first | refine z_beq 67 rfl rfl (fun hc64 => ?_) (fun hc64 => ?_)
          · refine z_aload 84 rfl rfl rfl ?_
            refine z_aload 85 rfl rfl rfl ?_
            refine y_ga 88 hR rfl rfl rfl ?_
            refine z_aload 89 rfl rfl rfl ?_
            refine y_gi 92 _ hR rfl rfl rfl rfl rfl (by repeat (first | with_reducible exact gI_eq _ _ _ | (with_reducible apply gI_ne; decide) | with_reducible apply gI_A | with_reducible apply gI_O | with_reducible exact hm2 | with_reducible exact hm1 | with_reducible exact hm3 | with_reducible exact k40 | with_reducible exact hs3 | with_reducible exact hs4 | with_reducible exact g39 | with_reducible exact gsg | with_reducible exact gb0 | with_reducible rfl)) ?_
            refine y_al (f := 12) 93 _ hR rfl rfl rfl rfl (by omega) (by repeat (first | with_reducible exact hm2 | with_reducible exact hm1 | with_reducible exact hm3 | with_reducible exact k40 | with_reducible exact hs3 | with_reducible exact hs4 | with_reducible exact g39 | with_reducible exact gsg | with_reducible exact gb0 | with_reducible exact gA_eq _ _ _ _ | (with_reducible apply gA_ne; decide) | with_reducible apply gA_I | with_reducible apply gA_O | (with_reducible apply gA_nj; omega) | with_reducible rfl)) ?_
            refine y_pi 96 hR rfl rfl rfl rfl rfl (mFi rfl) ?_
            intro h hR
            refine z_push 97 (nI 1) rfl rfl rfl ?_
            refine z_ireti rfl (Nat.le_refl _) (Nat.le_refl _) ?_
            have e9 : rd1 K E H rule sg last st pn bs = (1, st, shG H (lk K E H st pn bs).2.1, [], 0) := by rw [rd1, if_neg (fun h9 => by first | omega | (rw [hc20] at h9; exact absurd h9.2 (by decide))), if_neg (fun h9 => by first | omega | (rw [hc20] at h9; exact absurd h9.2 (by decide))), if_pos hc52, if_neg (by rw [hc64]; decide)]
            rw [e9] at q
            exact q h _ hR (((hO.mono (by simp [rdL]))).I (by simp [rdL])) g34 (gI_eq _ _ _) g39 (by rw [List.append_nil]; exact ho1)
          · refine z_aload 68 rfl rfl rfl ?_
            refine z_aload 69 rfl rfl rfl ?_
            refine y_ga 72 hR rfl rfl rfl ?_
            refine z_aload 73 rfl rfl rfl ?_
            refine y_gi 76 _ hR rfl rfl rfl rfl rfl (by repeat (first | with_reducible exact gI_eq _ _ _ | (with_reducible apply gI_ne; decide) | with_reducible apply gI_A | with_reducible apply gI_O | with_reducible exact hm2 | with_reducible exact hm1 | with_reducible exact hm3 | with_reducible exact k40 | with_reducible exact hs3 | with_reducible exact hs4 | with_reducible exact g39 | with_reducible exact gsg | with_reducible exact gb0 | with_reducible rfl)) ?_
            refine y_al (f := 12) 77 _ hR rfl rfl rfl rfl (by omega) (by repeat (first | with_reducible exact hm2 | with_reducible exact hm1 | with_reducible exact hm3 | with_reducible exact k40 | with_reducible exact hs3 | with_reducible exact hs4 | with_reducible exact g39 | with_reducible exact gsg | with_reducible exact gb0 | with_reducible exact gA_eq _ _ _ _ | (with_reducible apply gA_ne; decide) | with_reducible apply gA_I | with_reducible apply gA_O | (with_reducible apply gA_nj; omega) | with_reducible rfl)) ?_
            refine y_pi 80 hR rfl rfl rfl rfl rfl (mFi rfl) ?_
            intro h hR
            refine z_goto rfl ?_
            refine z_push 97 (nI 1) rfl rfl rfl ?_
            refine z_ireti rfl (Nat.le_refl _) (Nat.le_refl _) ?_
            have e9 : rd1 K E H rule sg last st pn bs = (1, shG H (lk K E H st pn bs).2.1, pn, [], 0) := by rw [rd1, if_neg (fun h9 => by first | omega | (rw [hc20] at h9; exact absurd h9.2 (by decide))), if_neg (fun h9 => by first | omega | (rw [hc20] at h9; exact absurd h9.2 (by decide))), if_pos hc52, if_pos hc64]
            rw [e9] at q
            exact q h _ hR (((hO.mono (by simp [rdL]))).I (by simp [rdL])) (gI_eq _ _ _) g35 g39 (by rw [List.append_nil]; exact ho1)
      · obtain ⟨hm1, hm2⟩ := hF2 hc28
        obtain ⟨hb1, hb2, hb3⟩ := lk_b hW hb.2 hn1 hc28
        refine z_aload 32 rfl rfl rfl ?_
        refine z_aload 33 rfl rfl rfl ?_
        refine y_gi 36 _ hR rfl rfl rfl rfl rfl (by repeat (first | with_reducible exact gI_eq _ _ _ | (with_reducible apply gI_ne; decide) | with_reducible apply gI_A | with_reducible apply gI_O | with_reducible exact hm2 | with_reducible exact hm1 | with_reducible exact hm3 | with_reducible exact k40 | with_reducible exact hs3 | with_reducible exact hs4 | with_reducible exact g39 | with_reducible exact gsg | with_reducible exact gb0 | with_reducible rfl)) ?_
        refine z_cv1 39 rfl rfl hR.1 rfl (Nat.le_refl _) (Nat.le_refl _) ?_
        refine r_putUnits hR ho1 hoa (by omega) (by omega) (fun h s2 hR hO2 ho2 => ?_)
        have k40 : s2.1 40 = (lk K E H st pn bs).2.1 := (hO2.1 40 (hno 40 (by decide))).1.trans hm1
        refine z_aload 40 rfl rfl rfl ?_
        refine z_push 41 (nI 4) rfl rfl rfl ?_
        refine y_pi 44 hR rfl rfl rfl rfl rfl (mFi rfl) ?_
        intro h hR
        refine z_aload 45 rfl rfl rfl ?_
        refine y_gi 48 _ hR rfl rfl rfl rfl rfl (by repeat (first | with_reducible exact gI_eq _ _ _ | (with_reducible apply gI_ne; decide) | with_reducible apply gI_A | with_reducible apply gI_O | with_reducible exact hm2 | with_reducible exact hm1 | with_reducible exact hm3 | with_reducible exact k40 | with_reducible exact hs3 | with_reducible exact hs4 | with_reducible exact g39 | with_reducible exact gsg | with_reducible exact gb0 | with_reducible rfl)) ?_
        refine z_ireti rfl (Nat.le_refl _) (Nat.le_refl _) ?_
        have e9 : rd1 K E H rule sg last st pn bs = ((lk K E H st pn bs).2.1, st, 4, puU (lk K E H st pn bs).2.2, 0) := by rw [rd1, if_neg (fun h9 => by first | omega | (rw [hc20] at h9; exact absurd h9.2 (by decide))), if_pos hc28]
        rw [e9] at q
        rw [show rI ((lk K E H st pn bs).2.1, st, 4, puU (lk K E H st pn bs).2.2, 0) = nI (lk K E H st pn bs).2.1 from if_neg (fun h9 => absurd (show (0 : Nat) = 1 from h9.2) (by decide))] at q
        exact q h _ hR (((hO.mono (by simp [rdL])).trans (hO2.mono (by simp [rdL]))).I (by simp [rdL])) (gI_ne (by decide) ((hO2.1 34 (hno 34 (by decide))).1.trans g34)) (gI_eq _ _ _) (gI_ne (by decide) ((hO2.1 39 (hno 39 (by decide))).1.trans g39)) ho2
    · refine z_push 24 (nI 0) rfl rfl rfl ?_
      refine z_ireti rfl (Nat.le_refl _) (Nat.le_refl _) ?_
      have e9 : rd1 K E H rule sg last st pn bs = (0, st, pn, [], 0) := by rw [rd1, if_pos ⟨hc15, hc20⟩]
      rw [e9] at q
      exact q h s1 hR (hO.mono (by simp [rdL])) g34 g35 g39 (by rw [List.append_nil]; exact ho1)
