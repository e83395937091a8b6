/-! the class: an entry tried -/
theorem cmn_ge {n v : Nat} {bs : List Nat} : ∀ (m j : Nat), j ≤ cmn n v bs m j
  | 0, _ => Nat.le_refl _
  | m + 1, j => by
    unfold cmn
    split
    · have := cmn_ge (n := n) (v := v) (bs := bs) m (j + 1); omega
    · exact Nat.le_refl _
theorem cmn_m {n v : Nat} {bs : List Nat} : ∀ (m j k : Nat), j ≤ k → k < cmn n v bs m j → bs.getD k 0 = bt n v k
  | 0, j, k, h1, h2 => by unfold cmn at h2; omega
  | m + 1, j, k, h1, h2 => by
    unfold cmn at h2
    split at h2
    · rename_i hc
      by_cases e : k = j
      · subst e; exact hc.2.2
      · exact cmn_m m (j + 1) k (by omega) h2
    · omega
theorem cmn_all {n v t : Nat} {bs : List Nat} (hn : t ≤ n) (hl : t ≤ bs.length) : ∀ (m j : Nat), j + m = n → j ≤ t → (∀ k, j ≤ k → k < t → bs.getD k 0 = bt n v k) → t ≤ cmn n v bs m j
  | 0, j, h1, h2, _ => by unfold cmn; omega
  | m + 1, j, h1, h2, hk => by
    unfold cmn
    split
    · by_cases e : j = t
      · have := cmn_ge (n := n) (v := v) (bs := bs) m (j + 1); omega
      · exact cmn_all hn hl m (j + 1) (by omega) (by omega) (fun k h3 h4 => hk k (by omega) h4)
    · rename_i hc
      by_cases e : j = t
      · omega
      · exact absurd ⟨by omega, by omega, hk j (Nat.le_refl _) (by omega)⟩ hc
theorem cm_num {n v : Nat} {bs : List Nat} (hv : v < 256 ^ n) (hb : ∀ j, bs.getD j 0 < 256) : ∀ t, t ≤ n → t ≤ bs.length → (v / 2 ^ (8 * (n - t)) = txF bs 0 t ↔ ∀ k, k < t → bs.getD k 0 = bt n v k)
  | 0, _, _ => by
    have e : v / 2 ^ (8 * (n - 0)) = 0 := by
      rw [Nat.sub_zero]
      apply Nat.div_eq_of_lt
      rw [show (2 : Nat) ^ (8 * n) = 256 ^ n from by rw [Nat.pow_mul]]
      exact hv
    rw [e]
    exact ⟨fun _ k hk => absurd hk (Nat.not_lt_zero k), fun _ => rfl⟩
  | t + 1, hn, hl => by
    have ih := cm_num hv hb t (by omega) (by omega)
    have h1 := bt_s (v := v) (show t < n by omega)
    have h2 := bt_lt n v t
    have h3 := hb t
    rw [h1, txF, Nat.zero_add, nb, if_pos (by omega)]
    constructor
    · intro h k hk
      have e1 : v / 2 ^ (8 * (n - t)) = txF bs 0 t := by omega
      by_cases e : k = t
      · subst e; omega
      · exact ih.mp e1 k (by omega)
    · intro h
      have e1 := ih.mpr (fun k hk => h k (by omega))
      have e2 := h t (by omega)
      omega
theorem cmS_le {E : List En} {bs : List Nat} {k : Nat} : cmS E bs k ≤ enN E k ∧ cmS E bs k ≤ bs.length := ⟨by have := cmn_le (n := enN E k) (v := enT E k) (bs := bs) (enN E k) 0; unfold cmS; omega, cmn_b _ _ (by omega)⟩
theorem cmS_iff {E : List En} {bs : List Nat} {k t : Nat} (hv : enT E k < 256 ^ enN E k) (hb : ∀ j, bs.getD j 0 < 256) (ht1 : t ≤ enN E k) (ht2 : t ≤ bs.length) (ht3 : t = enN E k ∨ t = bs.length) : enT E k / 2 ^ (8 * (enN E k - t)) = txF bs 0 t ↔ cmS E bs k = t := by
  rw [cm_num hv hb t ht1 ht2]
  have hle := cmS_le (E := E) (bs := bs) (k := k)
  constructor
  · intro h
    have := cmn_all ht1 ht2 (n := enN E k) (v := enT E k) (enN E k) 0 (by omega) (by omega) (fun j _ hj => h j hj)
    unfold cmS at hle ⊢
    omega
  · intro h j hj
    unfold cmS at h
    exact cmn_m (enN E k) 0 j (by omega) (by omega)
theorem packN_t {bs : List Nat} {f : Nat → Int32} {a : Nat} (hb : ∀ j, bs.getD j 0 < 256) (hf : ∀ j, j < bs.length → f (a + j) = nI (bs.getD j 0)) : ∀ k, k ≤ 3 → k ≤ bs.length → packN f a k = nI (txF bs 0 k)
  | 0, _, _ => rfl
  | k + 1, hk, hl => by
    have h1 := txF_b hb (a := 0) k
    have h2 : 256 ^ k ≤ 256 ^ 2 := Nat.pow_le_pow_right (by decide) (by omega)
    have h3 := hb k
    have e1 : nI (txF bs 0 k) <<< (nI 8 &&& 31) = nI (txF bs 0 k * 2 ^ 8) := shl_n 8 (by decide) (by omega)
    have e2 : nI (txF bs 0 k * 2 ^ 8) ||| nI (bs.getD k 0) = nI (txF bs 0 k * 2 ^ 8 + bs.getD k 0) := or_n (k := 8) (by omega) (by omega)
    rw [packN, packN_t hb hf k (by omega) (by omega), e1, hf k (by omega), e2, txF, nb, Nat.zero_add, if_pos (by omega)]
set_option maxRecDepth 100000 in
theorem c_tryEntry {d : Nat} {h : mH} {p m rc k v n9 a fo : Nat} {c : Bool} {w l pp g s : Int32} {bs : List Nat} {f : Nat → Int32} {E : List En} {H : List Sh} {Q : mP} (hp : h.2 p = oPg 0 c p m rc) (hEA : EnA h (p + 6) 100 E) (hW : TbW E H) (hk : k < E.length) (h2 : h.2 v = aI n9 f) (hn : n9 < 2 ^ 31) (hst : a + bs.length ≤ n9) (hf : ∀ j, j < bs.length → f (a + j) = nI (bs.getD j 0)) (hb : ∀ j, bs.getD j 0 < 256) (h3 : h.2 fo = oFound w l pp g s) (hs : s = 0 ∨ s = 1)  (q0 : cmS E bs k ≠ enN E k → cmS E bs k ≠ bs.length → Q none h) (q1 : cmS E bs k = bs.length → bs.length < enN E k → ∀ h', Fd9 h' fo (1, 0, 0) H → Fr fo (fo + 1) h h' → Q none h') (q2 : cmS E bs k = enN E k → ∀ h', Fd9 h' fo (2, enN E k, enP E k) H → Fr fo (fo + 1) h h' → Q none h') : mWP (d + 2) 57 [.ref p, .int (nI k), .ref v, .int (nI a), .int (nI (a + bs.length)), .ref fo] h Q := by
  obtain ⟨hE0, s9, t9, n8, p9, f9, hE, hEF⟩ := hEA
  obtain ⟨e1, e2, e3, e4, e5⟩ := hEF k hk
  obtain ⟨w1, w2, w3, w4, w5⟩ := hW.2.2.1 k hk
  have w6 := nPt_lt w5
  have w7 := hW.tx hk
  obtain ⟨t, ht0, ht1, ht2, ht3⟩ := minN (enN E k) bs.length
  have htx := txF_b hb (a := 0) t
  have htx2 : 256 ^ t ≤ 256 ^ 3 := Nat.pow_le_pow_right (by decide) (by omega)
  have hdv : enT E k / 2 ^ (8 * (enN E k - t)) ≤ enT E k := Nat.div_le_self _ _
  have hcm := cmS_iff (t := t) w4 hb ht1 ht2 ht3
  have hcl := cmS_le (E := E) (bs := bs) (k := k)
  refine z_in [some (.ref p), some (.int (nI k)), some (.ref v), some (.int (nI a)), some (.int (nI (a + bs.length))), some (.ref fo), none, none] (by rfl) rfl rfl rfl ?_
  refine z_aload 1 rfl rfl rfl ?_
  refine z_get 4 rfl rfl (by first | exact hp | exact hE.1 | exact hE.2.1 | exact hE.2.2.1 | exact hE.2.2.2.1 | exact hE.2.2.2.2.1 | exact hE.2.2.2.2.2 | exact ho | exact h2 | exact h3) rfl ?_
  refine z_get 7 rfl rfl (by first | exact hp | exact hE.1 | exact hE.2.1 | exact hE.2.2.1 | exact hE.2.2.2.1 | exact hE.2.2.2.2.1 | exact hE.2.2.2.2.2 | exact ho | exact h2 | exact h3) rfl ?_
  refine z_iload 8 rfl rfl rfl ?_
  refine z_ald 9 rfl rfl (by first | exact hp | exact hE.1 | exact hE.2.1 | exact hE.2.2.1 | exact hE.2.2.2.1 | exact hE.2.2.2.2.1 | exact hE.2.2.2.2.2 | exact ho | exact h2 | exact h3) rfl (by omega) (by omega) ?_
  simp only [e3]
  refine z_istore 11 rfl rfl rfl rfl ?_
  refine z_iload 13 rfl rfl rfl ?_
  refine z_iload 15 rfl rfl rfl ?_
  refine z_iload 16 rfl rfl rfl ?_
  refine z_bop 17 _ rfl rfl (show mBop 1 (nI (a + bs.length)) (nI a) = nI bs.length from by rw [zb_1 (by omega), Nat.add_sub_cancel_left]) ?_
  refine z_min 20 _ rfl rfl rfl (Nat.le_refl _) (Nat.le_refl _) (show _ = nI t from (zminN (by omega) (by omega)).trans (by rw [ht0])) ?_
  refine z_istore 22 rfl rfl rfl rfl ?_
  refine z_aload 23 rfl rfl rfl ?_
  refine z_get 26 rfl rfl (by first | exact hp | exact hE.1 | exact hE.2.1 | exact hE.2.2.1 | exact hE.2.2.2.1 | exact hE.2.2.2.2.1 | exact hE.2.2.2.2.2 | exact ho | exact h2 | exact h3) rfl ?_
  refine z_get 29 rfl rfl (by first | exact hp | exact hE.1 | exact hE.2.1 | exact hE.2.2.1 | exact hE.2.2.2.1 | exact hE.2.2.2.2.1 | exact hE.2.2.2.2.2 | exact ho | exact h2 | exact h3) rfl ?_
  refine z_iload 30 rfl rfl rfl ?_
  refine z_ald 31 rfl rfl (by first | exact hp | exact hE.1 | exact hE.2.1 | exact hE.2.2.1 | exact hE.2.2.2.1 | exact hE.2.2.2.2.1 | exact hE.2.2.2.2.2 | exact ho | exact h2 | exact h3) rfl (by omega) (by omega) ?_
  simp only [e2]
  refine z_push 33 (nI 8) rfl rfl rfl ?_
  refine z_iload 35 rfl rfl rfl ?_
  refine z_iload 37 rfl rfl rfl ?_
  refine z_bop 38 _ rfl rfl (zb_1 (by omega)) ?_
  refine z_bop 39 _ rfl rfl (zb_2 _ _) ?_
  refine z_bop 40 _ rfl rfl (shr_n (by omega) _ (by omega)) ?_
  refine z_aload 41 rfl rfl rfl ?_
  refine z_iload 42 rfl rfl rfl ?_
  refine z_iload 44 rfl rfl rfl ?_
  refine z_cs3 47 rfl rfl rfl (Nat.le_refl _) (Nat.le_refl _) ?_
  refine c_packed h2 hn (by omega) ?_
  rw [packN_t hb hf t (by omega) ht2]
  refine z_neq 50 rfl rfl (by omega) (by omega) (fun hc47 => ?_) (fun hc47 => ?_)
  · refine z_iload 53 rfl rfl rfl ?_
    refine z_iload 55 rfl rfl rfl ?_
    refine z_nne 58 rfl rfl (by omega) (by omega) (fun hc55 => ?_) (fun hc55 => ?_)
    · refine z_aload 79 rfl rfl rfl ?_
      refine z_cv0 82 rfl rfl (by first | exact hp | exact hE.1 | exact hE.2.1 | exact hE.2.2.1 | exact hE.2.2.2.1 | exact hE.2.2.2.2.1 | exact hE.2.2.2.2.2 | exact ho | exact h2 | exact h3) rfl (Nat.le_refl _) (Nat.le_refl _) ?_
      refine c_Found_setPart h3 ?_
      refine z_vret rfl (Nat.le_refl _) (Nat.le_refl _) ?_
      have h9 := hcm.mp hc47
      exact q1 (by omega) (by omega) _ (Fd9.p hs) (Fr.of_set1 (by omega))
    · refine z_aload 60 rfl rfl rfl ?_
      refine z_aload 61 rfl rfl rfl ?_
      refine z_get 64 rfl rfl (by first | exact hp | exact hE.1 | exact hE.2.1 | exact hE.2.2.1 | exact hE.2.2.2.1 | exact hE.2.2.2.2.1 | exact hE.2.2.2.2.2 | exact ho | exact h2 | exact h3) rfl ?_
      refine z_get 67 rfl rfl (by first | exact hp | exact hE.1 | exact hE.2.1 | exact hE.2.2.1 | exact hE.2.2.2.1 | exact hE.2.2.2.2.1 | exact hE.2.2.2.2.2 | exact ho | exact h2 | exact h3) rfl ?_
      refine z_iload 68 rfl rfl rfl ?_
      refine z_ald 69 rfl rfl (by first | exact hp | exact hE.1 | exact hE.2.1 | exact hE.2.2.1 | exact hE.2.2.2.1 | exact hE.2.2.2.2.1 | exact hE.2.2.2.2.2 | exact ho | exact h2 | exact h3) rfl (by omega) (by omega) ?_
      simp only [e4]
      refine z_iload 71 rfl rfl rfl ?_
      refine z_cv2 74 rfl rfl (by first | exact hp | exact hE.1 | exact hE.2.1 | exact hE.2.2.1 | exact hE.2.2.2.1 | exact hE.2.2.2.2.1 | exact hE.2.2.2.2.2 | exact ho | exact h2 | exact h3) rfl (Nat.le_refl _) (Nat.le_refl _) ?_
      refine c_Found_setWhole h3 ?_
      refine z_goto rfl ?_
      refine z_vret rfl (Nat.le_refl _) (Nat.le_refl _) ?_
      have h9 := hcm.mp hc47
      exact q2 (by omega) _ (Fd9.w hs) (Fr.of_set1 (by omega))
  · refine z_vret rfl (Nat.le_refl _) (Nat.le_refl _) ?_
    have h9 : cmS E bs k ≠ t := fun h8 => hc47 (hcm.mpr h8)
    exact q0 (by omega) (by omega)
