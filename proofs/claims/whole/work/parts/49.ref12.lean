/-! the reference: fill, find, code -/
/-- only the fields of a list have changed -/
def On (l : List Nat) (s s' : rS) : Prop := (∀ c, c ∉ l → s'.1 c = s.1 c ∧ s'.2.2 c = s.2.2 c) ∧ s'.2.1 = s.2.1
theorem On.rfl {l : List Nat} {s : rS} : On l s s := ⟨fun _ _ => ⟨Eq.refl _, Eq.refl _⟩, Eq.refl _⟩
theorem On.trans {l : List Nat} {s s1 s2 : rS} (a : On l s s1) (b : On l s1 s2) : On l s s2 := ⟨fun c hc => ⟨(b.1 c hc).1.trans (a.1 c hc).1, (b.1 c hc).2.trans (a.1 c hc).2⟩, b.2.trans a.2⟩
theorem On.mono {l l' : List Nat} {s s' : rS} (a : On l s s') (h : ∀ c, c ∈ l → c ∈ l') : On l' s s' := ⟨fun c hc => a.1 c (fun h9 => hc (h c h9)), a.2⟩
theorem On.I {l : List Nat} {s s' : rS} {c x : Nat} (a : On l s s') (h : c ∈ l) : On l s (stI c x s') := ⟨fun c' hc => ⟨(gI_ne (fun e => hc (by rw [e]; exact h)) (Eq.refl _)).trans (a.1 c' hc).1, (a.1 c' hc).2⟩, a.2⟩
theorem On.A {l : List Nat} {s s' : rS} {f j x : Nat} (a : On l s s') (h : f ∈ l) : On l s (stA f j x s') := ⟨fun c' hc => ⟨(a.1 c' hc).1, (gAf (fun e => hc (by rw [e]; exact h))).trans (a.1 c' hc).2⟩, a.2⟩
theorem On.keep {l : List Nat} {s s' : rS} (a : On l s s') (h : ∀ c, c ∈ l → rPers c = false) : Keep s s' := fun c hc => a.1 c (fun h9 => by rw [h c h9] at hc; cases hc)
theorem On.tb {l : List Nat} {s s' : rS} {p : Nat} {E : List En} {H : List Sh} (a : On l s s') (h : ∀ c, c ∈ l → 13 < c) (hT : TbR s p E H) : TbR s' p E H := by
  have n : ∀ c, c ≤ 13 → s'.2.2 c = s.2.2 c := fun c hc => (a.1 c (fun h9 => by have := h c h9; omega)).2
  simp only [TbR, n 3 (by decide), n 4 (by decide), n 5 (by decide), n 6 (by decide), n 7 (by decide), n 8 (by decide), n 9 (by decide), n 10 (by decide), n 11 (by decide), n 12 (by decide), n 13 (by decide)]
  exact hT
def bt (n v j : Nat) : Nat := v / 2 ^ (8 * (n - 1 - j)) % 256
def TxN (s : rS) (n v : Nat) : Prop := s.1 32 = n ∧ ∀ j, j < n → s.2.2 33 j = bt n v j
theorem lN_tn {n : Nat} (h : n < 2 ^ 64) : (lN n).toBitVec.toNat = n := by
  show (BitVec.ofNat 64 n).toNat = n
  rw [BitVec.toNat_ofNat, Nat.mod_eq_of_lt h]
theorem lN_or (a b : Nat) : lN a ||| lN b = lN (a ||| b) := by
  apply Int64.toBitVec_inj.mp
  show BitVec.ofNat 64 a ||| BitVec.ofNat 64 b = BitVec.ofNat 64 (a ||| b)
  rw [BitVec.ofNat_or]
theorem lor_n {a b k : Nat} (ha : a % 2 ^ k = 0) (hb : b < 2 ^ k) : mLop 4 (lN a) (lN b) = lN (a + b) := by
  show lN a ||| lN b = _
  rw [lN_or]
  congr 1
  obtain ⟨c, rfl⟩ : ∃ c, a = 2 ^ k * c := ⟨a / 2 ^ k, by rw [Nat.mul_comm, Nat.div_mul_cancel (Nat.dvd_of_mod_eq_zero ha)]⟩
  exact (Nat.two_pow_add_eq_or_of_lt hb c).symm
theorem lor_n' {a b k : Nat} (ha : a % 2 ^ k = 0) (hb : b < 2 ^ k) : mLop 4 (lN b) (lN a) = lN (a + b) := by
  rw [← lor_n ha hb]
  show lN b ||| lN a = lN a ||| lN b
  rw [lN_or, lN_or, Nat.or_comm]
theorem lsh_n {a k : Nat} (hk : k < 64) : mLsh 0 (lN a) (nI k) = lN (a * 2 ^ k) := by
  have e1 : ∀ j, j < 64 → (((nI j).toInt64 &&& 63).toBitVec.smod 64).toNat = j := by decide +kernel
  apply Int64.toBitVec_inj.mp
  show (lN a <<< ((nI k).toInt64 &&& 63)).toBitVec = BitVec.ofNat 64 (a * 2 ^ k)
  rw [Int64.toBitVec_shiftLeft, BitVec.shiftLeft_eq', e1 k hk]
  apply BitVec.eq_of_toNat_eq
  show (BitVec.ofNat 64 a <<< k).toNat = _
  rw [BitVec.toNat_shiftLeft, BitVec.toNat_ofNat, BitVec.toNat_ofNat, Nat.shiftLeft_eq, Nat.mod_mul_mod]
theorem byW_lN {v k : Nat} (hv : v < 2 ^ 64) : byW (lN v) 8 k = v / 2 ^ (8 * k) % 256 := by rw [byW, lN_tn hv]
theorem and_n {n : Nat} (h : n + 1 ≤ 2 ^ 32) {m : Int32} (k : Nat) (hm : m.toBitVec.toNat = 2 ^ k - 1) : mBop 3 (nI n) m = nI (n % 2 ^ k) := pk_andN (by omega) k hm
/-- byte texts of the built-in forms: length, number -/
def fwN (p : Nat) : Nat := if p < 128 then 1 else if p < 2048 then 2 else if p < 65536 then 3 else 4
def fwV (p : Nat) : Nat := if p < 128 then p else if p < 2048 then (192 + p / 64) * 256 + (128 + p % 64) else if p < 65536 then ((224 + p / 4096) * 256 + (128 + p / 64 % 64)) * 256 + (128 + p % 64) else (((240 + p / 262144) * 256 + (128 + p / 4096 % 64)) * 256 + (128 + p / 64 % 64)) * 256 + (128 + p % 64)
def utF (p : Nat) : Nat := 55296 + (p - 65536) / 1024
def utS (p : Nat) : Nat := 56320 + (p - 65536) % 1024
def fmT (k p : Nat) : Nat × Nat := if k = 3 then (fwN p, fwV p) else if p < 65536 then (2, uTx k p) else (4, uTx k (utF p) * 65536 + uTx k (utS p))
def fnd (k : Nat) (E : List En) (pt : Nat) : Option (Nat × Nat × Nat) := if k = 0 then (ffd (pf2 E pt) E.length 0).map (fun j => (enS E j, enN E j, enT E j)) else some (0, fmT k pt)
theorem uTx_lt {k u : Nat} (h : u < 65536) : uTx k u < 65536 := by unfold uTx; split <;> omega
theorem utF_lt {p : Nat} (h : p < 1114112) : utF p < 65536 := by unfold utF; omega
theorem utS_lt {p : Nat} : utS p < 65536 := by unfold utS; omega
theorem fw_b {p : Nat} (hp : p < 1114112) : ∀ j, j < fwN p → bt (fwN p) (fwV p) j = if j = 0 then (if fwN p = 1 then 0 else if fwN p = 2 then 192 else if fwN p = 3 then 224 else 240) + p / 2 ^ (6 * (fwN p - 1)) else 128 + p / 2 ^ (6 * (fwN p - 1 - j)) % 64 := by
  intro j hj
  unfold fwN at hj ⊢
  unfold fwV bt
  split
  · rename_i h1
    rw [if_pos h1] at hj
    obtain rfl : j = 0 := by omega
    simp only [if_true, Nat.sub_self, Nat.mul_zero, Nat.pow_zero, Nat.div_one]
    omega
  · rename_i h1
    rw [if_neg h1] at hj
    split
    · rename_i h2
      rw [if_pos h2] at hj
      have h3 : j = 0 ∨ j = 1 := by omega
      rcases h3 with rfl | rfl <;> simp <;> omega
    · rename_i h2
      rw [if_neg h2] at hj
      split
      · rename_i h3
        rw [if_pos h3] at hj
        have h4 : j = 0 ∨ j = 1 ∨ j = 2 := by omega
        have hx : p / 4096 < 16 := by omega
        have hy : p / 64 % 64 < 64 := by omega
        have hz : p % 64 < 64 := by omega
        rcases h4 with rfl | rfl | rfl <;> simp <;> generalize p / 4096 = x at * <;> generalize p / 64 % 64 = y at * <;> generalize p % 64 = z at * <;> omega
      · rename_i h3
        rw [if_neg h3] at hj
        have h4 : j = 0 ∨ j = 1 ∨ j = 2 ∨ j = 3 := by omega
        have hx : p / 262144 < 8 := by omega
        have hy : p / 4096 % 64 < 64 := by omega
        have hy2 : p / 64 % 64 < 64 := by omega
        have hz : p % 64 < 64 := by omega
        rcases h4 with rfl | rfl | rfl | rfl <;> simp <;> generalize p / 262144 = x at * <;> generalize p / 4096 % 64 = y2 at * <;> generalize p / 64 % 64 = y at * <;> generalize p % 64 = z at * <;> omega
set_option maxRecDepth 10000 in
theorem r_text {d r : Nat} {h h0 : mH} {s : rS} {n v : Nat} {Q : mP} (hR : Rf r h0 s h) (hn : n ≤ 4) (hv : v < 2 ^ 32)  (q : ∀ h' s', Rf r h0 s' h' → On [32, 33] s s' → TxN s' n v → Q none h') : mWP (d + 1) 200 [.ref r, .int (nI n), .long (lN v)] h Q := by
  have loop : ∀ m i s1 h, n < i + m → i ≤ n → Rf r h0 s1 h → On [32, 33] s s1 → s1.1 32 = n → (∀ j, j < i → s1.2.2 33 j = bt n v j) → mZ d tk_200 0 0 Q 8 [some (.ref r), some (.int (nI n)), some (.long (lN v)), none, some (.int (nI i))] [] h 0 0 := by
    intro m
    induction m with
    | zero => intro i s1 h h1 h2; omega
    | succ m ih =>
      intro i s1 h h1 h2 hR hO h32 hb
      refine z_iload 10 rfl rfl rfl ?_
      refine z_iload 11 rfl rfl rfl ?_
      refine z_nge 14 rfl rfl (by omega) (by omega) (fun hc11 => ?_) (fun hc11 => ?_)
      · refine z_vret rfl (Nat.le_refl _) (Nat.le_refl _) ?_
        obtain rfl : i = n := by omega
        exact q h s1 hR hO ⟨h32, hb⟩
      · refine z_aload 15 rfl rfl rfl ?_
        refine y_ga 18 hR rfl rfl rfl ?_
        refine z_iload 20 rfl rfl rfl ?_
        refine z_lload 21 rfl rfl rfl ?_
        refine z_push 23 (nI 8) rfl rfl rfl ?_
        refine z_iload 24 rfl rfl rfl ?_
        refine z_push 25 (nI 1) rfl rfl rfl ?_
        refine z_bop 26 _ rfl rfl (by first | with_reducible exact zb_1 (by omega) | exact zd_1 _ _) ?_
        refine z_iload 28 rfl rfl rfl ?_
        refine z_bop 29 _ rfl rfl (by first | with_reducible exact zb_1 (by omega) | exact zd_1 _ _) ?_
        refine z_bop 30 _ rfl rfl (by first | with_reducible exact zb_2 _ _ | exact zd_2 _ _) ?_
        refine z_lsh 31 _ rfl rfl rfl ?_
        refine z_pushl 34 (255) rfl rfl rfl ?_
        refine z_lop 35 _ rfl rfl rfl ?_
        refine z_l2i 36 rfl rfl ?_
        rw [show (mLop 3 (mLsh 1 (lN v) (nI (8 * (n - 1 - i)))) 255).toInt32 = nI (bt n v i) from by rw [bt, ← byW_lN (by omega)]; exact wsh (by omega) (by omega) (by omega)]
        refine y_as (f := 33) 37 hR rfl rfl rfl rfl (by omega) ?_
        intro h hR
        refine z_iinc 40 _ rfl rfl rfl rfl (by first | with_reducible exact zi_1 _ | rfl) ?_
        refine z_goto rfl ?_
        refine ih (i + 1) _ h (by omega) (by omega) hR (hO.A (by decide)) h32 (fun j hj => ?_)
        by_cases e : j = i
        · subst e; exact gA_eq _ _ _ _
        · exact (gA_nj e rfl).trans (hb j (by omega))
  refine z_in [some (.ref r), some (.int (nI n)), some (.long (lN v)), none, none] (by rfl) rfl rfl rfl ?_
  refine z_aload 1 rfl rfl rfl ?_
  refine z_iload 2 rfl rfl rfl ?_
  refine y_pi 5 hR rfl rfl rfl rfl rfl (mFi rfl) ?_
  intro h hR
  refine z_push 6 (nI 0) rfl rfl rfl ?_
  refine z_istore 8 rfl rfl rfl rfl ?_
  exact loop (n + 1) 0 _ h (by omega) (by omega) hR (On.rfl.I (by decide)) (gI_eq _ _ _) (fun j hj => absurd hj (by omega))
set_option maxRecDepth 10000 in
theorem r_few {d r : Nat} {h h0 : mH} {s : rS} {p : Nat} {Q : mP} (hR : Rf r h0 s h) (hp : p < 1114112)  (q : ∀ h' s', Rf r h0 s' h' → On [32, 33] s s' → TxN s' (fwN p) (fwV p) → Q none h') : mWP (d + 1) 205 [.ref r, .int (nI p)] h Q := by
  have hnn : 1 ≤ fwN p ∧ fwN p ≤ 4 := by unfold fwN; split <;> (try split) <;> (try split) <;> omega
  have loop : ∀ i s1 h, i < fwN p → Rf r h0 s1 h → On [32, 33] s s1 → s1.1 32 = fwN p → (∀ j, i < j → j < fwN p → s1.2.2 33 j = bt (fwN p) (fwV p) j) → mZ d tk_205 0 0 Q 43 [some (.ref r), some (.int (nI p)), some (.int (nI (fwN p))), some (.int (nI i))] [] h 0 0 := by
    intro i
    induction i with
    | zero =>
      intro s1 h hi hR hO h32 hb
      have fin : ∀ x h, x = bt (fwN p) (fwV p) 0 → Rf r h0 (stA 33 0 x s1) h → Q none h := by
        intro x h hx hR
        refine q h _ hR (hO.A (by decide)) ⟨h32, fun j hj => ?_⟩
        by_cases e : j = 0
        · subst e; exact (gA_eq _ _ _ _).trans hx
        · exact (gA_nj e rfl).trans (hb j (by omega) hj)
      have hF := fw_b hp 0 (by omega)
      rw [if_pos rfl] at hF
      have hd2 : fwN p = 2 → p / 2 ^ (6 * (fwN p - 1)) < 32 := fun e => by rw [e]; unfold fwN at e; split at e <;> (try split at e) <;> (try split at e) <;> simp <;> omega
      have hd3 : fwN p = 3 → p / 2 ^ (6 * (fwN p - 1)) < 16 := fun e => by rw [e]; unfold fwN at e; split at e <;> (try split at e) <;> (try split at e) <;> simp <;> omega
      have hd4 : fwN p = 4 → p / 2 ^ (6 * (fwN p - 1)) < 8 := fun e => by rw [e]; simp; omega
      refine z_iload 44 rfl rfl rfl ?_
      refine z_zle 47 rfl rfl (by omega) (fun _ => ?_) (fun h9 => absurd h9 (by omega))
      refine z_aload 77 rfl rfl rfl ?_
      refine y_ga 80 hR rfl rfl rfl ?_
      refine z_push 81 (nI 0) rfl rfl rfl ?_
      refine z_iload 82 rfl rfl rfl ?_
      refine z_push 83 (nI 1) rfl rfl rfl ?_
      refine z_nne 86 rfl rfl (by omega) (by omega) (fun hc83 => ?_) (fun hc83 => ?_)
      · refine z_iload 91 rfl rfl rfl ?_
        refine z_push 92 (nI 2) rfl rfl rfl ?_
        refine z_nne 95 rfl rfl (by omega) (by omega) (fun hc92 => ?_) (fun hc92 => ?_)
        · refine z_iload 102 rfl rfl rfl ?_
          refine z_push 103 (nI 3) rfl rfl rfl ?_
          refine z_nne 106 rfl rfl (by omega) (by omega) (fun hc103 => ?_) (fun hc103 => ?_)
          · refine z_push 115 (nI 240) rfl rfl rfl ?_
            refine z_iload 116 rfl rfl rfl ?_
            refine z_push 118 (nI 6) rfl rfl rfl ?_
            refine z_iload 119 rfl rfl rfl ?_
            refine z_push 120 (nI 1) rfl rfl rfl ?_
            refine z_bop 121 _ rfl rfl (by first | with_reducible exact zb_1 (by omega) | exact zd_1 _ _) ?_
            refine z_bop 122 _ rfl rfl (by first | with_reducible exact zb_2 _ _ | exact zd_2 _ _) ?_
            refine z_bop 123 _ rfl rfl (shr_n (by omega) _ (by omega)) ?_
            refine z_bop 124 _ rfl rfl (or_n (k := 3) (by decide) (hd4 (by omega))) ?_
            refine y_as (f := 33) 125 hR rfl rfl rfl rfl (by omega) ?_
            intro h hR
            refine z_vret rfl (Nat.le_refl _) (Nat.le_refl _) ?_
            refine fin _ h ?_ hR
            rw [hF, if_neg hc83, if_neg hc92, if_neg hc103]
          · refine z_push 109 (nI 224) rfl rfl rfl ?_
            refine z_goto rfl ?_
            refine z_iload 116 rfl rfl rfl ?_
            refine z_push 118 (nI 6) rfl rfl rfl ?_
            refine z_iload 119 rfl rfl rfl ?_
            refine z_push 120 (nI 1) rfl rfl rfl ?_
            refine z_bop 121 _ rfl rfl (by first | with_reducible exact zb_1 (by omega) | exact zd_1 _ _) ?_
            refine z_bop 122 _ rfl rfl (by first | with_reducible exact zb_2 _ _ | exact zd_2 _ _) ?_
            refine z_bop 123 _ rfl rfl (shr_n (by omega) _ (by omega)) ?_
            refine z_bop 124 _ rfl rfl (or_n (k := 4) (by decide) (hd3 hc103)) ?_
            refine y_as (f := 33) 125 hR rfl rfl rfl rfl (by omega) ?_
            intro h hR
            refine z_vret rfl (Nat.le_refl _) (Nat.le_refl _) ?_
            refine fin _ h ?_ hR
            rw [hF, if_neg hc83, if_neg hc92, if_pos hc103]
        · refine z_push 98 (nI 192) rfl rfl rfl ?_
          refine z_goto rfl ?_
          refine z_iload 116 rfl rfl rfl ?_
          refine z_push 118 (nI 6) rfl rfl rfl ?_
          refine z_iload 119 rfl rfl rfl ?_
          refine z_push 120 (nI 1) rfl rfl rfl ?_
          refine z_bop 121 _ rfl rfl (by first | with_reducible exact zb_1 (by omega) | exact zd_1 _ _) ?_
          refine z_bop 122 _ rfl rfl (by first | with_reducible exact zb_2 _ _ | exact zd_2 _ _) ?_
          refine z_bop 123 _ rfl rfl (shr_n (by omega) _ (by omega)) ?_
          refine z_bop 124 _ rfl rfl (or_n (k := 5) (by decide) (hd2 hc92)) ?_
          refine y_as (f := 33) 125 hR rfl rfl rfl rfl (by omega) ?_
          intro h hR
          refine z_vret rfl (Nat.le_refl _) (Nat.le_refl _) ?_
          refine fin _ h ?_ hR
          rw [hF, if_neg hc83, if_pos hc92]
      · refine z_push 87 (nI 0) rfl rfl rfl ?_
        refine z_goto rfl ?_
        refine z_iload 116 rfl rfl rfl ?_
        refine z_push 118 (nI 6) rfl rfl rfl ?_
        refine z_iload 119 rfl rfl rfl ?_
        refine z_push 120 (nI 1) rfl rfl rfl ?_
        refine z_bop 121 _ rfl rfl (by first | with_reducible exact zb_1 (by omega) | exact zd_1 _ _) ?_
        refine z_bop 122 _ rfl rfl (by first | with_reducible exact zb_2 _ _ | exact zd_2 _ _) ?_
        refine z_bop 123 _ rfl rfl (shr_n (by omega) _ (by omega)) ?_
        refine z_bop 124 _ rfl rfl (or_n (k := 31) (by decide) (by have : p / 2 ^ (6 * (fwN p - 1)) ≤ p := Nat.div_le_self _ _; omega)) ?_
        refine y_as (f := 33) 125 hR rfl rfl rfl rfl (by omega) ?_
        intro h hR
        refine z_vret rfl (Nat.le_refl _) (Nat.le_refl _) ?_
        refine fin _ h ?_ hR
        rw [hF, if_pos hc83]
    | succ i ih =>
      intro s1 h hi hR hO h32 hb
      refine z_iload 44 rfl rfl rfl ?_
      refine z_zle 47 rfl rfl (by omega) (fun h9 => absurd h9 (by omega)) (fun _ => ?_)
      refine z_aload 48 rfl rfl rfl ?_
      refine y_ga 51 hR rfl rfl rfl ?_
      refine z_iload 52 rfl rfl rfl ?_
      refine z_push 55 (nI 128) rfl rfl rfl ?_
      refine z_iload 56 rfl rfl rfl ?_
      refine z_push 58 (nI 6) rfl rfl rfl ?_
      refine z_iload 59 rfl rfl rfl ?_
      refine z_push 60 (nI 1) rfl rfl rfl ?_
      refine z_bop 61 _ rfl rfl (by first | with_reducible exact zb_1 (by omega) | exact zd_1 _ _) ?_
      refine z_iload 62 rfl rfl rfl ?_
      refine z_bop 63 _ rfl rfl (by first | with_reducible exact zb_1 (by omega) | exact zd_1 _ _) ?_
      refine z_bop 64 _ rfl rfl (by first | with_reducible exact zb_2 _ _ | exact zd_2 _ _) ?_
      refine z_bop 65 _ rfl rfl (shr_n (by omega) _ (by omega)) ?_
      refine z_push 67 (nI 63) rfl rfl rfl ?_
      refine z_bop 68 _ rfl rfl (and_n (Nat.le_trans (Nat.succ_le_succ (Nat.div_le_self _ _)) (by omega)) 6 rfl) ?_
      refine z_bop 69 _ rfl rfl (or_n (k := 6) (by decide) (Nat.mod_lt _ (by decide))) ?_
      refine y_as (f := 33) 70 hR rfl rfl rfl rfl (by omega) ?_
      intro h hR
      refine z_iinc 73 _ rfl rfl rfl rfl (pk_m1 i) ?_
      refine z_goto rfl ?_
      refine ih _ h (by omega) hR (hO.A (by decide)) h32 (fun j h1 h2 => ?_)
      by_cases e : j = i + 1
      · subst e
        rw [gA_eq, fw_b hp (i + 1) (by omega), if_neg (by omega)]
      · exact (gA_nj e rfl).trans (hb j (by omega) h2)
  refine z_in [some (.ref r), some (.int (nI p)), none, none] (by rfl) rfl rfl rfl ?_
  refine z_iload 1 rfl rfl rfl ?_
  refine z_push 4 (nI 128) rfl rfl rfl ?_
  refine z_nge 7 rfl rfl (by omega) (by omega) (fun hc4 => ?_) (fun hc4 => ?_)
  · refine z_iload 12 rfl rfl rfl ?_
    refine z_push 15 (nI 2048) rfl rfl rfl ?_
    refine z_nge 18 rfl rfl (by omega) (by omega) (fun hc15 => ?_) (fun hc15 => ?_)
    · refine z_iload 23 rfl rfl rfl ?_
      refine z_push 25 (nI 65536) rfl rfl rfl ?_
      refine z_nge 28 rfl rfl (by omega) (by omega) (fun hc25 => ?_) (fun hc25 => ?_)
      · refine z_push 33 (nI 4) rfl rfl rfl ?_
        refine z_istore 34 rfl rfl rfl rfl ?_
        rw [show nI 4 = nI (fwN p) from by congr 1; unfold fwN; rw [if_neg (by omega), if_neg (by omega), if_neg (by omega)]]
        refine z_aload 35 rfl rfl rfl ?_
        refine z_iload 36 rfl rfl rfl ?_
        refine y_pi 39 hR rfl rfl rfl rfl rfl (mFi rfl) ?_
        intro h hR
        refine z_iload 40 rfl rfl rfl ?_
        refine z_push 41 (nI 1) rfl rfl rfl ?_
        refine z_bop 42 _ rfl rfl (by first | with_reducible exact zb_1 (by omega) | exact zd_1 _ _) ?_
        refine z_istore 43 rfl rfl rfl rfl ?_
        exact loop (fwN p - 1) _ h (by omega) hR (On.rfl.I (by decide)) (gI_eq _ _ _) (fun j h1 h2 => absurd h2 (by omega))
      · refine z_push 29 (nI 3) rfl rfl rfl ?_
        refine z_goto rfl ?_
        refine z_istore 34 rfl rfl rfl rfl ?_
        rw [show nI 3 = nI (fwN p) from by congr 1; unfold fwN; rw [if_neg (by omega), if_neg (by omega), if_pos (by omega)]]
        refine z_aload 35 rfl rfl rfl ?_
        refine z_iload 36 rfl rfl rfl ?_
        refine y_pi 39 hR rfl rfl rfl rfl rfl (mFi rfl) ?_
        intro h hR
        refine z_iload 40 rfl rfl rfl ?_
        refine z_push 41 (nI 1) rfl rfl rfl ?_
        refine z_bop 42 _ rfl rfl (by first | with_reducible exact zb_1 (by omega) | exact zd_1 _ _) ?_
        refine z_istore 43 rfl rfl rfl rfl ?_
        exact loop (fwN p - 1) _ h (by omega) hR (On.rfl.I (by decide)) (gI_eq _ _ _) (fun j h1 h2 => absurd h2 (by omega))
    · refine z_push 19 (nI 2) rfl rfl rfl ?_
      refine z_goto rfl ?_
      refine z_istore 34 rfl rfl rfl rfl ?_
      rw [show nI 2 = nI (fwN p) from by congr 1; unfold fwN; rw [if_neg (by omega), if_pos (by omega)]]
      refine z_aload 35 rfl rfl rfl ?_
      refine z_iload 36 rfl rfl rfl ?_
      refine y_pi 39 hR rfl rfl rfl rfl rfl (mFi rfl) ?_
      intro h hR
      refine z_iload 40 rfl rfl rfl ?_
      refine z_push 41 (nI 1) rfl rfl rfl ?_
      refine z_bop 42 _ rfl rfl (by first | with_reducible exact zb_1 (by omega) | exact zd_1 _ _) ?_
      refine z_istore 43 rfl rfl rfl rfl ?_
      exact loop (fwN p - 1) _ h (by omega) hR (On.rfl.I (by decide)) (gI_eq _ _ _) (fun j h1 h2 => absurd h2 (by omega))
  · refine z_push 8 (nI 1) rfl rfl rfl ?_
    refine z_goto rfl ?_
    refine z_istore 34 rfl rfl rfl rfl ?_
    rw [show nI 1 = nI (fwN p) from by congr 1; unfold fwN; rw [if_pos (by omega)]]
    refine z_aload 35 rfl rfl rfl ?_
    refine z_iload 36 rfl rfl rfl ?_
    refine y_pi 39 hR rfl rfl rfl rfl rfl (mFi rfl) ?_
    intro h hR
    refine z_iload 40 rfl rfl rfl ?_
    refine z_push 41 (nI 1) rfl rfl rfl ?_
    refine z_bop 42 _ rfl rfl (by first | with_reducible exact zb_1 (by omega) | exact zd_1 _ _) ?_
    refine z_istore 43 rfl rfl rfl rfl ?_
    exact loop (fwN p - 1) _ h (by omega) hR (On.rfl.I (by decide)) (gI_eq _ _ _) (fun j h1 h2 => absurd h2 (by omega))
set_option maxRecDepth 10000 in
theorem r_find {d r : Nat} {h h0 : mH} {s : rS} {p pt K : Nat} {E : List En} {H : List Sh} {Q : mP} (hR : Rf r h0 s h) (hp11 : p < 11) (hk : s.2.2 1 p = K) (hK : K < 4) (hT : TbR s p E H) (hW : TbW E H) (hpt : pt < 1114112)  (q : ∀ h' s', Rf r h0 s' h' → On [31, 32, 33] s s' → (∀ st n v, fnd K E pt = some (st, n, v) → s'.1 31 = st ∧ TxN s' n v) → Q (some (.int (bI (fnd K E pt).isSome))) h') : mWP (d + 2) 201 [.ref r, .int (nI p), .int (nI pt)] h Q := by
  obtain ⟨hp, hT3, hT4, hTe, hTs⟩ := id hT
  have hl := hW.1
  have loop : ∀ m i h, E.length < i + m → i ≤ E.length → ffd (pf2 E pt) E.length 0 = ffd (pf2 E pt) (E.length - i) i → fnd K E pt = (ffd (pf2 E pt) E.length 0).map (fun j => (enS E j, enN E j, enT E j)) → Rf r h0 (stI 31 0 s) h → mZ (d + 1) tk_201 0 0 Q 131 [some (.ref r), some (.int (nI p)), some (.int (nI pt)), some (.int (nI (100 * p + i)))] [] h 0 0 := by
    intro m
    induction m with
    | zero => intro i h h1 h2; omega
    | succ m ih =>
      intro i h h1 h2 hI hf hR
      have hW3 := hW.2.2.1 i
      have hW4 := fun hi => hW.tx (k := i) hi
      refine z_iload 132 rfl rfl rfl ?_
      refine z_push 134 (nI 100) rfl rfl rfl ?_
      refine z_iload 135 rfl rfl rfl ?_
      refine z_bop 136 _ rfl rfl (by first | with_reducible exact zb_2 _ _ | exact zd_2 _ _) ?_
      refine z_aload 137 rfl rfl rfl ?_
      refine y_ga 140 hR rfl rfl rfl ?_
      refine z_iload 141 rfl rfl rfl ?_
      refine y_al (f := 3) 142 _ hR rfl rfl rfl rfl (by omega) (by repeat (first | with_reducible exact hT3 | with_reducible exact (hTe i (by omega)).1 | with_reducible exact (hTe i (by omega)).2.1 | with_reducible exact (hTe i (by omega)).2.2.1 | with_reducible exact (hTe i (by omega)).2.2.2.1 | with_reducible exact (hTe i (by omega)).2.2.2.2 | with_reducible exact gA_eq _ _ _ _ | (with_reducible apply gA_ne; decide) | with_reducible apply gA_I | with_reducible apply gA_O | (with_reducible apply gA_nj; omega) | with_reducible rfl)) ?_
      refine z_bop 143 _ rfl rfl (by first | with_reducible exact zb_0 _ _ | exact zd_0 _ _) ?_
      refine z_nge 146 rfl rfl (by omega) (by omega) (fun hc143 => ?_) (fun hc143 => ?_)
      · refine z_push 204 (nI 0) rfl rfl rfl ?_
        refine z_iretb rfl (Nat.le_refl _) (Nat.le_refl _) (by first | decide | exact bI_01 _) ?_
        rw [hI, show E.length - i = 0 by omega] at hf
        have hf2 : fnd K E pt = none := hf
        rw [hf2] at q
        exact q h _ hR (On.rfl.I (by decide)) (fun st n v h9 => by cases h9)
      · have hW5 := hW3 (by omega)
        have hW6 := hW4 (by omega)
        have hW7 := nPt_lt hW5.2.2.2.2
        refine z_aload 147 rfl rfl rfl ?_
        refine y_ga 150 hR rfl rfl rfl ?_
        refine z_iload 151 rfl rfl rfl ?_
        refine y_al (f := 8) 152 _ hR rfl rfl rfl rfl (by omega) (by repeat (first | with_reducible exact hT3 | with_reducible exact (hTe i (by omega)).1 | with_reducible exact (hTe i (by omega)).2.1 | with_reducible exact (hTe i (by omega)).2.2.1 | with_reducible exact (hTe i (by omega)).2.2.2.1 | with_reducible exact (hTe i (by omega)).2.2.2.2 | with_reducible exact gA_eq _ _ _ _ | (with_reducible apply gA_ne; decide) | with_reducible apply gA_I | with_reducible apply gA_O | (with_reducible apply gA_nj; omega) | with_reducible rfl)) ?_
        refine z_iload 153 rfl rfl rfl ?_
        refine z_nne 156 rfl rfl (by omega) (by omega) (fun hc153 => ?_) (fun hc153 => ?_)
        · refine z_iinc 200 _ rfl rfl rfl rfl (by first | with_reducible exact zi_1 _ | rfl) ?_
          refine z_goto rfl ?_
          refine ih (i + 1) h (by omega) (by omega) ?_ hf hR
          rw [hI, ffd_no (by omega) (by simp [pf2, hc153])]
        · refine z_aload 157 rfl rfl rfl ?_
          refine y_ga 160 hR rfl rfl rfl ?_
          refine z_iload 161 rfl rfl rfl ?_
          refine y_bb (f := 9) 162 _ hR rfl rfl rfl rfl (by omega) (by repeat (first | with_reducible exact hT3 | with_reducible exact (hTe i (by omega)).1 | with_reducible exact (hTe i (by omega)).2.1 | with_reducible exact (hTe i (by omega)).2.2.1 | with_reducible exact (hTe i (by omega)).2.2.2.1 | with_reducible exact (hTe i (by omega)).2.2.2.2 | with_reducible exact gA_eq _ _ _ _ | (with_reducible apply gA_ne; decide) | with_reducible apply gA_I | with_reducible apply gA_O | (with_reducible apply gA_nj; omega) | with_reducible rfl)) ?_
          first | refine z_bne 165 rfl rfl (fun hc162 => ?_) (fun hc162 => ?_)
          · refine z_aload 169 rfl rfl rfl ?_
            refine z_aload 170 rfl rfl rfl ?_
            refine y_ga 173 hR rfl rfl rfl ?_
            refine z_iload 174 rfl rfl rfl ?_
            refine y_al (f := 5) 175 _ hR rfl rfl rfl rfl (by omega) (by repeat (first | with_reducible exact hT3 | with_reducible exact (hTe i (by omega)).1 | with_reducible exact (hTe i (by omega)).2.1 | with_reducible exact (hTe i (by omega)).2.2.1 | with_reducible exact (hTe i (by omega)).2.2.2.1 | with_reducible exact (hTe i (by omega)).2.2.2.2 | with_reducible exact gA_eq _ _ _ _ | (with_reducible apply gA_ne; decide) | with_reducible apply gA_I | with_reducible apply gA_O | (with_reducible apply gA_nj; omega) | with_reducible rfl)) ?_
            refine y_pi 178 hR rfl rfl rfl rfl rfl (mFi rfl) ?_
            intro h hR
            refine z_aload 179 rfl rfl rfl ?_
            refine z_aload 180 rfl rfl rfl ?_
            refine y_ga 183 hR rfl rfl rfl ?_
            refine z_iload 184 rfl rfl rfl ?_
            refine y_al (f := 6) 185 _ hR rfl rfl rfl rfl (by omega) (by repeat (first | with_reducible exact hT3 | with_reducible exact (hTe i (by omega)).1 | with_reducible exact (hTe i (by omega)).2.1 | with_reducible exact (hTe i (by omega)).2.2.1 | with_reducible exact (hTe i (by omega)).2.2.2.1 | with_reducible exact (hTe i (by omega)).2.2.2.2 | with_reducible exact gA_eq _ _ _ _ | (with_reducible apply gA_ne; decide) | with_reducible apply gA_I | with_reducible apply gA_O | (with_reducible apply gA_nj; omega) | with_reducible rfl)) ?_
            refine z_aload 186 rfl rfl rfl ?_
            refine y_ga 189 hR rfl rfl rfl ?_
            refine z_iload 190 rfl rfl rfl ?_
            refine y_al (f := 7) 191 _ hR rfl rfl rfl rfl (by omega) (by repeat (first | with_reducible exact hT3 | with_reducible exact (hTe i (by omega)).1 | with_reducible exact (hTe i (by omega)).2.1 | with_reducible exact (hTe i (by omega)).2.2.1 | with_reducible exact (hTe i (by omega)).2.2.2.1 | with_reducible exact (hTe i (by omega)).2.2.2.2 | with_reducible exact gA_eq _ _ _ _ | (with_reducible apply gA_ne; decide) | with_reducible apply gA_I | with_reducible apply gA_O | (with_reducible apply gA_nj; omega) | with_reducible rfl)) ?_
            refine z_i2l 192 rfl rfl ?_
            rw [nI_l (by omega)]
            refine z_cv2 195 rfl rfl hR.1 rfl (Nat.le_refl _) (Nat.le_refl _) ?_
            refine r_text hR (by omega) (by omega) (fun h s1 hR hO hX => ?_)
            refine z_push 196 (nI 1) rfl rfl rfl ?_
            refine z_iretb rfl (Nat.le_refl _) (Nat.le_refl _) (by first | decide | exact bI_01 _) ?_
            rw [hI, ffd_yes (by omega) (by simp [pf2, hc153, hc162])] at hf
            have hf2 : fnd K E pt = some (enS E i, enN E i, enT E i) := hf
            rw [hf2] at q
            refine q h s1 hR ((On.rfl.I (by decide)).trans (((On.rfl.I (by decide)).trans (hO.mono (by decide))))) (fun st n v h9 => ?_)
            cases h9
            exact ⟨((hO.1 31 (by decide)).1).trans (gI_eq _ _ _), hX⟩
          · refine z_goto rfl ?_
            refine z_iinc 200 _ rfl rfl rfl rfl (by first | with_reducible exact zi_1 _ | rfl) ?_
            refine z_goto rfl ?_
            refine ih (i + 1) h (by omega) (by omega) ?_ hf hR
            rw [hI, ffd_no (by omega) (by simp [pf2, hc162])]
  refine z_in [some (.ref r), some (.int (nI p)), some (.int (nI pt)), none] (by rfl) rfl rfl rfl ?_
  refine z_aload 1 rfl rfl rfl ?_
  refine z_push 2 (nI 0) rfl rfl rfl ?_
  refine y_pi 5 hR rfl rfl rfl rfl rfl (mFi rfl) ?_
  intro h hR
  refine z_aload 6 rfl rfl rfl ?_
  refine y_ga 9 hR rfl rfl rfl ?_
  refine z_iload 10 rfl rfl rfl ?_
  refine y_al (f := 1) 11 _ hR rfl rfl rfl rfl (by omega) (by repeat (first | with_reducible exact hk | with_reducible exact gA_eq _ _ _ _ | (with_reducible apply gA_ne; decide) | with_reducible apply gA_I | with_reducible apply gA_O | (with_reducible apply gA_nj; omega) | with_reducible rfl)) ?_
  have hKK : K = 0 ∨ K = 1 ∨ K = 2 ∨ K = 3 := by omega
  rcases hKK with rfl | rfl | rfl | rfl
  · refine z_swOut rfl (by decide) ?_
    refine z_push 128 (nI 100) rfl rfl rfl ?_
    refine z_iload 129 rfl rfl rfl ?_
    refine z_bop 130 _ rfl rfl (by first | with_reducible exact zb_2 _ _ | exact zd_2 _ _) ?_
    refine z_istore 131 rfl rfl rfl rfl ?_
    exact loop (E.length + 1) 0 h (by omega) (by omega) (by rw [Nat.sub_zero]) (if_pos rfl) hR
  · refine z_swIn 36 rfl 0 (by decide) rfl ?_
    refine z_iload 37 rfl rfl rfl ?_
    refine z_push 39 (nI 65536) rfl rfl rfl ?_
    refine z_nge 42 rfl rfl (by omega) (by omega) (fun hc39 => ?_) (fun hc39 => ?_)
    · refine z_aload 53 rfl rfl rfl ?_
      refine z_push 54 (nI 4) rfl rfl rfl ?_
      refine z_iload 55 rfl rfl rfl ?_
      refine z_cs1 58 rfl rfl rfl (Nat.le_refl _) (Nat.le_refl _) ?_
      refine r_first (by omega) hpt ?_
      refine z_i2l 59 rfl rfl ?_
      rw [nI_l (by omega)]
      refine z_push 61 (nI 16) rfl rfl rfl ?_
      refine z_lsh 62 _ rfl rfl (lsh_n (by decide)) ?_
      refine z_iload 63 rfl rfl rfl ?_
      refine z_cs1 66 rfl rfl rfl (Nat.le_refl _) (Nat.le_refl _) ?_
      refine r_second (by omega) hpt ?_
      refine z_i2l 67 rfl rfl ?_
      rw [nI_l (by omega)]
      refine z_lop 68 _ rfl rfl (lor_n (k := 16) (by omega) (by omega)) ?_
      refine z_cv2 71 rfl rfl hR.1 rfl (Nat.le_refl _) (Nat.le_refl _) ?_
      refine r_text hR (by omega) (by omega) (fun h s1 hR hO hX => ?_)
      refine z_push 72 (nI 1) rfl rfl rfl ?_
      refine z_iretb rfl (Nat.le_refl _) (Nat.le_refl _) (by first | decide | exact bI_01 _) ?_
      have hf2 : fnd 1 E pt = some (0, 4, utF pt * 65536 + utS pt) := by
        rw [fnd, if_neg (by decide), fmT]
        rw [if_neg (by decide), if_neg (by omega)]
        rfl
      rw [hf2] at q
      refine q h s1 hR ((On.rfl.I (by decide)).trans (hO.mono (by decide))) (fun st n v h9 => ?_)
      cases h9
      exact ⟨((hO.1 31 (by decide)).1).trans (gI_eq _ _ _), hX⟩
    · refine z_aload 43 rfl rfl rfl ?_
      refine z_push 44 (nI 2) rfl rfl rfl ?_
      refine z_iload 45 rfl rfl rfl ?_
      refine z_i2l 46 rfl rfl ?_
      rw [nI_l (by omega)]
      refine z_cv2 49 rfl rfl hR.1 rfl (Nat.le_refl _) (Nat.le_refl _) ?_
      refine r_text hR (by omega) (by omega) (fun h s1 hR hO hX => ?_)
      refine z_goto rfl ?_
      refine z_push 72 (nI 1) rfl rfl rfl ?_
      refine z_iretb rfl (Nat.le_refl _) (Nat.le_refl _) (by first | decide | exact bI_01 _) ?_
      have hf2 : fnd 1 E pt = some (0, 2, pt) := by
        rw [fnd, if_neg (by decide), fmT]
        rw [if_neg (by decide), if_pos (by omega)]
        rfl
      rw [hf2] at q
      refine q h s1 hR ((On.rfl.I (by decide)).trans (hO.mono (by decide))) (fun st n v h9 => ?_)
      cases h9
      exact ⟨((hO.1 31 (by decide)).1).trans (gI_eq _ _ _), hX⟩
  · refine z_swIn 73 rfl 1 (by decide) rfl ?_
    refine z_iload 74 rfl rfl rfl ?_
    refine z_push 76 (nI 65536) rfl rfl rfl ?_
    refine z_nge 79 rfl rfl (by omega) (by omega) (fun hc76 => ?_) (fun hc76 => ?_)
    · refine z_aload 93 rfl rfl rfl ?_
      refine z_push 94 (nI 4) rfl rfl rfl ?_
      refine z_iload 95 rfl rfl rfl ?_
      refine z_cs1 98 rfl rfl rfl (Nat.le_refl _) (Nat.le_refl _) ?_
      refine r_first (by omega) hpt ?_
      refine z_cs1 101 rfl rfl rfl (Nat.le_refl _) (Nat.le_refl _) ?_
      refine r_turned (utF_lt hpt) ?_
      refine z_i2l 102 rfl rfl ?_
      rw [nI_l (by have := uTx_lt (k := 2) (utF_lt hpt); simp only [uTx, utF] at this; omega)]
      refine z_push 104 (nI 16) rfl rfl rfl ?_
      refine z_lsh 105 _ rfl rfl (lsh_n (by decide)) ?_
      refine z_iload 106 rfl rfl rfl ?_
      refine z_cs1 109 rfl rfl rfl (Nat.le_refl _) (Nat.le_refl _) ?_
      refine r_second (by omega) hpt ?_
      refine z_cs1 112 rfl rfl rfl (Nat.le_refl _) (Nat.le_refl _) ?_
      refine r_turned (utS_lt) ?_
      refine z_i2l 113 rfl rfl ?_
      rw [nI_l (by have := uTx_lt (k := 2) (utS_lt (p := pt)); simp only [uTx, utS] at this; omega)]
      refine z_lop 114 _ rfl rfl (lor_n (k := 16) (by omega) (by omega)) ?_
      refine z_cv2 117 rfl rfl hR.1 rfl (Nat.le_refl _) (Nat.le_refl _) ?_
      refine r_text hR (by omega) (by omega) (fun h s1 hR hO hX => ?_)
      refine z_push 118 (nI 1) rfl rfl rfl ?_
      refine z_iretb rfl (Nat.le_refl _) (Nat.le_refl _) (by first | decide | exact bI_01 _) ?_
      have hf2 : fnd 2 E pt = some (0, 4, (utF pt % 256 * 256 + utF pt / 256) * 65536 + (utS pt % 256 * 256 + utS pt / 256)) := by
        rw [fnd, if_neg (by decide), fmT]
        rw [if_neg (by decide), if_neg (by omega)]
        rfl
      rw [hf2] at q
      refine q h s1 hR ((On.rfl.I (by decide)).trans (hO.mono (by decide))) (fun st n v h9 => ?_)
      cases h9
      exact ⟨((hO.1 31 (by decide)).1).trans (gI_eq _ _ _), hX⟩
    · refine z_aload 80 rfl rfl rfl ?_
      refine z_push 81 (nI 2) rfl rfl rfl ?_
      refine z_iload 82 rfl rfl rfl ?_
      refine z_cs1 85 rfl rfl rfl (Nat.le_refl _) (Nat.le_refl _) ?_
      refine r_turned (by omega) ?_
      refine z_i2l 86 rfl rfl ?_
      rw [nI_l (by omega)]
      refine z_cv2 89 rfl rfl hR.1 rfl (Nat.le_refl _) (Nat.le_refl _) ?_
      refine r_text hR (by omega) (by omega) (fun h s1 hR hO hX => ?_)
      refine z_goto rfl ?_
      refine z_push 118 (nI 1) rfl rfl rfl ?_
      refine z_iretb rfl (Nat.le_refl _) (Nat.le_refl _) (by first | decide | exact bI_01 _) ?_
      have hf2 : fnd 2 E pt = some (0, 2, pt % 256 * 256 + pt / 256) := by
        rw [fnd, if_neg (by decide), fmT]
        rw [if_neg (by decide), if_pos (by omega)]
        rfl
      rw [hf2] at q
      refine q h s1 hR ((On.rfl.I (by decide)).trans (hO.mono (by decide))) (fun st n v h9 => ?_)
      cases h9
      exact ⟨((hO.1 31 (by decide)).1).trans (gI_eq _ _ _), hX⟩
  · refine z_swIn 119 rfl 2 (by decide) rfl ?_
    refine z_aload 120 rfl rfl rfl ?_
    refine z_iload 121 rfl rfl rfl ?_
    refine z_cv1 124 rfl rfl hR.1 rfl (Nat.le_refl _) (Nat.le_refl _) ?_
    refine r_few hR hpt (fun h s1 hR hO hX => ?_)
    refine z_push 125 (nI 1) rfl rfl rfl ?_
    refine z_iretb rfl (Nat.le_refl _) (Nat.le_refl _) (by first | decide | exact bI_01 _) ?_
    have hf2 : fnd 3 E pt = some (0, fwN pt, fwV pt) := rfl
    rw [hf2] at q
    refine q h s1 hR ((On.rfl.I (by decide)).trans (hO.mono (by decide))) (fun st n v h9 => ?_)
    cases h9
    exact ⟨((hO.1 31 (by decide)).1).trans (gI_eq _ _ _), hX⟩
