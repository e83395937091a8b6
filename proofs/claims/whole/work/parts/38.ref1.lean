/-! the reference: small methods; tables -/
abbrev En : Type := Nat × Nat × Nat × Nat × Bool
abbrev Sh : Type := Nat × Nat × Nat × Bool
/-- of entry k: state, byte text as a number, its length, point, preferred -/
def enS (E : List En) (k : Nat) : Nat := (E.getD k (0, 0, 0, 0, false)).1
def enT (E : List En) (k : Nat) : Nat := (E.getD k (0, 0, 0, 0, false)).2.1
def enN (E : List En) (k : Nat) : Nat := (E.getD k (0, 0, 0, 0, false)).2.2.1
def enP (E : List En) (k : Nat) : Nat := (E.getD k (0, 0, 0, 0, false)).2.2.2.1
def enF (E : List En) (k : Nat) : Bool := (E.getD k (0, 0, 0, 0, false)).2.2.2.2
/-- of shift k: state, byte, goal, sticky -/
def shS (H : List Sh) (k : Nat) : Nat := (H.getD k (0, 0, 0, false)).1
def shV (H : List Sh) (k : Nat) : Nat := (H.getD k (0, 0, 0, false)).2.1
def shG (H : List Sh) (k : Nat) : Nat := (H.getD k (0, 0, 0, false)).2.2.1
def shK (H : List Sh) (k : Nat) : Bool := (H.getD k (0, 0, 0, false)).2.2.2
def nPt (x : Nat) : Bool := decide (x < 1114112) && !decide (55296 ≤ x ∧ x ≤ 57343)
def TbW (E : List En) (H : List Sh) : Prop := E.length ≤ 100 ∧ H.length ≤ 10 ∧ (∀ k, k < E.length → enS E k < 4 ∧ 1 ≤ enN E k ∧ enN E k ≤ 3 ∧ enT E k < 256 ^ enN E k ∧ nPt (enP E k) = true) ∧ (∀ k, k < H.length → shS H k < 4 ∧ shV H k < 256 ∧ shG H k < 4 ∧ shS H k ≠ shG H k)
def TbR (s : rS) (p : Nat) (E : List En) (H : List Sh) : Prop := p < 11 ∧ s.2.2 3 p = E.length ∧ s.2.2 4 p = H.length ∧ (∀ k, k < E.length → s.2.2 5 (100 * p + k) = enS E k ∧ s.2.2 6 (100 * p + k) = enN E k ∧ s.2.2 7 (100 * p + k) = enT E k ∧ s.2.2 8 (100 * p + k) = enP E k ∧ s.2.2 9 (100 * p + k) = b2 (enF E k)) ∧ (∀ k, k < H.length → s.2.2 10 (10 * p + k) = shS H k ∧ s.2.2 11 (10 * p + k) = shV H k ∧ s.2.2 12 (10 * p + k) = shG H k ∧ s.2.2 13 (10 * p + k) = b2 (shK H k))
theorem TbW.tx {E : List En} {H : List Sh} (h : TbW E H) {k : Nat} (hk : k < E.length) : enT E k < 16777216 := by
  have h1 := h.2.2.1 k hk
  have h2 : 256 ^ enN E k ≤ 256 ^ 3 := Nat.pow_le_pow_right (by decide) h1.2.2.1
  omega
theorem nPt_lt {x : Nat} (h : nPt x = true) : x < 1114112 := by
  simp only [nPt, Bool.and_eq_true, decide_eq_true_eq] at h
  exact h.1
theorem ffd_no {P : Nat → Bool} {n i : Nat} (h : i < n) (hp : P i = false) : ffd P (n - i) i = ffd P (n - (i + 1)) (i + 1) := by
  rw [show n - i = n - (i + 1) + 1 by omega, ffd, if_neg (by rw [hp]; decide)]
theorem ffd_yes {P : Nat → Bool} {n i : Nat} (h : i < n) (hp : P i = true) : ffd P (n - i) i = some i := by
  rw [show n - i = n - (i + 1) + 1 by omega, ffd, if_pos hp]
def oIb (b : Nat) : Option Nat → Int32
  | none => -1
  | some j => nI (b + j)
def eQ (E : List En) (st tx n k : Nat) : Bool := decide (enS E k = st) && decide (enT E k = tx) && decide (enN E k = n)
def sQ (H : List Sh) (st b k : Nat) : Bool := decide (shS H k = st) && decide (shV H k = b)
set_option maxRecDepth 10000 in
theorem r_tell {d r : Nat} {h h0 : mH} {s : rS} {a : Int32} {Q : mP} (hR : Rf r h0 s h)  (q0 : 0 ≤ a.toInt → Q (some (.int a)) h) (q1 : a.toInt < 0 → ∀ h', Rf r h0 (stI 24 (s.1 24 + 1) s) h' → Q (some (.int a)) h') : mWP (d + 1) 172 [.ref r, .int a] h Q := by
  refine z_in [some (.ref r), some (.int a)] (by rfl) rfl rfl rfl ?_
  refine z_iload 1 rfl rfl rfl ?_
  first | refine z_jge 4 rfl rfl (fun hc1 => ?_) (fun hc1 => ?_)
  · refine z_iload 15 rfl rfl rfl ?_
    refine z_ireti rfl (Nat.le_refl _) (Nat.le_refl _) ?_
    first | exact q0 (by omega) | exact q1 (by omega) h hR
  · refine z_aload 5 rfl rfl rfl ?_
    first | refine z_dup 6 rfl rfl ?_ | refine z_dupi 6 rfl rfl ?_
    refine y_gi 9 _ hR rfl rfl rfl rfl rfl (by repeat (first | with_reducible exact gI_eq _ _ _ | (with_reducible apply gI_ne; decide) | with_reducible apply gI_A | with_reducible apply gI_O | with_reducible rfl)) ?_
    refine z_push 10 (nI 1) rfl rfl rfl ?_
    refine z_bop 11 _ rfl rfl (by first | with_reducible exact zb_0 _ _ | exact zd_0 _ _) ?_
    refine y_pi 14 hR rfl rfl rfl rfl rfl (mFi rfl) ?_
    intro h hR
    refine z_iload 15 rfl rfl rfl ?_
    refine z_ireti rfl (Nat.le_refl _) (Nat.le_refl _) ?_
    first | exact q0 (by omega) | exact q1 (by omega) h hR
set_option maxRecDepth 10000 in
theorem r_isHigh {d : Nat} {h : mH} {x : Int32} {Q : mP}  (q : Q (some (.int (bI (jHigh x)))) h) : mWP (d + 2) 174 [.int x] h Q := by
  refine z_in [some (.int x)] (by rfl) rfl rfl rfl ?_
  refine z_iload 1 rfl rfl rfl ?_
  refine z_push 3 (nI 55296) rfl rfl rfl ?_
  refine z_push 5 (nI 56319) rfl rfl rfl ?_
  refine z_cs3 8 rfl rfl rfl (Nat.le_refl _) (Nat.le_refl _) ?_
  refine r_in ?_
  refine z_iretb rfl (Nat.le_refl _) (Nat.le_refl _) (by first | decide | exact bI_01 _) ?_
  exact zq q (by congr 1; simp only [jIn, jHigh]; congr 1; rw [nI_toInt (by omega), nI_toInt (by omega)]; simp only [eq_iff_iff]; omega)
set_option maxRecDepth 10000 in
theorem r_isLow {d : Nat} {h : mH} {x : Int32} {Q : mP}  (q : Q (some (.int (bI (jLow x)))) h) : mWP (d + 2) 175 [.int x] h Q := by
  refine z_in [some (.int x)] (by rfl) rfl rfl rfl ?_
  refine z_iload 1 rfl rfl rfl ?_
  refine z_push 3 (nI 56320) rfl rfl rfl ?_
  refine z_push 5 (nI 57343) rfl rfl rfl ?_
  refine z_cs3 8 rfl rfl rfl (Nat.le_refl _) (Nat.le_refl _) ?_
  refine r_in ?_
  refine z_iretb rfl (Nat.le_refl _) (Nat.le_refl _) (by first | decide | exact bI_01 _) ?_
  exact zq q (by congr 1)
theorem jIn_l {x : Int32} {a b : Nat} (ha : a < 2 ^ 31) (hb : b < 2 ^ 31) : jIn x (nI a) (nI b) = decide ((a : Int) ≤ x.toInt ∧ x.toInt ≤ b) := by rw [jIn, nI_toInt ha, nI_toInt hb]
set_option maxRecDepth 10000 in
theorem r_isPoint {d : Nat} {h : mH} {x : Int32} {Q : mP}  (q : Q (some (.int (bI (jPoint x)))) h) : mWP (d + 2) 176 [.int x] h Q := by
  refine z_in [some (.int x)] (by rfl) rfl rfl rfl ?_
  refine z_iload 1 rfl rfl rfl ?_
  refine z_push 2 (nI 0) rfl rfl rfl ?_
  refine z_push 4 (nI 1114111) rfl rfl rfl ?_
  refine z_cs3 7 rfl rfl rfl (Nat.le_refl _) (Nat.le_refl _) ?_
  refine r_in ?_
  rw [jIn_l (by omega) (by omega)]
  first | refine z_beq 10 rfl rfl (fun hc7 => ?_) (fun hc7 => ?_) | refine z_zeq 10 rfl rfl (by omega) (fun hc7 => ?_) (fun hc7 => ?_) | refine z_jeq 10 rfl rfl (fun hc7 => ?_) (fun hc7 => ?_)
  · refine z_push 26 (nI 0) rfl rfl rfl ?_
    refine z_iretb rfl (Nat.le_refl _) (Nat.le_refl _) (by first | decide | exact bI_01 _) ?_
    exact zq q (by rw [jPoint]; first | (rw [decide_eq_false_iff_not] at hc7; rw [decide_eq_false (by omega)]; rfl) | (rw [decide_eq_true_eq] at hc7 hc18; rw [jHalf, decide_eq_true (p := _ ∧ _ ≤ (57343 : Int)) (by omega), Bool.not_true, Bool.and_false]; rfl) | (rw [decide_eq_true_eq] at hc7; rw [decide_eq_false_iff_not] at hc18; rw [jHalf, decide_eq_true (by omega), decide_eq_false (by omega)]; rfl))
  · refine z_iload 11 rfl rfl rfl ?_
    refine z_push 13 (nI 55296) rfl rfl rfl ?_
    refine z_push 15 (nI 57343) rfl rfl rfl ?_
    refine z_cs3 18 rfl rfl rfl (Nat.le_refl _) (Nat.le_refl _) ?_
    refine r_in ?_
    rw [jIn_l (by omega) (by omega)]
    first | refine z_bne 21 rfl rfl (fun hc18 => ?_) (fun hc18 => ?_) | refine z_zne 21 rfl rfl (by omega) (fun hc18 => ?_) (fun hc18 => ?_) | refine z_jne 21 rfl rfl (fun hc18 => ?_) (fun hc18 => ?_)
    · refine z_push 26 (nI 0) rfl rfl rfl ?_
      refine z_iretb rfl (Nat.le_refl _) (Nat.le_refl _) (by first | decide | exact bI_01 _) ?_
      exact zq q (by rw [jPoint]; first | (rw [decide_eq_false_iff_not] at hc7; rw [decide_eq_false (by omega)]; rfl) | (rw [decide_eq_true_eq] at hc7 hc18; rw [jHalf, decide_eq_true (p := _ ∧ _ ≤ (57343 : Int)) (by omega), Bool.not_true, Bool.and_false]; rfl) | (rw [decide_eq_true_eq] at hc7; rw [decide_eq_false_iff_not] at hc18; rw [jHalf, decide_eq_true (by omega), decide_eq_false (by omega)]; rfl))
    · refine z_push 22 (nI 1) rfl rfl rfl ?_
      refine z_goto rfl ?_
      refine z_iretb rfl (Nat.le_refl _) (Nat.le_refl _) (by first | decide | exact bI_01 _) ?_
      exact zq q (by rw [jPoint]; first | (rw [decide_eq_false_iff_not] at hc7; rw [decide_eq_false (by omega)]; rfl) | (rw [decide_eq_true_eq] at hc7 hc18; rw [jHalf, decide_eq_true (p := _ ∧ _ ≤ (57343 : Int)) (by omega), Bool.not_true, Bool.and_false]; rfl) | (rw [decide_eq_true_eq] at hc7; rw [decide_eq_false_iff_not] at hc18; rw [jHalf, decide_eq_true (by omega), decide_eq_false (by omega)]; rfl))
set_option maxRecDepth 10000 in
theorem r_isPage {d r : Nat} {h h0 : mH} {s : rS} {x : Int32} {n : Nat} {Q : mP} (hR : Rf r h0 s h) (hn : s.1 0 = n) (hb : n ≤ 10)  (q : Q (some (.int (bI (decide (0 ≤ x.toInt ∧ x.toInt < n))))) h) : mWP (d + 2) 177 [.ref r, .int x] h Q := by
  refine z_in [some (.ref r), some (.int x)] (by rfl) rfl rfl rfl ?_
  refine z_iload 1 rfl rfl rfl ?_
  refine z_push 2 (nI 0) rfl rfl rfl ?_
  refine z_aload 3 rfl rfl rfl ?_
  refine y_gi 6 _ hR rfl rfl rfl rfl rfl (by repeat (first | with_reducible exact gI_eq _ _ _ | (with_reducible apply gI_ne; decide) | with_reducible apply gI_A | with_reducible apply gI_O | with_reducible exact hn | with_reducible rfl)) ?_
  refine z_push 7 (nI 1) rfl rfl rfl ?_
  refine z_bop 8 _ rfl rfl (zd_1 _ _) ?_
  refine z_cs3 11 rfl rfl rfl (Nat.le_refl _) (Nat.le_refl _) ?_
  refine r_in ?_
  refine z_iretb rfl (Nat.le_refl _) (Nat.le_refl _) (by first | decide | exact bI_01 _) ?_
  exact zq q (by congr 1; rw [jIn]; congr 1; rw [eq_iff_iff, nI_toInt (by omega), pk_sub_toInt (by omega) (by omega)]; omega)
set_option maxRecDepth 10000 in
theorem r_isText {d : Nat} {h : mH} {x y z : Int32} {Q : mP}  (q : Q (some (.int (bI (jText x y z)))) h) : mWP (d + 2) 183 [.int x, .int y, .int z] h Q := by
  refine z_in [some (.int x), some (.int y), some (.int z)] (by rfl) rfl rfl rfl ?_
  refine z_iload 1 rfl rfl rfl ?_
  refine z_push 2 (nI 0) rfl rfl rfl ?_
  refine z_push 3 (nI 3) rfl rfl rfl ?_
  refine z_cs3 6 rfl rfl rfl (Nat.le_refl _) (Nat.le_refl _) ?_
  refine r_in ?_
  rw [jIn_l (by omega) (by omega)]
  first | refine z_beq 9 rfl rfl (fun hc6 => ?_) (fun hc6 => ?_) | refine z_zeq 9 rfl rfl (by omega) (fun hc6 => ?_) (fun hc6 => ?_) | refine z_jeq 9 rfl rfl (fun hc6 => ?_) (fun hc6 => ?_)
  · refine z_push 37 (nI 0) rfl rfl rfl ?_
    refine z_iretb rfl (Nat.le_refl _) (Nat.le_refl _) (by first | decide | exact bI_01 _) ?_
    simp only [decide_eq_true_eq, decide_eq_false_iff_not] at *
    exact zq q (by rw [jText, jState]; first | (rw [decide_eq_false (p := _ ∧ _ < (4 : Int)) (by omega)]; rfl) | (rw [decide_eq_false (p := _ ∧ _ ≤ (3 : Int)) (by omega)]; simp; rfl) | (rw [decide_eq_false (p := _ ∧ y.toInt < _) (by omega)]; simp; rfl) | (rw [decide_eq_true (p := _ ∧ _ < (4 : Int)) (by omega), decide_eq_true (p := _ ∧ _ ≤ (3 : Int)) (by omega), decide_eq_true (p := _ ∧ y.toInt < _) (by omega)]; rfl))
  · refine z_iload 10 rfl rfl rfl ?_
    refine z_push 11 (nI 1) rfl rfl rfl ?_
    refine z_push 12 (nI 3) rfl rfl rfl ?_
    refine z_cs3 15 rfl rfl rfl (Nat.le_refl _) (Nat.le_refl _) ?_
    refine r_in ?_
    rw [jIn_l (by omega) (by omega)]
    first | refine z_beq 18 rfl rfl (fun hc15 => ?_) (fun hc15 => ?_) | refine z_zeq 18 rfl rfl (by omega) (fun hc15 => ?_) (fun hc15 => ?_) | refine z_jeq 18 rfl rfl (fun hc15 => ?_) (fun hc15 => ?_)
    · refine z_push 37 (nI 0) rfl rfl rfl ?_
      refine z_iretb rfl (Nat.le_refl _) (Nat.le_refl _) (by first | decide | exact bI_01 _) ?_
      simp only [decide_eq_true_eq, decide_eq_false_iff_not] at *
      exact zq q (by rw [jText, jState]; first | (rw [decide_eq_false (p := _ ∧ _ < (4 : Int)) (by omega)]; rfl) | (rw [decide_eq_false (p := _ ∧ _ ≤ (3 : Int)) (by omega)]; simp; rfl) | (rw [decide_eq_false (p := _ ∧ y.toInt < _) (by omega)]; simp; rfl) | (rw [decide_eq_true (p := _ ∧ _ < (4 : Int)) (by omega), decide_eq_true (p := _ ∧ _ ≤ (3 : Int)) (by omega), decide_eq_true (p := _ ∧ y.toInt < _) (by omega)]; rfl))
    · refine z_iload 19 rfl rfl rfl ?_
      first | refine z_zlt 22 rfl rfl (by omega) (fun hc19 => ?_) (fun hc19 => ?_) | refine z_jlt 22 rfl rfl (fun hc19 => ?_) (fun hc19 => ?_)
      · refine z_push 37 (nI 0) rfl rfl rfl ?_
        refine z_iretb rfl (Nat.le_refl _) (Nat.le_refl _) (by first | decide | exact bI_01 _) ?_
        simp only [decide_eq_true_eq, decide_eq_false_iff_not] at *
        exact zq q (by rw [jText, jState]; first | (rw [decide_eq_false (p := _ ∧ _ < (4 : Int)) (by omega)]; rfl) | (rw [decide_eq_false (p := _ ∧ _ ≤ (3 : Int)) (by omega)]; simp; rfl) | (rw [decide_eq_false (p := _ ∧ y.toInt < _) (by omega)]; simp; rfl) | (rw [decide_eq_true (p := _ ∧ _ < (4 : Int)) (by omega), decide_eq_true (p := _ ∧ _ ≤ (3 : Int)) (by omega), decide_eq_true (p := _ ∧ y.toInt < _) (by omega)]; rfl))
      · refine z_iload 23 rfl rfl rfl ?_
        refine z_push 24 (nI 1) rfl rfl rfl ?_
        refine z_push 26 (nI 8) rfl rfl rfl ?_
        refine z_iload 27 rfl rfl rfl ?_
        refine z_bop 28 _ rfl rfl (by first | with_reducible exact zb_2 _ _ | exact zd_2 _ _) ?_
        refine z_bop 29 _ rfl rfl (zd_6 _ _) ?_
        first | refine z_nge 32 rfl rfl (by omega) (by omega) (fun hc29 => ?_) (fun hc29 => ?_) | refine z_kge 32 rfl rfl (by omega) (fun hc29 => ?_) (fun hc29 => ?_) | refine z_hge 32 rfl rfl (by omega) (fun hc29 => ?_) (fun hc29 => ?_) | refine z_tge 32 rfl rfl (fun hc29 => ?_) (fun hc29 => ?_)
        · refine z_push 37 (nI 0) rfl rfl rfl ?_
          refine z_iretb rfl (Nat.le_refl _) (Nat.le_refl _) (by first | decide | exact bI_01 _) ?_
          simp only [decide_eq_true_eq, decide_eq_false_iff_not] at *
          exact zq q (by rw [jText, jState]; first | (rw [decide_eq_false (p := _ ∧ _ < (4 : Int)) (by omega)]; rfl) | (rw [decide_eq_false (p := _ ∧ _ ≤ (3 : Int)) (by omega)]; simp; rfl) | (rw [decide_eq_false (p := _ ∧ y.toInt < _) (by omega)]; simp; rfl) | (rw [decide_eq_true (p := _ ∧ _ < (4 : Int)) (by omega), decide_eq_true (p := _ ∧ _ ≤ (3 : Int)) (by omega), decide_eq_true (p := _ ∧ y.toInt < _) (by omega)]; rfl))
        · refine z_push 33 (nI 1) rfl rfl rfl ?_
          refine z_goto rfl ?_
          refine z_iretb rfl (Nat.le_refl _) (Nat.le_refl _) (by first | decide | exact bI_01 _) ?_
          simp only [decide_eq_true_eq, decide_eq_false_iff_not] at *
          exact zq q (by rw [jText, jState]; first | (rw [decide_eq_false (p := _ ∧ _ < (4 : Int)) (by omega)]; rfl) | (rw [decide_eq_false (p := _ ∧ _ ≤ (3 : Int)) (by omega)]; simp; rfl) | (rw [decide_eq_false (p := _ ∧ y.toInt < _) (by omega)]; simp; rfl) | (rw [decide_eq_true (p := _ ∧ _ < (4 : Int)) (by omega), decide_eq_true (p := _ ∧ _ ≤ (3 : Int)) (by omega), decide_eq_true (p := _ ∧ y.toInt < _) (by omega)]; rfl))
