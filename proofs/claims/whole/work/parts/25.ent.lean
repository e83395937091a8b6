/-! Entries and Shifts: their cells stand one behind the other -/
/-- the first of m numbers from i on with P -/
def ffd (P : Nat → Bool) : Nat → Nat → Option Nat
  | 0, _ => none
  | m + 1, i => if P i = true then some i else ffd P m (i + 1)
def oI : Option Nat → Int32
  | none => -1
  | some j => nI j
/-- nothing but the cells from lo to below hi has changed -/
def Fr (lo hi : Nat) (h h' : mH) : Prop := h'.1 = h.1 ∧ ∀ a, (a < lo ∨ hi ≤ a) → h'.2 a = h.2 a
theorem Fr.rfl {lo hi : Nat} {h : mH} : Fr lo hi h h := ⟨Eq.refl _, fun _ _ => Eq.refl _⟩
theorem Fr.set {lo hi : Nat} {h h' : mH} {a : Nat} {e : mC} (hf : Fr lo hi h h') (h1 : lo ≤ a) (h2 : a < hi) : Fr lo hi h (mSet h' a e) := ⟨hf.1, fun x hx => by
  have : x ≠ a := by omega
  simp only [mSet]
  rw [if_neg this]
  exact hf.2 x hx⟩
theorem Fr.trans {lo hi : Nat} {h h1 h2 : mH} (a : Fr lo hi h h1) (b : Fr lo hi h1 h2) : Fr lo hi h h2 := ⟨b.1.trans a.1, fun x hx => (b.2 x hx).trans (a.2 x hx)⟩
theorem Fr.mono {lo hi lo' hi' : Nat} {h h' : mH} (a : Fr lo hi h h') (h1 : lo' ≤ lo) (h2 : hi ≤ hi') : Fr lo' hi' h h' := ⟨a.1, fun x hx => a.2 x (by omega)⟩
theorem zmaxN {a b : Nat} (ha : a < 2 ^ 31) (hb : b < 2 ^ 31) : (if nI a < nI b then nI b else nI a) = nI (max a b) := by
  by_cases h : a < b
  · rw [if_pos (nI_lt h hb), Nat.max_eq_right (by omega)]
  · rw [if_neg (nI_nlt (by omega) ha), Nat.max_eq_left (by omega)]
theorem zminN {a b : Nat} (ha : a < 2 ^ 31) (hb : b < 2 ^ 31) : (if nI b < nI a then nI b else nI a) = nI (min a b) := by
  by_cases h : b < a
  · rw [if_pos (nI_lt h ha), Nat.min_eq_right (by omega)]
  · rw [if_neg (nI_nlt (by omega) hb), Nat.min_eq_left (by omega)]
def EntAt (h : mH) (e n : Nat) (S T N P F : Nat → Int32) (c : Nat) : Prop := h.2 e = .inr (.inr (0, [.ref (e + 1), .ref (e + 2), .ref (e + 3), .ref (e + 4), .ref (e + 5), .int (nI c)])) ∧ h.2 (e + 1) = aI n S ∧ h.2 (e + 2) = aI n T ∧ h.2 (e + 3) = aI n N ∧ h.2 (e + 4) = aI n P ∧ h.2 (e + 5) = aZ n F
def ShAt (h : mH) (e n : Nat) (S V G K : Nat → Int32) (c : Nat) : Prop := h.2 e = .inr (.inr (9, [.ref (e + 1), .ref (e + 2), .ref (e + 3), .ref (e + 4), .int (nI c)])) ∧ h.2 (e + 1) = aI n S ∧ h.2 (e + 2) = aI n V ∧ h.2 (e + 3) = aI n G ∧ h.2 (e + 4) = aZ n K
def eP (S T N : Nat → Int32) (st tx ln : Int32) (i : Nat) : Bool := decide (S i = st) && decide (T i = tx) && decide (N i = ln)
def sP (S V : Nat → Int32) (st b : Int32) (i : Nat) : Bool := decide (S i = st) && decide (V i = b)
set_option maxRecDepth 10000 in
theorem c_Ent_slotOf {d : Nat} {h : mH} {e n c : Nat} {S T N P F : Nat → Int32} {st tx ln : Int32} {Q : mP} (hE : EntAt h e n S T N P F c) (hn : n < 2 ^ 31) (hc : c ≤ n) (q : Q (some (.int (oI (ffd (eP S T N st tx ln) c 0)))) h) : mWP (d + 1) 1 [.ref e, .int st, .int tx, .int ln] h Q := by
  obtain ⟨E0, E1, E2, E3, E4, E5⟩ := hE
  have loop : ∀ m i, i + m = c → oI (ffd (eP S T N st tx ln) m i) = oI (ffd (eP S T N st tx ln) c 0) → mZ d tk_1 0 0 Q 3 [some (.ref e), some (.int st), some (.int tx), some (.int ln), some (.int (nI i))] [] h 0 0 := by
    intro m
    induction m with
    | zero =>
      intro i hi hr
      obtain rfl : i = c := by omega
      refine z_iload 5 rfl rfl rfl ?_
      refine z_aload 6 rfl rfl rfl ?_
      refine z_get 9 rfl rfl E0 rfl ?_
      refine z_nge 12 rfl rfl (by omega) (by omega) (fun _ => ?_) (fun h9 => absurd h9 (by omega))
      refine z_push 55 (-1) rfl rfl rfl ?_
      refine z_ireti rfl (Nat.le_refl _) (Nat.le_refl _) ?_
      exact zqo hr.symm q
    | succ m ih =>
      intro i hi hr
      refine z_iload 5 rfl rfl rfl ?_
      refine z_aload 6 rfl rfl rfl ?_
      refine z_get 9 rfl rfl (by first | exact E0 | exact E1 | exact E2 | exact E3) rfl ?_
      first | refine z_nge 12 rfl rfl (by omega) (by omega) (fun hc9 => ?_) (fun hc9 => ?_) | refine z_kge 12 rfl rfl (by omega) (fun hc9 => ?_) (fun hc9 => ?_) | refine z_hge 12 rfl rfl (by omega) (fun hc9 => ?_) (fun hc9 => ?_) | refine z_tge 12 rfl rfl (fun hc9 => ?_) (fun hc9 => ?_)
      · refine z_push 55 (-1) rfl rfl rfl ?_
        refine z_ireti rfl (Nat.le_refl _) (Nat.le_refl _) ?_
        first | exact absurd hc9 (by omega) | (refine zqo ?_ q; rw [← hr]; simp [ffd, eP, oI, *])
      · refine z_aload 13 rfl rfl rfl ?_
        refine z_get 16 rfl rfl (by first | exact E0 | exact E1 | exact E2 | exact E3) rfl ?_
        refine z_iload 18 rfl rfl rfl ?_
        refine z_ald 19 rfl rfl (by first | exact E0 | exact E1 | exact E2 | exact E3) rfl (by omega) (by omega) ?_
        refine z_iload 20 rfl rfl rfl ?_
        refine z_cne 23 rfl rfl (fun hc20 => ?_) (fun hc20 => ?_)
        · refine z_iinc 51 _ rfl rfl rfl rfl (by first | with_reducible exact zi_1 _ | rfl) ?_
          refine z_goto rfl ?_
          exact ih (i + 1) (by omega) (by rw [← hr]; simp [ffd, eP, *])
        · refine z_aload 24 rfl rfl rfl ?_
          refine z_get 27 rfl rfl (by first | exact E0 | exact E1 | exact E2 | exact E3) rfl ?_
          refine z_iload 29 rfl rfl rfl ?_
          refine z_ald 30 rfl rfl (by first | exact E0 | exact E1 | exact E2 | exact E3) rfl (by omega) (by omega) ?_
          refine z_iload 31 rfl rfl rfl ?_
          refine z_cne 34 rfl rfl (fun hc31 => ?_) (fun hc31 => ?_)
          · refine z_iinc 51 _ rfl rfl rfl rfl (by first | with_reducible exact zi_1 _ | rfl) ?_
            refine z_goto rfl ?_
            exact ih (i + 1) (by omega) (by rw [← hr]; simp [ffd, eP, *])
          · refine z_aload 35 rfl rfl rfl ?_
            refine z_get 38 rfl rfl (by first | exact E0 | exact E1 | exact E2 | exact E3) rfl ?_
            refine z_iload 40 rfl rfl rfl ?_
            refine z_ald 41 rfl rfl (by first | exact E0 | exact E1 | exact E2 | exact E3) rfl (by omega) (by omega) ?_
            refine z_iload 42 rfl rfl rfl ?_
            refine z_cne 45 rfl rfl (fun hc42 => ?_) (fun hc42 => ?_)
            · refine z_iinc 51 _ rfl rfl rfl rfl (by first | with_reducible exact zi_1 _ | rfl) ?_
              refine z_goto rfl ?_
              exact ih (i + 1) (by omega) (by rw [← hr]; simp [ffd, eP, *])
            · refine z_iload 47 rfl rfl rfl ?_
              refine z_ireti rfl (Nat.le_refl _) (Nat.le_refl _) ?_
              first | exact absurd hc9 (by omega) | (refine zqo ?_ q; rw [← hr]; simp [ffd, eP, oI, *])
  refine z_in [some (.ref e), some (.int st), some (.int tx), some (.int ln), none] (by rfl) rfl rfl rfl ?_
  refine z_push 1 (nI 0) rfl rfl rfl ?_
  refine z_istore 3 rfl rfl rfl rfl ?_
  exact loop c 0 (by omega) rfl
set_option maxRecDepth 10000 in
theorem c_Sh_slotOf {d : Nat} {h : mH} {e n c : Nat} {S V G K : Nat → Int32} {st b : Int32} {Q : mP} (hE : ShAt h e n S V G K c) (hn : n < 2 ^ 31) (hc : c ≤ n) (q : Q (some (.int (oI (ffd (sP S V st b) c 0)))) h) : mWP (d + 1) 91 [.ref e, .int st, .int b] h Q := by
  obtain ⟨E0, E1, E2, E3, E4⟩ := hE
  have loop : ∀ m i, i + m = c → oI (ffd (sP S V st b) m i) = oI (ffd (sP S V st b) c 0) → mZ d tk_91 0 0 Q 2 [some (.ref e), some (.int st), some (.int b), some (.int (nI i))] [] h 0 0 := by
    intro m
    induction m with
    | zero =>
      intro i hi hr
      obtain rfl : i = c := by omega
      refine z_iload 3 rfl rfl rfl ?_
      refine z_aload 4 rfl rfl rfl ?_
      refine z_get 7 rfl rfl E0 rfl ?_
      refine z_nge 10 rfl rfl (by omega) (by omega) (fun _ => ?_) (fun h9 => absurd h9 (by omega))
      refine z_push 39 (-1) rfl rfl rfl ?_
      refine z_ireti rfl (Nat.le_refl _) (Nat.le_refl _) ?_
      exact zqo hr.symm q
    | succ m ih =>
      intro i hi hr
      refine z_iload 3 rfl rfl rfl ?_
      refine z_aload 4 rfl rfl rfl ?_
      refine z_get 7 rfl rfl (by first | exact E0 | exact E1 | exact E2 | exact E3) rfl ?_
      first | refine z_nge 10 rfl rfl (by omega) (by omega) (fun hc7 => ?_) (fun hc7 => ?_) | refine z_kge 10 rfl rfl (by omega) (fun hc7 => ?_) (fun hc7 => ?_) | refine z_hge 10 rfl rfl (by omega) (fun hc7 => ?_) (fun hc7 => ?_) | refine z_tge 10 rfl rfl (fun hc7 => ?_) (fun hc7 => ?_)
      · refine z_push 39 (-1) rfl rfl rfl ?_
        refine z_ireti rfl (Nat.le_refl _) (Nat.le_refl _) ?_
        first | exact absurd hc7 (by omega) | (refine zqo ?_ q; rw [← hr]; simp [ffd, sP, oI, *])
      · refine z_aload 11 rfl rfl rfl ?_
        refine z_get 14 rfl rfl (by first | exact E0 | exact E1 | exact E2 | exact E3) rfl ?_
        refine z_iload 15 rfl rfl rfl ?_
        refine z_ald 16 rfl rfl (by first | exact E0 | exact E1 | exact E2 | exact E3) rfl (by omega) (by omega) ?_
        refine z_iload 17 rfl rfl rfl ?_
        refine z_cne 20 rfl rfl (fun hc17 => ?_) (fun hc17 => ?_)
        · refine z_iinc 35 _ rfl rfl rfl rfl (by first | with_reducible exact zi_1 _ | rfl) ?_
          refine z_goto rfl ?_
          exact ih (i + 1) (by omega) (by rw [← hr]; simp [ffd, sP, *])
        · refine z_aload 21 rfl rfl rfl ?_
          refine z_get 24 rfl rfl (by first | exact E0 | exact E1 | exact E2 | exact E3) rfl ?_
          refine z_iload 25 rfl rfl rfl ?_
          refine z_ald 26 rfl rfl (by first | exact E0 | exact E1 | exact E2 | exact E3) rfl (by omega) (by omega) ?_
          refine z_iload 27 rfl rfl rfl ?_
          refine z_cne 30 rfl rfl (fun hc27 => ?_) (fun hc27 => ?_)
          · refine z_iinc 35 _ rfl rfl rfl rfl (by first | with_reducible exact zi_1 _ | rfl) ?_
            refine z_goto rfl ?_
            exact ih (i + 1) (by omega) (by rw [← hr]; simp [ffd, sP, *])
          · refine z_iload 31 rfl rfl rfl ?_
            refine z_ireti rfl (Nat.le_refl _) (Nat.le_refl _) ?_
            first | exact absurd hc7 (by omega) | (refine zqo ?_ q; rw [← hr]; simp [ffd, sP, oI, *])
  refine z_in [some (.ref e), some (.int st), some (.int b), none] (by rfl) rfl rfl rfl ?_
  refine z_push 1 (nI 0) rfl rfl rfl ?_
  refine z_istore 2 rfl rfl rfl rfl ?_
  exact loop c 0 (by omega) rfl
set_option maxRecDepth 10000 in
theorem c_Ent_put {d : Nat} {h : mH} {e n c k : Nat} {S T N P F : Nat → Int32} {st tx ln pt pf : Int32} {Q : mP} (hE : EntAt h e n S T N P F c) (hn : n < 2 ^ 31) (hk : k ≤ c) (hkn : k < n) (hc : c ≤ n) (hpf : pf = 0 ∨ pf = 1) (q : ∀ h', EntAt h' e n (upd S k st) (upd T k tx) (upd N k ln) (upd P k pt) (upd F k pf) (max c (k + 1)) → Fr e (e + 6) h h' → Q none h') : mWP (d + 1) 2 [.ref e, .int (nI k), .int st, .int tx, .int ln, .int pt, .int pf] h Q := by
  obtain ⟨E0, E1, E2, E3, E4, E5⟩ := hE
  refine z_in [some (.ref e), some (.int (nI k)), some (.int st), some (.int tx), some (.int ln), some (.int pt), some (.int pf)] (by rfl) rfl rfl rfl ?_
  refine z_iload 1 rfl rfl rfl ?_
  first | refine z_zlt 4 rfl rfl (by omega) (fun hc1 => ?_) (fun hc1 => ?_) | refine z_jlt 4 rfl rfl (fun hc1 => ?_) (fun hc1 => ?_)
  · refine z_vret rfl (Nat.le_refl _) (Nat.le_refl _) ?_
    first | exact absurd hc1 (by omega) | exact absurd hc9 (by omega) | exact absurd hc18 (by omega)
  · refine z_iload 5 rfl rfl rfl ?_
    refine z_aload 6 rfl rfl rfl ?_
    refine z_get 9 rfl rfl (by repeat (first | exact E0 | exact E1 | exact E2 | exact E3 | exact E4 | exact E5 | exact mg_eq _ _ _ | refine mg_ne (by omega) ?_)) rfl ?_
    first | refine z_ngt 12 rfl rfl (by omega) (by omega) (fun hc9 => ?_) (fun hc9 => ?_) | refine z_kgt 12 rfl rfl (by omega) (fun hc9 => ?_) (fun hc9 => ?_) | refine z_hgt 12 rfl rfl (by omega) (fun hc9 => ?_) (fun hc9 => ?_) | refine z_tgt 12 rfl rfl (fun hc9 => ?_) (fun hc9 => ?_)
    · refine z_vret rfl (Nat.le_refl _) (Nat.le_refl _) ?_
      first | exact absurd hc1 (by omega) | exact absurd hc9 (by omega) | exact absurd hc18 (by omega)
    · refine z_iload 13 rfl rfl rfl ?_
      refine z_aload 14 rfl rfl rfl ?_
      refine z_get 17 rfl rfl (by repeat (first | exact E0 | exact E1 | exact E2 | exact E3 | exact E4 | exact E5 | exact mg_eq _ _ _ | refine mg_ne (by omega) ?_)) rfl ?_
      refine z_alen 18 rfl rfl (by repeat (first | exact E0 | exact E1 | exact E2 | exact E3 | exact E4 | exact E5 | exact mg_eq _ _ _ | refine mg_ne (by omega) ?_)) (by decide) ?_
      first | refine z_nlt 21 rfl rfl (by omega) (by omega) (fun hc18 => ?_) (fun hc18 => ?_) | refine z_klt 21 rfl rfl (by omega) (fun hc18 => ?_) (fun hc18 => ?_) | refine z_hlt 21 rfl rfl (by omega) (fun hc18 => ?_) (fun hc18 => ?_) | refine z_tlt 21 rfl rfl (fun hc18 => ?_) (fun hc18 => ?_)
      · refine z_aload 23 rfl rfl rfl ?_
        refine z_get 26 rfl rfl (by repeat (first | exact E0 | exact E1 | exact E2 | exact E3 | exact E4 | exact E5 | exact mg_eq _ _ _ | refine mg_ne (by omega) ?_)) rfl ?_
        refine z_iload 27 rfl rfl rfl ?_
        refine z_iload 28 rfl rfl rfl ?_
        refine z_ast 29 rfl rfl (by repeat (first | exact E0 | exact E1 | exact E2 | exact E3 | exact E4 | exact E5 | exact mg_eq _ _ _ | refine mg_ne (by omega) ?_)) rfl (by omega) (by omega) ?_
        refine z_aload 30 rfl rfl rfl ?_
        refine z_get 33 rfl rfl (by repeat (first | exact E0 | exact E1 | exact E2 | exact E3 | exact E4 | exact E5 | exact mg_eq _ _ _ | refine mg_ne (by omega) ?_)) rfl ?_
        refine z_iload 34 rfl rfl rfl ?_
        refine z_iload 35 rfl rfl rfl ?_
        refine z_ast 36 rfl rfl (by repeat (first | exact E0 | exact E1 | exact E2 | exact E3 | exact E4 | exact E5 | exact mg_eq _ _ _ | refine mg_ne (by omega) ?_)) rfl (by omega) (by omega) ?_
        refine z_aload 37 rfl rfl rfl ?_
        refine z_get 40 rfl rfl (by repeat (first | exact E0 | exact E1 | exact E2 | exact E3 | exact E4 | exact E5 | exact mg_eq _ _ _ | refine mg_ne (by omega) ?_)) rfl ?_
        refine z_iload 41 rfl rfl rfl ?_
        refine z_iload 43 rfl rfl rfl ?_
        refine z_ast 44 rfl rfl (by repeat (first | exact E0 | exact E1 | exact E2 | exact E3 | exact E4 | exact E5 | exact mg_eq _ _ _ | refine mg_ne (by omega) ?_)) rfl (by omega) (by omega) ?_
        refine z_aload 45 rfl rfl rfl ?_
        refine z_get 48 rfl rfl (by repeat (first | exact E0 | exact E1 | exact E2 | exact E3 | exact E4 | exact E5 | exact mg_eq _ _ _ | refine mg_ne (by omega) ?_)) rfl ?_
        refine z_iload 49 rfl rfl rfl ?_
        refine z_iload 51 rfl rfl rfl ?_
        refine z_ast 52 rfl rfl (by repeat (first | exact E0 | exact E1 | exact E2 | exact E3 | exact E4 | exact E5 | exact mg_eq _ _ _ | refine mg_ne (by omega) ?_)) rfl (by omega) (by omega) ?_
        refine z_aload 53 rfl rfl rfl ?_
        refine z_get 56 rfl rfl (by repeat (first | exact E0 | exact E1 | exact E2 | exact E3 | exact E4 | exact E5 | exact mg_eq _ _ _ | refine mg_ne (by omega) ?_)) rfl ?_
        refine z_iload 57 rfl rfl rfl ?_
        refine z_iload 59 rfl rfl rfl ?_
        refine z_bst 60 rfl rfl (by repeat (first | exact E0 | exact E1 | exact E2 | exact E3 | exact E4 | exact E5 | exact mg_eq _ _ _ | refine mg_ne (by omega) ?_)) rfl (by omega) (by omega) hpf ?_
        refine z_aload 61 rfl rfl rfl ?_
        refine z_aload 62 rfl rfl rfl ?_
        refine z_get 65 rfl rfl (by repeat (first | exact E0 | exact E1 | exact E2 | exact E3 | exact E4 | exact E5 | exact mg_eq _ _ _ | refine mg_ne (by omega) ?_)) rfl ?_
        refine z_iload 66 rfl rfl rfl ?_
        refine z_push 67 (nI 1) rfl rfl rfl ?_
        refine z_bop 68 _ rfl rfl (by first | with_reducible exact zb_0 _ _ | exact zd_0 _ _) ?_
        refine z_max 71 _ rfl rfl rfl (Nat.le_refl _) (Nat.le_refl _) (zmaxN (by omega) (by omega)) ?_
        refine z_put 74 rfl rfl (by repeat (first | exact E0 | exact E1 | exact E2 | exact E3 | exact E4 | exact E5 | exact mg_eq _ _ _ | refine mg_ne (by omega) ?_)) rfl (mFi rfl) ?_
        refine z_vret rfl (Nat.le_refl _) (Nat.le_refl _) ?_
        refine q _ ⟨by simp [mSet], by simp [mSet], by simp [mSet], by simp [mSet], by simp [mSet], by simp [mSet]⟩ ?_
        exact Fr.set (Fr.set (Fr.set (Fr.set (Fr.set (Fr.set Fr.rfl (by omega) (by omega)) (by omega) (by omega)) (by omega) (by omega)) (by omega) (by omega)) (by omega) (by omega)) (by omega) (by omega)
      · refine z_vret rfl (Nat.le_refl _) (Nat.le_refl _) ?_
        first | exact absurd hc1 (by omega) | exact absurd hc9 (by omega) | exact absurd hc18 (by omega)
set_option maxRecDepth 10000 in
theorem c_Sh_add {d : Nat} {h : mH} {e n c : Nat} {S V G K : Nat → Int32} {st b g k : Int32} {Q : mP} (hE : ShAt h e n S V G K c) (hn : n < 2 ^ 31) (hc : c < n) (hk : k = 0 ∨ k = 1) (q : ∀ h', ShAt h' e n (upd S c st) (upd V c b) (upd G c g) (upd K c k) (c + 1) → Fr e (e + 5) h h' → Q none h') : mWP (d + 1) 92 [.ref e, .int st, .int b, .int g, .int k] h Q := by
  obtain ⟨E0, E1, E2, E3, E4⟩ := hE
  refine z_in [some (.ref e), some (.int st), some (.int b), some (.int g), some (.int k)] (by rfl) rfl rfl rfl ?_
  refine z_aload 1 rfl rfl rfl ?_
  refine z_get 4 rfl rfl (by repeat (first | exact E0 | exact E1 | exact E2 | exact E3 | exact E4 | exact mg_eq _ _ _ | refine mg_ne (by omega) ?_)) rfl ?_
  refine z_aload 5 rfl rfl rfl ?_
  refine z_get 8 rfl rfl (by repeat (first | exact E0 | exact E1 | exact E2 | exact E3 | exact E4 | exact mg_eq _ _ _ | refine mg_ne (by omega) ?_)) rfl ?_
  refine z_alen 9 rfl rfl (by repeat (first | exact E0 | exact E1 | exact E2 | exact E3 | exact E4 | exact mg_eq _ _ _ | refine mg_ne (by omega) ?_)) (by decide) ?_
  first | refine z_nlt 12 rfl rfl (by omega) (by omega) (fun hc9 => ?_) (fun hc9 => ?_) | refine z_klt 12 rfl rfl (by omega) (fun hc9 => ?_) (fun hc9 => ?_) | refine z_hlt 12 rfl rfl (by omega) (fun hc9 => ?_) (fun hc9 => ?_) | refine z_tlt 12 rfl rfl (fun hc9 => ?_) (fun hc9 => ?_)
  · refine z_aload 14 rfl rfl rfl ?_
    refine z_get 17 rfl rfl (by repeat (first | exact E0 | exact E1 | exact E2 | exact E3 | exact E4 | exact mg_eq _ _ _ | refine mg_ne (by omega) ?_)) rfl ?_
    refine z_aload 18 rfl rfl rfl ?_
    refine z_get 21 rfl rfl (by repeat (first | exact E0 | exact E1 | exact E2 | exact E3 | exact E4 | exact mg_eq _ _ _ | refine mg_ne (by omega) ?_)) rfl ?_
    refine z_iload 22 rfl rfl rfl ?_
    refine z_ast 23 rfl rfl (by repeat (first | exact E0 | exact E1 | exact E2 | exact E3 | exact E4 | exact mg_eq _ _ _ | refine mg_ne (by omega) ?_)) rfl (by omega) (by omega) ?_
    refine z_aload 24 rfl rfl rfl ?_
    refine z_get 27 rfl rfl (by repeat (first | exact E0 | exact E1 | exact E2 | exact E3 | exact E4 | exact mg_eq _ _ _ | refine mg_ne (by omega) ?_)) rfl ?_
    refine z_aload 28 rfl rfl rfl ?_
    refine z_get 31 rfl rfl (by repeat (first | exact E0 | exact E1 | exact E2 | exact E3 | exact E4 | exact mg_eq _ _ _ | refine mg_ne (by omega) ?_)) rfl ?_
    refine z_iload 32 rfl rfl rfl ?_
    refine z_ast 33 rfl rfl (by repeat (first | exact E0 | exact E1 | exact E2 | exact E3 | exact E4 | exact mg_eq _ _ _ | refine mg_ne (by omega) ?_)) rfl (by omega) (by omega) ?_
    refine z_aload 34 rfl rfl rfl ?_
    refine z_get 37 rfl rfl (by repeat (first | exact E0 | exact E1 | exact E2 | exact E3 | exact E4 | exact mg_eq _ _ _ | refine mg_ne (by omega) ?_)) rfl ?_
    refine z_aload 38 rfl rfl rfl ?_
    refine z_get 41 rfl rfl (by repeat (first | exact E0 | exact E1 | exact E2 | exact E3 | exact E4 | exact mg_eq _ _ _ | refine mg_ne (by omega) ?_)) rfl ?_
    refine z_iload 42 rfl rfl rfl ?_
    refine z_ast 43 rfl rfl (by repeat (first | exact E0 | exact E1 | exact E2 | exact E3 | exact E4 | exact mg_eq _ _ _ | refine mg_ne (by omega) ?_)) rfl (by omega) (by omega) ?_
    refine z_aload 44 rfl rfl rfl ?_
    refine z_get 47 rfl rfl (by repeat (first | exact E0 | exact E1 | exact E2 | exact E3 | exact E4 | exact mg_eq _ _ _ | refine mg_ne (by omega) ?_)) rfl ?_
    refine z_aload 48 rfl rfl rfl ?_
    refine z_get 51 rfl rfl (by repeat (first | exact E0 | exact E1 | exact E2 | exact E3 | exact E4 | exact mg_eq _ _ _ | refine mg_ne (by omega) ?_)) rfl ?_
    refine z_iload 53 rfl rfl rfl ?_
    refine z_bst 54 rfl rfl (by repeat (first | exact E0 | exact E1 | exact E2 | exact E3 | exact E4 | exact mg_eq _ _ _ | refine mg_ne (by omega) ?_)) rfl (by omega) (by omega) hk ?_
    refine z_aload 55 rfl rfl rfl ?_
    first | refine z_dup 56 rfl rfl ?_ | refine z_dupi 56 rfl rfl ?_
    refine z_get 59 rfl rfl (by repeat (first | exact E0 | exact E1 | exact E2 | exact E3 | exact E4 | exact mg_eq _ _ _ | refine mg_ne (by omega) ?_)) rfl ?_
    refine z_push 60 (nI 1) rfl rfl rfl ?_
    refine z_bop 61 _ rfl rfl (by first | with_reducible exact zb_0 _ _ | exact zd_0 _ _) ?_
    refine z_put 64 rfl rfl (by repeat (first | exact E0 | exact E1 | exact E2 | exact E3 | exact E4 | exact mg_eq _ _ _ | refine mg_ne (by omega) ?_)) rfl (mFi rfl) ?_
    refine z_vret rfl (Nat.le_refl _) (Nat.le_refl _) ?_
    refine q _ ⟨by simp [mSet], by simp [mSet], by simp [mSet], by simp [mSet], by simp [mSet]⟩ ?_
    exact Fr.set (Fr.set (Fr.set (Fr.set (Fr.set Fr.rfl (by omega) (by omega)) (by omega) (by omega)) (by omega) (by omega)) (by omega) (by omega)) (by omega) (by omega)
  · refine z_vret rfl (Nat.le_refl _) (Nat.le_refl _) ?_
    exact absurd hc9 (by omega)
