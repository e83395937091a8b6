/-! the class: a page -/
def EnF (E : List En) (s t n p : Nat → Nat) (f : Nat → Bool) : Prop := ∀ k, k < E.length → s k = enS E k ∧ t k = enT E k ∧ n k = enN E k ∧ p k = enP E k ∧ f k = enF E k
/-- entries in their rows -/
def EnA (h : mH) (e r : Nat) (E : List En) : Prop := E.length ≤ r ∧ ∃ (s t n p : Nat → Nat) (f : Nat → Bool), EntAt h e r (fun j => nI (s j)) (fun j => nI (t j)) (fun j => nI (n j)) (fun j => nI (p j)) (fun j => bI (f j)) E.length ∧ EnF E s t n p f
def ShF (H : List Sh) (s v g : Nat → Nat) (k : Nat → Bool) : Prop := ∀ i, i < H.length → s i = shS H i ∧ v i = shV H i ∧ g i = shG H i ∧ k i = shK H i
def ShA (h : mH) (e r : Nat) (H : List Sh) : Prop := H.length ≤ r ∧ ∃ (s v g : Nat → Nat) (k : Nat → Bool), ShAt h e r (fun j => nI (s j)) (fun j => nI (v j)) (fun j => nI (g j)) (fun j => bI (k j)) H.length ∧ ShF H s v g k
theorem EnA.e {h h' : mH} {e r : Nat} {E : List En} (a : EnA h e r E) (f : Eqv e (e + 6) h h') : EnA h' e r E := by
  obtain ⟨a0, s, t, n, p, g, ⟨a1, a2, a3, a4, a5, a6⟩, a7⟩ := a
  exact ⟨a0, s, t, n, p, g, ⟨(f e (by omega) (by omega)).trans a1, (f _ (by omega) (by omega)).trans a2, (f _ (by omega) (by omega)).trans a3, (f _ (by omega) (by omega)).trans a4, (f _ (by omega) (by omega)).trans a5, (f _ (by omega) (by omega)).trans a6⟩, a7⟩
theorem ShA.e {h h' : mH} {e r : Nat} {H : List Sh} (a : ShA h e r H) (f : Eqv e (e + 5) h h') : ShA h' e r H := by
  obtain ⟨a0, s, t, n, g, ⟨a1, a2, a3, a4, a5⟩, a7⟩ := a
  exact ⟨a0, s, t, n, g, ⟨(f e (by omega) (by omega)).trans a1, (f _ (by omega) (by omega)).trans a2, (f _ (by omega) (by omega)).trans a3, (f _ (by omega) (by omega)).trans a4, (f _ (by omega) (by omega)).trans a5⟩, a7⟩
abbrev oPg (K : Nat) (c : Bool) (p m rc : Nat) : mC := .inr (.inr (4, [.int (nI K), .int (bI c), .ref (p + 6), .ref (p + 12), .ref (p + 1), .ref (p + 17), .ref (p + 18), .ref (p + 19), .int (nI m), .int (nI rc)]))
/-- the preferred entries, the least point first -/
def OrOk (E : List En) (od : Nat → Int32) (m : Nat) : Prop := m ≤ E.length ∧ ∃ os : Nat → Nat, (∀ j, j < m → od j = nI (os j) ∧ os j < E.length ∧ enF E (os j) = true) ∧ (∀ i j, i < j → j < m → enP E (os i) < enP E (os j)) ∧ ∀ k, k < E.length → enF E k = true → ∃ j, j < m ∧ os j = k
set_option maxRecDepth 100000 in
theorem c_placeFrom {d : Nat} {h : mH} {p m rc x : Nat} {c : Bool} {E : List En} {od : Nat → Int32} {os : Nat → Nat} {Q : mP} (hp : h.2 p = oPg 0 c p m rc) (hEA : EnA h (p + 6) 100 E) (ho : h.2 (p + 19) = aI 100 od) (hpb : ∀ k, k < E.length → enP E k < 1114112) (hx : x < 2 ^ 30) (hm9 : m ≤ E.length) (hos : ∀ j, j < m → od j = nI (os j) ∧ os j < E.length ∧ enF E (os j) = true) (hso : ∀ i j, i < j → j < m → enP E (os i) < enP E (os j))  (q : ∀ r, r ≤ m → (∀ j, j < r → enP E (os j) < x) → (∀ j, r ≤ j → j < m → x ≤ enP E (os j)) → Q (some (.int (nI r))) h) : mWP (d + 1) 49 [.ref p, .int (nI x)] h Q := by
  obtain ⟨hE0, s9, t9, n9, p9, f9, hE, hEF⟩ := hEA
  have loop : ∀ m9 lo hi o4, hi < lo + m9 → lo ≤ hi → hi ≤ m → (∀ j, j < lo → enP E (os j) < x) → (∀ j, hi ≤ j → j < m → x ≤ enP E (os j)) → mZ d tk_49 0 0 Q 7 [some (.ref p), some (.int (nI x)), some (.int (nI lo)), some (.int (nI hi)), o4] [] h 0 0 := by
    intro m9
    induction m9 with
    | zero => intro lo hi o4 h1 h2; omega
    | succ m9 ih =>
      intro lo hi o4 h1 h2 h3 hlo hhi
      refine z_iload 8 rfl rfl rfl ?_
      refine z_iload 9 rfl rfl rfl ?_
      refine z_nge 12 rfl rfl (by omega) (by omega) (fun hc9 => ?_) (fun hc9 => ?_)
      · refine z_iload 53 rfl rfl rfl ?_
        refine z_ireti rfl (Nat.le_refl _) (Nat.le_refl _) ?_
        obtain rfl : lo = hi := by omega
        exact q lo h3 hlo hhi
      · refine z_iload 13 rfl rfl rfl ?_
        refine z_iload 14 rfl rfl rfl ?_
        refine z_bop 15 _ rfl rfl (by first | with_reducible exact zb_0 _ _ | exact zd_0 _ _) ?_
        refine z_push 16 (nI 2) rfl rfl rfl ?_
        refine z_idiv 17 _ rfl rfl (by decide) (pk_div (by omega) (by omega) (by omega)) ?_
        refine z_istore 19 rfl rfl rfl rfl ?_
        refine z_aload 20 rfl rfl rfl ?_
        refine z_get 23 rfl rfl (by first | exact hp | exact hE.1 | exact hE.2.1 | exact hE.2.2.1 | exact hE.2.2.2.1 | exact hE.2.2.2.2.1 | exact hE.2.2.2.2.2 | exact ho) rfl ?_
        refine z_get 26 rfl rfl (by first | exact hp | exact hE.1 | exact hE.2.1 | exact hE.2.2.1 | exact hE.2.2.2.1 | exact hE.2.2.2.2.1 | exact hE.2.2.2.2.2 | exact ho) rfl ?_
        refine z_aload 27 rfl rfl rfl ?_
        refine z_get 30 rfl rfl (by first | exact hp | exact hE.1 | exact hE.2.1 | exact hE.2.2.1 | exact hE.2.2.2.1 | exact hE.2.2.2.2.1 | exact hE.2.2.2.2.2 | exact ho) rfl ?_
        refine z_iload 32 rfl rfl rfl ?_
        refine z_ald 33 rfl rfl (by first | exact hp | exact hE.1 | exact hE.2.1 | exact hE.2.2.1 | exact hE.2.2.2.1 | exact hE.2.2.2.2.1 | exact hE.2.2.2.2.2 | exact ho) rfl (by omega) (by omega) ?_
        have hmd : (lo + hi) / 2 < m := by omega
        obtain ⟨q1, q2, q3⟩ := hos _ hmd
        rw [q1]
        refine z_ald 34 rfl rfl (by first | exact hp | exact hE.1 | exact hE.2.1 | exact hE.2.2.1 | exact hE.2.2.2.1 | exact hE.2.2.2.2.1 | exact hE.2.2.2.2.2 | exact ho) rfl (by omega) (by omega) ?_
        have hef := (hEF (os ((lo + hi) / 2)) q2).2.2.2.1
        have hpl := hpb _ q2
        simp only [hef]
        refine z_iload 35 rfl rfl rfl ?_
        refine z_nge 38 rfl rfl (by omega) (by omega) (fun hc35 => ?_) (fun hc35 => ?_)
        · refine z_iload 48 rfl rfl rfl ?_
          refine z_istore 49 rfl rfl rfl rfl ?_
          refine z_goto rfl ?_
          exact ih lo ((lo + hi) / 2) _ (by omega) (by omega) (by omega) hlo (fun j hj hjm => by rcases (by omega : (lo + hi) / 2 < j ∨ (lo + hi) / 2 = j) with h9 | h9; (have := hso _ j h9 hjm; omega); (subst h9; exact hc35))
        · refine z_iload 40 rfl rfl rfl ?_
          refine z_push 41 (nI 1) rfl rfl rfl ?_
          refine z_bop 42 _ rfl rfl (by first | with_reducible exact zb_0 _ _ | exact zd_0 _ _) ?_
          refine z_istore 43 rfl rfl rfl rfl ?_
          refine z_goto rfl ?_
          refine z_goto rfl ?_
          exact ih ((lo + hi) / 2 + 1) hi _ (by omega) (by omega) h3 (fun j hj => by rcases (by omega : j < (lo + hi) / 2 ∨ j = (lo + hi) / 2) with h9 | h9; (have := hso j _ h9 hmd; omega); (subst h9; exact hc35)) hhi
  refine z_in [some (.ref p), some (.int (nI x)), none, none, none] (by rfl) rfl rfl rfl ?_
  refine z_push 1 (nI 0) rfl rfl rfl ?_
  refine z_istore 2 rfl rfl rfl rfl ?_
  refine z_aload 3 rfl rfl rfl ?_
  refine z_get 6 rfl rfl (by first | exact hp | exact hE.1 | exact hE.2.1 | exact hE.2.2.1 | exact hE.2.2.2.1 | exact hE.2.2.2.2.1 | exact hE.2.2.2.2.2 | exact ho) rfl ?_
  refine z_istore 7 rfl rfl rfl rfl ?_
  exact loop (m + 1) 0 m _ (by omega) (by omega) (by omega) (fun j hj => absurd hj (Nat.not_lt_zero j)) (fun j hj hjm => by omega)
