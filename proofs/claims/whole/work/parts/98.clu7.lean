/-! the class: chain, sortIn -/
theorem Chn_upd {nx : Nat → Int32} {x : Nat} {v : Int32} : ∀ {l : List Nat} {c : Int32}, (∀ i, i ∈ l → i ≠ x) → Chn nx l c → Chn (upd nx x v) l c
  | [], _, _, h => h
  | i :: l, c, hm, ⟨h1, h2, h3⟩ => ⟨h1, h2, by rw [upd, if_neg (hm i (List.mem_cons_self ..))]; exact Chn_upd (fun j hj => hm j (List.mem_cons_of_mem _ hj)) h3⟩
/-- the first items are chained -/
def itP (E : List En) (H : List Sh) (a b st v i : Nat) : Prop := (i < a ∧ enS E i = st ∧ bt (enN E i) (enT E i) 0 = v) ∨ (100 ≤ i ∧ i - 100 < b ∧ shS H (i - 100) = st ∧ shV H (i - 100) = v)
def PrC (E : List En) (H : List Sh) (a b : Nat) (hd nx : Nat → Int32) : Prop := ∀ st v, st < 4 → v < 256 → ∃ l, Chn nx l (hd (st * 256 + v)) ∧ l.length ≤ a + b ∧ ∀ i, i ∈ l ↔ itP E H a b st v i
theorem PrC.z {E : List En} {H : List Sh} {hd nx : Nat → Int32} (h : ∀ j, j < 1024 → hd j = nI 0) : PrC E H 0 0 hd nx := fun st v h1 h2 => ⟨[], h _ (by omega), Nat.zero_le _, fun i => ⟨fun h9 => absurd h9 (List.not_mem_nil), fun h9 => by rcases h9 with h9 | h9 <;> omega⟩⟩
theorem PrC.add {E : List En} {H : List Sh} {a b a' b' x st0 v0 : Nat} {hd nx : Nat → Int32} (hP : PrC E H a b hd nx) (hx : x < 110) (hst : st0 < 4) (hv : v0 < 256) (hab : a' + b' = a + b + 1) (hnew : ∀ st v i, itP E H a' b' st v i ↔ itP E H a b st v i ∨ (i = x ∧ st = st0 ∧ v = v0)) (hnot : ∀ st v, ¬ itP E H a b st v x) : PrC E H a' b' (upd hd (st0 * 256 + v0) (nI (x + 1))) (upd nx x (hd (st0 * 256 + v0))) := by
  intro st v h1 h2
  obtain ⟨l, c1, c2, c3⟩ := hP st v h1 h2
  have hxl : ∀ i, i ∈ l → i ≠ x := fun i hi e => by subst e; exact hnot st v ((c3 i).mp hi)
  by_cases e : st = st0 ∧ v = v0
  · obtain ⟨rfl, rfl⟩ := e
    refine ⟨x :: l, ⟨by rw [upd, if_pos rfl], hx, ?_⟩, by rw [List.length_cons]; omega, fun i => ?_⟩
    · rw [show upd nx x (hd (st * 256 + v)) x = hd (st * 256 + v) from if_pos rfl]
      exact Chn_upd hxl c1
    · rw [List.mem_cons, c3, hnew]
      exact ⟨fun h => h.elim (fun h => Or.inr ⟨h, rfl, rfl⟩) Or.inl, fun h => h.elim Or.inr (fun h => Or.inl h.1)⟩
  · refine ⟨l, ?_, by omega, fun i => ?_⟩
    · rw [upd, if_neg (by omega)]
      exact Chn_upd hxl c1
    · rw [c3, hnew]
      exact ⟨Or.inl, fun h => h.elim id (fun h => absurd ⟨h.2.1, h.2.2⟩ e)⟩
/-- the preferred ones of the first entries, the least point first -/
def OrP (E : List En) (od : Nat → Int32) (m a : Nat) : Prop := m ≤ a ∧ ∃ os : Nat → Nat, (∀ j, j < m → od j = nI (os j) ∧ os j < a ∧ enF E (os j) = true) ∧ (∀ i j, i < j → j < m → enP E (os i) < enP E (os j)) ∧ ∀ k, k < a → enF E k = true → ∃ j, j < m ∧ os j = k
theorem OrP.no {E : List En} {od : Nat → Int32} {m a : Nat} (h : OrP E od m a) (hf : enF E a = false) : OrP E od m (a + 1) := by
  obtain ⟨h0, os, h1, h2, h3⟩ := h
  refine ⟨by omega, os, fun j hj => ⟨(h1 j hj).1, by have := (h1 j hj).2.1; omega, (h1 j hj).2.2⟩, h2, fun k hk hkf => ?_⟩
  by_cases e : k = a
  · subst e; rw [hf] at hkf; cases hkf
  · exact h3 k (by omega) hkf
theorem OrP.ins {E : List En} {od od' : Nat → Int32} {m a r : Nat} {os : Nat → Nat} (h0 : m ≤ a) (h1 : ∀ j, j < m → od j = nI (os j) ∧ os j < a ∧ enF E (os j) = true) (h2 : ∀ i j, i < j → j < m → enP E (os i) < enP E (os j)) (h3 : ∀ k, k < a → enF E k = true → ∃ j, j < m ∧ os j = k) (hf : enF E a = true) (hr : r ≤ m) (hlo : ∀ j, j < r → enP E (os j) < enP E a) (hhi : ∀ j, r ≤ j → j < m → enP E a < enP E (os j)) (e1 : ∀ j, j < r → od' j = od j) (e2 : od' r = nI a) (e3 : ∀ j, r ≤ j → j < m → od' (j + 1) = od j) : OrP E od' (m + 1) (a + 1) := by
  refine ⟨by omega, fun j => if j < r then os j else if j = r then a else os (j - 1), fun j hj => ?_, fun i j hij hj => ?_, fun k hk hkf => ?_⟩
  · by_cases c1 : j < r
    · simp only [if_pos c1]
      have := h1 j (by omega)
      exact ⟨by rw [e1 j c1]; exact this.1, by omega, this.2.2⟩
    · by_cases c2 : j = r
      · simp only [if_neg c1, if_pos c2]
        exact ⟨by rw [c2]; exact e2, by omega, hf⟩
      · simp only [if_neg c1, if_neg c2]
        have := h1 (j - 1) (by omega)
        exact ⟨by rw [show j = j - 1 + 1 by omega, e3 (j - 1) (by omega) (by omega)]; exact this.1, by omega, this.2.2⟩
  · show enP E (if i < r then os i else if i = r then a else os (i - 1)) < enP E (if j < r then os j else if j = r then a else os (j - 1))
    by_cases c1 : i < r
    · rw [if_pos c1]
      by_cases c2 : j < r
      · rw [if_pos c2]; exact h2 i j hij (by omega)
      · rw [if_neg c2]
        by_cases c3 : j = r
        · rw [if_pos c3]; exact hlo i c1
        · rw [if_neg c3]
          have := hlo i c1
          have := hhi (j - 1) (by omega) (by omega)
          omega
    · rw [if_neg c1]
      rw [if_neg (show ¬ j < r by omega), if_neg (show ¬ j = r by omega)]
      by_cases c3 : i = r
      · rw [if_pos c3]; exact hhi (j - 1) (by omega) (by omega)
      · rw [if_neg c3]; exact h2 (i - 1) (j - 1) (by omega) (by omega)
  · by_cases e : k = a
    · subst e
      exact ⟨r, by omega, by simp only []; rw [if_neg (by omega), if_pos trivial]⟩
    · obtain ⟨j, hj, rfl⟩ := h3 k (by omega) hkf
      by_cases c : j < r
      · exact ⟨j, by omega, by simp only []; rw [if_pos c]⟩
      · exact ⟨j + 1, by omega, by simp only []; rw [if_neg (by omega), if_neg (by omega), Nat.add_sub_cancel]⟩
set_option maxRecDepth 100000 in
theorem c_chain {d : Nat} {h : mH} {p m rc st v x : Nat} {c : Bool} {hd nx : Nat → Int32} {Q : mP} (hp : h.2 p = oPg 0 c p m rc) (h17 : h.2 (p + 17) = aI 1024 hd) (h18 : h.2 (p + 18) = aI 110 nx) (hst : st < 4) (hv : v < 256) (hx : x < 110)  (q : ∀ h', h'.2 (p + 17) = aI 1024 (upd hd (st * 256 + v) (nI (x + 1))) → h'.2 (p + 18) = aI 110 (upd nx x (hd (st * 256 + v))) → Fr (p + 17) (p + 19) h h' → Q none h') : mWP (d + 1) 46 [.ref p, .int (nI st), .int (nI v), .int (nI x)] h Q := by
  refine z_in [some (.ref p), some (.int (nI st)), some (.int (nI v)), some (.int (nI x)), none] (by rfl) rfl rfl rfl ?_
  refine z_iload 1 rfl rfl rfl ?_
  refine z_push 4 (nI 256) rfl rfl rfl ?_
  refine z_bop 5 _ rfl rfl (by first | with_reducible exact zb_2 _ _ | exact zd_2 _ _) ?_
  refine z_iload 6 rfl rfl rfl ?_
  refine z_bop 7 _ rfl rfl (by first | with_reducible exact zb_0 _ _ | exact zd_0 _ _) ?_
  refine z_istore 9 rfl rfl rfl rfl ?_
  refine z_iload 11 rfl rfl rfl ?_
  refine z_zlt 14 rfl rfl (by omega) (fun h9 => absurd h9 (by omega)) (fun _ => ?_)
  refine z_iload 16 rfl rfl rfl ?_
  refine z_aload 17 rfl rfl rfl ?_
  refine z_get 20 rfl rfl (by repeat (first | exact hp | exact h17 | exact h18 | exact mg_eq _ _ _ | refine mg_ne (by omega) ?_)) rfl ?_
  refine z_alen 21 rfl rfl (by repeat (first | exact hp | exact h17 | exact h18 | exact mg_eq _ _ _ | refine mg_ne (by omega) ?_)) (by decide) ?_
  refine z_nge 24 rfl rfl (by omega) (by omega) (fun h9 => absurd h9 (by omega)) (fun _ => ?_)
  refine z_iload 25 rfl rfl rfl ?_
  refine z_aload 26 rfl rfl rfl ?_
  refine z_get 29 rfl rfl (by repeat (first | exact hp | exact h17 | exact h18 | exact mg_eq _ _ _ | refine mg_ne (by omega) ?_)) rfl ?_
  refine z_alen 30 rfl rfl (by repeat (first | exact hp | exact h17 | exact h18 | exact mg_eq _ _ _ | refine mg_ne (by omega) ?_)) (by decide) ?_
  refine z_nge 33 rfl rfl (by omega) (by omega) (fun h9 => absurd h9 (by omega)) (fun _ => ?_)
  refine z_aload 34 rfl rfl rfl ?_
  refine z_get 37 rfl rfl (by repeat (first | exact hp | exact h17 | exact h18 | exact mg_eq _ _ _ | refine mg_ne (by omega) ?_)) rfl ?_
  refine z_iload 38 rfl rfl rfl ?_
  refine z_aload 39 rfl rfl rfl ?_
  refine z_get 42 rfl rfl (by repeat (first | exact hp | exact h17 | exact h18 | exact mg_eq _ _ _ | refine mg_ne (by omega) ?_)) rfl ?_
  refine z_iload 44 rfl rfl rfl ?_
  refine z_ald 45 rfl rfl (by repeat (first | exact hp | exact h17 | exact h18 | exact mg_eq _ _ _ | refine mg_ne (by omega) ?_)) rfl (by omega) (by omega) ?_
  refine z_ast 46 rfl rfl (by repeat (first | exact hp | exact h17 | exact h18 | exact mg_eq _ _ _ | refine mg_ne (by omega) ?_)) rfl (by omega) (by omega) ?_
  refine z_aload 47 rfl rfl rfl ?_
  refine z_get 50 rfl rfl (by repeat (first | exact hp | exact h17 | exact h18 | exact mg_eq _ _ _ | refine mg_ne (by omega) ?_)) rfl ?_
  refine z_iload 52 rfl rfl rfl ?_
  refine z_iload 53 rfl rfl rfl ?_
  refine z_push 54 (nI 1) rfl rfl rfl ?_
  refine z_bop 55 _ rfl rfl (by first | with_reducible exact zb_0 _ _ | exact zd_0 _ _) ?_
  refine z_ast 56 rfl rfl (by repeat (first | exact hp | exact h17 | exact h18 | exact mg_eq _ _ _ | refine mg_ne (by omega) ?_)) rfl (by omega) (by omega) ?_
  refine z_vret rfl (Nat.le_refl _) (Nat.le_refl _) ?_
  exact q _ (mg_eq _ _ _) (mg_ne (by omega) (mg_eq _ _ _)) ⟨rfl, fun y hy => by rw [mg_ne (show y ≠ p + 17 by omega) rfl, mg_ne (show y ≠ p + 18 by omega) rfl]⟩
set_option maxRecDepth 100000 in
theorem c_sortIn {d : Nat} {h0 : mH} {p m rc a : Nat} {c : Bool} {od : Nat → Int32} {E : List En} {H : List Sh} {Q : mP} (hp : h0.2 p = oPg 0 c p m rc) (hEA : EnA h0 (p + 6) 100 E) (ho : h0.2 (p + 19) = aI 100 od) (hO : OrP E od m a) (hW : TbW E H) (haE : a < E.length) (hf : enF E a = true) (hU : ∀ i j, i < E.length → j < E.length → enF E i = true → enF E j = true → i ≠ j → enP E i ≠ enP E j)  (q : ∀ h' od', h'.2 p = oPg 0 c p (m + 1) rc → h'.2 (p + 19) = aI 100 od' → OrP E od' (m + 1) (a + 1) → FrL [(p, p + 1), (p + 19, p + 20)] h0 h' → Q none h') : mWP (d + 1) 47 [.ref p, .int (nI a)] h0 Q := by
  obtain ⟨hE0, s9, t9, n9, p9, f9, hE, hEF⟩ := id hEA
  obtain ⟨hm0, os, hos, hso, hal⟩ := id hO
  have hpb : ∀ k, k < E.length → enP E k < 1114112 := fun k hk => nPt_lt (hW.2.2.1 k hk).2.2.2.2
  have hE1 := hW.1
  have loop : ∀ r od2 h, r ≤ m → h.2 p = oPg 0 c p m rc → EnA h (p + 6) 100 E → h.2 (p + 19) = aI 100 od2 → Fr (p + 19) (p + 20) h0 h → (∀ j, j < r → od2 j = od j) → (∀ j, r ≤ j → j < m → od2 (j + 1) = od j) → (∀ j, r ≤ j → j < m → enP E a < enP E (os j)) → mZ d tk_47 0 0 Q 5 [some (.ref p), some (.int (nI a)), some (.int (nI r))] [] h 0 0 := by
    intro r
    induction r with
    | zero =>
      intro od2 h hr hp hEA ho hF e1 e3 hhi
      refine z_iload 6 rfl rfl rfl ?_
      refine z_zle 9 rfl rfl (by omega) (fun _ => ?_) (fun h9 => absurd h9 (by omega))
      refine z_aload 58 rfl rfl rfl ?_
      refine z_get 61 rfl rfl (by repeat (first | exact hp | exact ho | exact mg_eq _ _ _ | refine mg_ne (by omega) ?_)) rfl ?_
      refine z_iload 62 rfl rfl rfl ?_
      refine z_iload 63 rfl rfl rfl ?_
      refine z_ast 64 rfl rfl (by repeat (first | exact hp | exact ho | exact mg_eq _ _ _ | refine mg_ne (by omega) ?_)) rfl (by omega) (by omega) ?_
      refine z_aload 65 rfl rfl rfl ?_
      first | refine z_dup 66 rfl rfl ?_ | refine z_dupi 66 rfl rfl ?_
      refine z_get 69 rfl rfl (by repeat (first | exact hp | exact ho | exact mg_eq _ _ _ | refine mg_ne (by omega) ?_)) rfl ?_
      refine z_push 70 (nI 1) rfl rfl rfl ?_
      refine z_bop 71 _ rfl rfl (by first | with_reducible exact zb_0 _ _ | exact zd_0 _ _) ?_
      refine z_put 74 rfl rfl (by repeat (first | exact hp | exact ho | exact mg_eq _ _ _ | refine mg_ne (by omega) ?_)) rfl (mFi rfl) ?_
      refine z_vret rfl (Nat.le_refl _) (Nat.le_refl _) ?_
      refine q _ (upd od2 0 (nI a)) (mg_eq _ _ _) (mg_ne (by omega) (mg_eq _ _ _)) (OrP.ins (r := 0) hm0 hos hso hal hf (Nat.zero_le _) (fun j hj => absurd hj (Nat.not_lt_zero j)) hhi (fun j hj => absurd hj (Nat.not_lt_zero j)) (if_pos rfl) (fun j h1 h2 => by rw [upd, if_neg (by omega)]; exact e3 j h1 h2)) ⟨hF.1, fun y hy => ?_⟩
      simp only [nin] at hy
      rw [mg_ne (show y ≠ p by omega) rfl, mg_ne (show y ≠ p + 19 by omega) rfl]
      exact hF.2 y (by omega)
    | succ r ih =>
      intro od2 h hr hp hEA ho hF e1 e3 hhi
      obtain ⟨hE0, s9, t9, n9, p9, f9, hE, hEF⟩ := id hEA
      obtain ⟨o1, o2, o3⟩ := hos r (by omega)
      have hor : od2 r = nI (os r) := by rw [e1 r (by omega)]; exact o1
      have hpr := hpb (os r) (by omega)
      have hpa := hpb a haE
      have he1 := (hEF (os r) (by omega)).2.2.2.1
      have he2 := (hEF a haE).2.2.2.1
      have hne : enP E (os r) ≠ enP E a := hU (os r) a (by omega) haE o3 hf (by omega)
      refine z_iload 6 rfl rfl rfl ?_
      refine z_zle 9 rfl rfl (by omega) (fun h9 => absurd h9 (by omega)) (fun _ => ?_)
      refine z_aload 10 rfl rfl rfl ?_
      refine z_get 13 rfl rfl (by repeat (first | exact hp | exact hE.1 | exact hE.2.2.2.2.1 | exact ho | exact mg_eq _ _ _ | refine mg_ne (by omega) ?_)) rfl ?_
      refine z_get 16 rfl rfl (by repeat (first | exact hp | exact hE.1 | exact hE.2.2.2.2.1 | exact ho | exact mg_eq _ _ _ | refine mg_ne (by omega) ?_)) rfl ?_
      refine z_aload 17 rfl rfl rfl ?_
      refine z_get 20 rfl rfl (by repeat (first | exact hp | exact hE.1 | exact hE.2.2.2.2.1 | exact ho | exact mg_eq _ _ _ | refine mg_ne (by omega) ?_)) rfl ?_
      refine z_iload 21 rfl rfl rfl ?_
      refine z_push 22 (nI 1) rfl rfl rfl ?_
      refine z_bop 23 _ rfl rfl (zb_1 (by omega)) ?_
      refine z_ald 24 rfl rfl (by repeat (first | exact hp | exact hE.1 | exact hE.2.2.2.2.1 | exact ho | exact mg_eq _ _ _ | refine mg_ne (by omega) ?_)) rfl (by omega) (by omega) ?_
      rw [show od2 (r + 1 - 1) = nI (os r) from hor]
      refine z_ald 25 rfl rfl (by repeat (first | exact hp | exact hE.1 | exact hE.2.2.2.2.1 | exact ho | exact mg_eq _ _ _ | refine mg_ne (by omega) ?_)) rfl (by omega) (by omega) ?_
      simp only [he1]
      refine z_aload 26 rfl rfl rfl ?_
      refine z_get 29 rfl rfl (by repeat (first | exact hp | exact hE.1 | exact hE.2.2.2.2.1 | exact ho | exact mg_eq _ _ _ | refine mg_ne (by omega) ?_)) rfl ?_
      refine z_get 32 rfl rfl (by repeat (first | exact hp | exact hE.1 | exact hE.2.2.2.2.1 | exact ho | exact mg_eq _ _ _ | refine mg_ne (by omega) ?_)) rfl ?_
      refine z_iload 33 rfl rfl rfl ?_
      refine z_ald 34 rfl rfl (by repeat (first | exact hp | exact hE.1 | exact hE.2.2.2.2.1 | exact ho | exact mg_eq _ _ _ | refine mg_ne (by omega) ?_)) rfl (by omega) (by omega) ?_
      simp only [he2]
      refine z_nle 37 rfl rfl (by omega) (by omega) (fun hc34 => ?_) (fun hc34 => ?_)
      · refine z_aload 58 rfl rfl rfl ?_
        refine z_get 61 rfl rfl (by repeat (first | exact hp | exact hE.1 | exact hE.2.2.2.2.1 | exact ho | exact mg_eq _ _ _ | refine mg_ne (by omega) ?_)) rfl ?_
        refine z_iload 62 rfl rfl rfl ?_
        refine z_iload 63 rfl rfl rfl ?_
        refine z_ast 64 rfl rfl (by repeat (first | exact hp | exact hE.1 | exact hE.2.2.2.2.1 | exact ho | exact mg_eq _ _ _ | refine mg_ne (by omega) ?_)) rfl (by omega) (by omega) ?_
        refine z_aload 65 rfl rfl rfl ?_
        first | refine z_dup 66 rfl rfl ?_ | refine z_dupi 66 rfl rfl ?_
        refine z_get 69 rfl rfl (by repeat (first | exact hp | exact hE.1 | exact hE.2.2.2.2.1 | exact ho | exact mg_eq _ _ _ | refine mg_ne (by omega) ?_)) rfl ?_
        refine z_push 70 (nI 1) rfl rfl rfl ?_
        refine z_bop 71 _ rfl rfl (by first | with_reducible exact zb_0 _ _ | exact zd_0 _ _) ?_
        refine z_put 74 rfl rfl (by repeat (first | exact hp | exact hE.1 | exact hE.2.2.2.2.1 | exact ho | exact mg_eq _ _ _ | refine mg_ne (by omega) ?_)) rfl (mFi rfl) ?_
        refine z_vret rfl (Nat.le_refl _) (Nat.le_refl _) ?_
        refine q _ (upd od2 (r + 1) (nI a)) (mg_eq _ _ _) (mg_ne (by omega) (mg_eq _ _ _)) (OrP.ins (r := r + 1) hm0 hos hso hal hf (by omega) (fun j hj => ?_) hhi (fun j hj => by rw [upd, if_neg (by omega)]; exact e1 j hj) (if_pos rfl) (fun j h1 h2 => by rw [upd, if_neg (by omega)]; exact e3 j h1 h2)) ⟨hF.1, fun y hy => ?_⟩
        · by_cases e : j = r
          · subst e; omega
          · have := hso j r (by omega) (by omega); omega
        · simp only [nin] at hy
          rw [mg_ne (show y ≠ p by omega) rfl, mg_ne (show y ≠ p + 19 by omega) rfl]
          exact hF.2 y (by omega)
      · refine z_aload 38 rfl rfl rfl ?_
        refine z_get 41 rfl rfl (by repeat (first | exact hp | exact hE.1 | exact hE.2.2.2.2.1 | exact ho | exact mg_eq _ _ _ | refine mg_ne (by omega) ?_)) rfl ?_
        refine z_iload 42 rfl rfl rfl ?_
        refine z_aload 43 rfl rfl rfl ?_
        refine z_get 46 rfl rfl (by repeat (first | exact hp | exact hE.1 | exact hE.2.2.2.2.1 | exact ho | exact mg_eq _ _ _ | refine mg_ne (by omega) ?_)) rfl ?_
        refine z_iload 47 rfl rfl rfl ?_
        refine z_push 48 (nI 1) rfl rfl rfl ?_
        refine z_bop 49 _ rfl rfl (zb_1 (by omega)) ?_
        refine z_ald 50 rfl rfl (by repeat (first | exact hp | exact hE.1 | exact hE.2.2.2.2.1 | exact ho | exact mg_eq _ _ _ | refine mg_ne (by omega) ?_)) rfl (by omega) (by omega) ?_
        rw [show od2 (r + 1 - 1) = nI (os r) from hor]
        refine z_ast 51 rfl rfl (by repeat (first | exact hp | exact hE.1 | exact hE.2.2.2.2.1 | exact ho | exact mg_eq _ _ _ | refine mg_ne (by omega) ?_)) rfl (by omega) (by omega) ?_
        refine z_iinc 54 _ rfl rfl rfl rfl (sb_m1 (by omega)) ?_
        refine z_goto rfl ?_
        rw [show r + 1 - 1 = r from rfl]
        refine ih (upd od2 (r + 1) (nI (os r))) _ (by omega) (mg_ne (by omega) hp) (hEA.e (fun y y1 y2 => mg_ne (by omega) rfl)) (mg_eq _ _ _) ⟨hF.1, fun y hy => by rw [mg_ne (show y ≠ p + 19 by omega) rfl]; exact hF.2 y hy⟩ (fun j hj => by rw [upd, if_neg (by omega)]; exact e1 j (by omega)) (fun j h1 h2 => ?_) (fun j h1 h2 => ?_)
        · by_cases e : j = r
          · subst e; rw [upd, if_pos rfl]; exact o1.symm
          · rw [upd, if_neg (by omega)]; exact e3 j (by omega) h2
        · by_cases e : j = r
          · subst e; exact hc34
          · exact hhi j (by omega) h2
  refine z_in [some (.ref p), some (.int (nI a)), none] (by rfl) rfl rfl rfl ?_
  refine z_aload 1 rfl rfl rfl ?_
  refine z_get 4 rfl rfl hp rfl ?_
  refine z_istore 5 rfl rfl rfl rfl ?_
  exact loop m od h0 (Nat.le_refl _) hp hEA ho ⟨rfl, fun _ _ => rfl⟩ (fun j _ => rfl) (fun j h1 h2 => by omega) (fun j h1 h2 => by omega)
