/-! the class: items found by chains -/
def Chn (nx : Nat → Int32) : List Nat → Int32 → Prop
  | [], c => c = nI 0
  | i :: l, c => c = nI (i + 1) ∧ i < 110 ∧ Chn nx l (nx i)
/-- the item of a number stands in a state and begins with a byte -/
def itM (E : List En) (H : List Sh) (st b i : Nat) : Prop := (i < E.length ∧ enS E i = st ∧ bt (enN E i) (enT E i) 0 = b) ∨ (100 ≤ i ∧ i - 100 < H.length ∧ shS H (i - 100) = st ∧ shV H (i - 100) = b)
def ChOk (E : List En) (H : List Sh) (hd nx : Nat → Int32) : Prop := ∀ st b, st < 4 → b < 256 → ∃ l, Chn nx l (hd (st * 256 + b)) ∧ l.length ≤ 110 ∧ ∀ i, i ∈ l ↔ itM E H st b i
/-- what a chain leads to -/
def scn (E : List En) (H : List Sh) (free : Bool) (bs : List Nat) : List Nat → Nat → Nat × Nat × Nat
  | [], x => (x, 0, 0)
  | i :: l, x => if i < 100 then (if cmS E bs i = enN E i then (2, enN E i, enP E i) else if cmS E bs i = bs.length then scn E H free bs l 1 else scn E H free bs l x)
    else if free = true then (3, i - 100, 0) else scn E H free bs l x
/-- no item begins with another one of its state -/
def NoC (E : List En) (H : List Sh) : Prop := (∀ i k, i < E.length → k < E.length → i ≠ k → enS E i = enS E k → enN E i ≤ enN E k → enT E i ≠ enT E k / 2 ^ (8 * (enN E k - enN E i))) ∧ (∀ i k, i < H.length → k < E.length → shS H i = enS E k → shV H i ≠ enT E k / 2 ^ (8 * (enN E k - 1))) ∧ (∀ i k, i < H.length → k < H.length → i ≠ k → shS H i = shS H k → shV H i ≠ shV H k)
theorem bt0 {n v : Nat} (hv : v < 256 ^ n) (hn : 1 ≤ n) : bt n v 0 = v / 2 ^ (8 * (n - 1)) := by
  unfold bt
  rw [Nat.sub_zero]
  apply Nat.mod_eq_of_lt
  rw [Nat.div_lt_iff_lt_mul (Nat.two_pow_pos _)]
  rw [show 256 * 2 ^ (8 * (n - 1)) = 256 ^ n from by
    obtain ⟨m, rfl⟩ : ∃ m, n = m + 1 := ⟨n - 1, by omega⟩
    rw [Nat.add_sub_cancel, Nat.pow_succ, Nat.mul_comm, show (2 : Nat) ^ (8 * m) = 256 ^ m from by rw [Nat.pow_mul]]]
  exact hv
theorem pre_of {n v k w : Nat} {bs : List Nat} (hv : v < 256 ^ n) (hw : w < 256 ^ k) (hb : ∀ j, bs.getD j 0 < 256) (hnk : n ≤ k) (hl : n ≤ bs.length) (h1 : ∀ j, j < n → bs.getD j 0 = bt n v j) (h2 : ∀ j, j < n → bs.getD j 0 = bt k w j) : v = w / 2 ^ (8 * (k - n)) := by
  have e1 := (cm_num hv hb n (Nat.le_refl _) hl).mpr h1
  have e2 := (cm_num hw hb n hnk hl).mpr h2
  rw [Nat.sub_self, Nat.mul_zero, Nat.pow_zero, Nat.div_one] at e1
  rw [e1, e2]
theorem cmS_at {E : List En} {bs : List Nat} {k j : Nat} (h : j < cmS E bs k) : bs.getD j 0 = bt (enN E k) (enT E k) j := cmn_m _ _ _ (Nat.zero_le _) h
theorem cl_ent {E : List En} {H : List Sh} {bs : List Nat} {i k : Nat} (hN : NoC E H) (hW : TbW E H) (hb : ∀ j, bs.getD j 0 < 256) (hi : i < E.length) (hk : k < E.length) (hs : enS E i = enS E k) (h1 : cmS E bs i = enN E i) (h2 : enN E i ≤ cmS E bs k) : i = k := by
  by_cases e : i = k
  · exact e
  · obtain ⟨a1, a2, a3, a4, a5⟩ := hW.2.2.1 i hi
    obtain ⟨b1, b2', b3, b4, b5⟩ := hW.2.2.1 k hk
    have c1 := cmS_le (E := E) (bs := bs) (k := i)
    have c2 := cmS_le (E := E) (bs := bs) (k := k)
    exact absurd (pre_of a4 b4 hb (by omega) (by omega) (fun j hj => cmS_at (by omega)) (fun j hj => cmS_at (by omega))) (hN.1 i k hi hk e hs (by omega))
theorem cl_sh {E : List En} {H : List Sh} {i k : Nat} (hN : NoC E H) (hW : TbW E H) (hi : i < H.length) (hk : k < E.length) (hs : shS H i = enS E k) (hv : shV H i = bt (enN E k) (enT E k) 0) : False := by
  obtain ⟨b1, b2', b3, b4, b5⟩ := hW.2.2.1 k hk
  rw [bt0 b4 b2'] at hv
  exact hN.2.1 i k hi hk hs hv
theorem scn_ok {E : List En} {H : List Sh} {due : Nat} {free : Bool} {bs l : List Nat} (hN : NoC E H) (hW : TbW E H) (hb : ∀ j, bs.getD j 0 < 256) (hl1 : 1 ≤ bs.length) (hl : ∀ i, i ∈ l ↔ itM E H due (bs.getD 0 0) i) : scn E H free bs l 0 = lkT E H due free bs := by
  have hE1 := hW.1
  have inE : ∀ k, k < E.length → enS E k = due → 1 ≤ cmS E bs k → k ∈ l := fun k hk hs hc => (hl k).mpr (Or.inl ⟨hk, hs, (cmS_at (by omega)).symm⟩)
  have Ein : ∀ i, i ∈ l → i < 100 → i < E.length ∧ enS E i = due ∧ bt (enN E i) (enT E i) 0 = bs.getD 0 0 := fun i hi h100 => by
    rcases (hl i).mp hi with h | h
    · exact h
    · omega
  have Sin : ∀ i, i ∈ l → ¬ i < 100 → i - 100 < H.length ∧ shS H (i - 100) = due ∧ shV H (i - 100) = bs.getD 0 0 := fun i hi h100 => by
    rcases (hl i).mp hi with h | h
    · omega
    · exact h.2
  unfold lkT
  rcases hw : ffd (mtW E due bs) E.length 0 with _ | k
  · -- no entry stands whole
    have nW : ∀ k, k < E.length → enS E k = due → cmS E bs k ≠ enN E k := fun k hk hs hc => by
      have := ffd_nn hw k (by omega) (by omega)
      rw [mtW, decide_eq_true hs, decide_eq_true hc] at this
      cases this
    rcases hq : (if free = true then ffd (sQ H due (bs.getD 0 0)) H.length 0 else none) with _ | k
    · have nS : free = true → ∀ i, i ∈ l → i < 100 := fun hf i hi => by
        by_cases h100 : i < 100
        · exact h100
        · rw [if_pos hf] at hq
          obtain ⟨q1, q2, q3⟩ := Sin i hi h100
          have := ffd_nn hq (i - 100) (by omega) (by omega)
          rw [sQ, decide_eq_true q2, decide_eq_true q3] at this
          cases this
      have gen : ∀ l' x, (∀ i, i ∈ l' → i ∈ l) → scn E H free bs l' x = (if x = 1 ∨ ∃ i, i ∈ l' ∧ i < 100 ∧ cmS E bs i = bs.length then (1, 0, 0) else (x, 0, 0)) := by
        intro l'
        induction l' with
        | nil => intro x _; rw [scn]; split
                 · rename_i h9; rcases h9 with h9 | ⟨i, h8, _⟩
                   · rw [h9]
                   · exact absurd h8 (List.not_mem_nil)
                 · rfl
        | cons i l' ih =>
          intro x hs
          have hi := hs i (List.mem_cons_self ..)
          have hs' : ∀ j, j ∈ l' → j ∈ l := fun j hj => hs j (List.mem_cons_of_mem _ hj)
          rw [scn]
          by_cases h100 : i < 100
          · obtain ⟨q1, q2, q3⟩ := Ein i hi h100
            rw [if_pos h100, if_neg (nW i q1 q2)]
            by_cases hc : cmS E bs i = bs.length
            · rw [if_pos hc, ih 1 hs', if_pos (Or.inl rfl), if_pos (Or.inr ⟨i, List.mem_cons_self .., h100, hc⟩)]
            · rw [if_neg hc, ih x hs']
              by_cases h9 : x = 1 ∨ ∃ j, j ∈ l' ∧ j < 100 ∧ cmS E bs j = bs.length
              · rw [if_pos h9, if_pos]
                rcases h9 with h9 | ⟨j, h8, h7⟩
                · exact Or.inl h9
                · exact Or.inr ⟨j, List.mem_cons_of_mem _ h8, h7⟩
              · rw [if_neg h9, if_neg]
                rintro (h8 | ⟨j, h8, h7, h6⟩)
                · exact h9 (Or.inl h8)
                · rcases List.mem_cons.mp h8 with h5 | h5
                  · subst h5; exact hc h6
                  · exact h9 (Or.inr ⟨j, h5, h7, h6⟩)
          · rw [if_neg h100]
            by_cases hf : free = true
            · exact absurd (nS hf i hi) h100
            · rw [if_neg hf, ih x hs']
              by_cases h9 : x = 1 ∨ ∃ j, j ∈ l' ∧ j < 100 ∧ cmS E bs j = bs.length
              · rw [if_pos h9, if_pos]
                rcases h9 with h9 | ⟨j, h8, h7⟩
                · exact Or.inl h9
                · exact Or.inr ⟨j, List.mem_cons_of_mem _ h8, h7⟩
              · rw [if_neg h9, if_neg]
                rintro (h8 | ⟨j, h8, h7, h6⟩)
                · exact h9 (Or.inl h8)
                · rcases List.mem_cons.mp h8 with h5 | h5
                  · subst h5; exact h100 h7
                  · exact h9 (Or.inr ⟨j, h5, h7, h6⟩)
      rw [gen l 0 (fun i hi => hi)]
      have anyE : ∀ n, (anyB (mtP E due bs) n = true ↔ ∃ k, k < n ∧ mtP E due bs k = true) := by
        intro n
        induction n with
        | zero => exact ⟨fun h9 => (by cases h9), fun ⟨k, h9, _⟩ => absurd h9 (Nat.not_lt_zero k)⟩
        | succ n ih =>
          rw [anyB, Bool.or_eq_true, ih]
          constructor
          · rintro (⟨k, h1, h2⟩ | h1)
            · exact ⟨k, by omega, h2⟩
            · exact ⟨n, by omega, h1⟩
          · rintro ⟨k, h1, h2⟩
            by_cases e : k = n
            · subst e; exact Or.inr h2
            · exact Or.inl ⟨k, by omega, h2⟩
      show _ = (if anyB (mtP E due bs) E.length = true then (1, 0, 0) else (0, 0, 0))
      by_cases ha : anyB (mtP E due bs) E.length = true
      · rw [if_pos ha, if_pos]
        obtain ⟨k, h1, h2⟩ := (anyE _).mp ha
        rw [mtP, Bool.and_eq_true, decide_eq_true_eq, decide_eq_true_eq] at h2
        exact Or.inr ⟨k, inE k h1 h2.1 (by omega), by omega, h2.2⟩
      · rw [if_neg ha, if_neg]
        rintro (h8 | ⟨j, h8, h7, h6⟩)
        · omega
        · obtain ⟨q1, q2, q3⟩ := Ein j h8 h7
          exact ha ((anyE _).mpr ⟨j, q1, by rw [mtP, decide_eq_true q2, decide_eq_true h6]; rfl⟩)
    · -- a shift
      have hf : free = true := by
        by_cases h9 : free = true
        · exact h9
        · rw [if_neg h9] at hq; cases hq
      rw [if_pos hf] at hq
      have hkl := ffd_lt hq
      have hkp := ffd_p hq
      rw [sQ, Bool.and_eq_true, decide_eq_true_eq, decide_eq_true_eq] at hkp
      have hmem : 100 + k ∈ l := (hl _).mpr (Or.inr ⟨by omega, by rw [Nat.add_sub_cancel_left]; omega, by rw [Nat.add_sub_cancel_left]; exact hkp.1, by rw [Nat.add_sub_cancel_left]; exact hkp.2⟩)
      have gen : ∀ l' x, (∀ i, i ∈ l' → i ∈ l) → 100 + k ∈ l' → scn E H free bs l' x = (3, k, 0) := by
        intro l'
        induction l' with
        | nil => intro x _ h9; exact absurd h9 (List.not_mem_nil)
        | cons i l' ih =>
          intro x hs hm
          have hi := hs i (List.mem_cons_self ..)
          rw [scn]
          by_cases h100 : i < 100
          · obtain ⟨q1, q2, q3⟩ := Ein i hi h100
            exact absurd (cl_sh hN hW (i := k) (k := i) (by omega) q1 (hkp.1.trans q2.symm) (hkp.2.trans q3.symm)) (fun h => h)
          · obtain ⟨q1, q2, q3⟩ := Sin i hi h100
            rw [if_neg h100, if_pos hf]
            by_cases e : i - 100 = k
            · rw [e]
            · exact absurd (q3.trans hkp.2.symm) (hN.2.2 (i - 100) k q1 (by omega) e (q2.trans hkp.1.symm))
      exact gen l 0 (fun i hi => hi) hmem
  · -- an entry stands whole
    have hkl := ffd_lt hw
    have hkp := ffd_p hw
    rw [mtW, Bool.and_eq_true, decide_eq_true_eq, decide_eq_true_eq] at hkp
    have hk1 := hW.2.2.1 k (by omega)
    have hmem := inE k (by omega) hkp.1 (by omega)
    have gen : ∀ l' x, (∀ i, i ∈ l' → i ∈ l) → k ∈ l' → scn E H free bs l' x = (2, enN E k, enP E k) := by
      intro l'
      induction l' with
      | nil => intro x _ h9; exact absurd h9 (List.not_mem_nil)
      | cons i l' ih =>
        intro x hs hm
        have hi := hs i (List.mem_cons_self ..)
        have hs' : ∀ j, j ∈ l' → j ∈ l := fun j hj => hs j (List.mem_cons_of_mem _ hj)
        rw [scn]
        by_cases h100 : i < 100
        · obtain ⟨q1, q2, q3⟩ := Ein i hi h100
          rw [if_pos h100]
          by_cases e : i = k
          · subst e; rw [if_pos hkp.2]
          · have hm' : k ∈ l' := by
              rcases List.mem_cons.mp hm with h9 | h9
              · exact absurd h9.symm e
              · exact h9
            have hcl := cmS_le (E := E) (bs := bs) (k := k)
            rw [if_neg (fun h9 => ?_), if_neg (fun h9 => ?_)]
            · exact ih x hs' hm'
            · exact e (cl_ent hN hW hb (by omega) q1 (hkp.1.trans q2.symm) hkp.2 (by omega)).symm
            · rcases Nat.le_total (enN E i) (enN E k) with h8 | h8
              · exact e (cl_ent hN hW hb q1 (by omega) (q2.trans hkp.1.symm) h9 (by omega))
              · exact e (cl_ent hN hW hb (by omega) q1 (hkp.1.trans q2.symm) hkp.2 (by omega)).symm
        · obtain ⟨q1, q2, q3⟩ := Sin i hi h100
          exact absurd (cl_sh hN hW (i := i - 100) (k := k) q1 (by omega) (q2.trans hkp.1.symm) (q3.trans (cmS_at (by omega)))) (fun h => h)
    exact gen l 0 (fun i hi => hi) hmem
