/-! the class: frames, rows -/
def nin : List (Nat × Nat) → Nat → Prop
  | [], _ => True
  | x :: L, a => (a < x.1 ∨ x.2 ≤ a) ∧ nin L a
/-- nothing but cells of some stretches has changed -/
def FrL (L : List (Nat × Nat)) (h h' : mH) : Prop := h'.1 = h.1 ∧ ∀ a, nin L a → h'.2 a = h.2 a
theorem FrL.rfl {L : List (Nat × Nat)} {h : mH} : FrL L h h := ⟨Eq.refl _, fun _ _ => Eq.refl _⟩
theorem FrL.trans {L : List (Nat × Nat)} {h h1 h2 : mH} (a : FrL L h h1) (b : FrL L h1 h2) : FrL L h h2 := ⟨b.1.trans a.1, fun x hx => (b.2 x hx).trans (a.2 x hx)⟩
theorem FrL.mono {L L' : List (Nat × Nat)} {h h' : mH} (a : FrL L h h') (hs : ∀ x, nin L' x → nin L x) : FrL L' h h' := ⟨a.1, fun x hx => a.2 x (hs x hx)⟩
theorem Fr.toL {lo hi : Nat} {L : List (Nat × Nat)} {h h' : mH} (a : Fr lo hi h h') (hs : ∀ x, nin L x → x < lo ∨ hi ≤ x) : FrL L h h' := ⟨a.1, fun x hx => a.2 x (hs x hx)⟩
theorem FrL.set {L : List (Nat × Nat)} {h h1 : mH} {a : Nat} {e : mC} (f : FrL L h h1) (hs : ∀ x, nin L x → x ≠ a) : FrL L h (mSet h1 a e) := ⟨f.1, fun x hx => by simp only [mSet]; rw [if_neg (hs x hx)]; exact f.2 x hx⟩
def Eqv (lo hi : Nat) (h h' : mH) : Prop := ∀ a, lo ≤ a → a < hi → h'.2 a = h.2 a
theorem FrL.eqv {L : List (Nat × Nat)} {h h' : mH} {lo hi : Nat} (f : FrL L h h') (hs : ∀ x, lo ≤ x → x < hi → nin L x) : Eqv lo hi h h' := fun a h1 h2 => f.2 a (hs a h1 h2)
theorem Fr.eqv {l0 h0 lo hi : Nat} {h h' : mH} (f : Fr l0 h0 h h') (hs : h0 ≤ lo ∨ hi ≤ l0) : Eqv lo hi h h' := fun a h1 h2 => f.2 a (by omega)
theorem Eqv.set {lo hi a : Nat} {h h' : mH} {e : mC} (f : Eqv lo hi h h') (hs : a < lo ∨ hi ≤ a) : Eqv lo hi h (mSet h' a e) := fun x h1 h2 => by simp only [mSet]; rw [if_neg (by omega)]; exact f x h1 h2
theorem Eqv.rfl {lo hi : Nat} {h : mH} : Eqv lo hi h h := fun _ _ _ => Eq.refl _
theorem Eqv.trans {lo hi : Nat} {h h1 h2 : mH} (a : Eqv lo hi h h1) (b : Eqv lo hi h1 h2) : Eqv lo hi h h2 := fun x u v => (b x u v).trans (a x u v)
theorem Fr.of_set2 {h : mH} {a b lo hi : Nat} {e f : mC} (h1 : lo ≤ a ∧ a < hi) (h2 : lo ≤ b ∧ b < hi) : Fr lo hi h (mSet (mSet h a e) b f) := ⟨Eq.refl _, fun x hx => by simp only [mSet]; rw [if_neg (by omega), if_neg (by omega)]⟩
theorem Fr.of_set1 {h : mH} {a lo hi : Nat} {e : mC} (h1 : lo ≤ a ∧ a < hi) : Fr lo hi h (mSet h a e) := ⟨Eq.refl _, fun x hx => by simp only [mSet]; rw [if_neg (by omega)]⟩
/-- a row of a room, with its numbers -/
def RwAt (h : mH) (r n : Nat) (l : List Nat) : Prop := h.2 r = oRow (r + 1) (nI l.length) ∧ l.length ≤ n ∧ ∃ f : Nat → Int32, h.2 (r + 1) = aI n f ∧ ∀ j, j < l.length → f j = nI (l.getD j 0)
theorem RwAt.e {h h' : mH} {r n : Nat} {l : List Nat} (a : RwAt h r n l) (f : Eqv r (r + 2) h h') : RwAt h' r n l := by
  obtain ⟨a1, a2, g, a3, a4⟩ := a
  exact ⟨(f r (by omega) (by omega)).trans a1, a2, g, (f (r + 1) (by omega) (by omega)).trans a3, a4⟩
theorem w_clear {d : Nat} {h : mH} {r n : Nat} {l : List Nat} {Q : mP} (a : RwAt h r n l) (q : ∀ h', RwAt h' r n [] → Fr r (r + 2) h h' → Q none h') : mWP (d + 1) 71 [.ref r] h Q := by
  obtain ⟨a1, a2, g, a3, a4⟩ := a
  refine c_Row_clear a1 (q _ ⟨mg_eq _ _ _, Nat.zero_le _, g, mg_ne (by omega) a3, fun j hj => absurd hj (Nat.not_lt_zero j)⟩ (Fr.of_set1 (by omega)))
theorem getD_one {l : List Nat} {x j : Nat} (hj : j < l.length + 1) : (l ++ [x]).getD j 0 = if j = l.length then x else l.getD j 0 := by
  by_cases e : j = l.length
  · subst e; rw [if_pos rfl, getD_apl]
  · rw [if_neg e, getD_apf (by omega)]
theorem w_add {d : Nat} {h : mH} {r n x : Nat} {l : List Nat} {Q : mP} (a : RwAt h r n l) (hn : n < 2 ^ 31) (hl : l.length < n) (q : ∀ h', RwAt h' r n (l ++ [x]) → Fr r (r + 2) h h' → Q (some (.int 1)) h') : mWP (d + 1) 72 [.ref r, .int (nI x)] h Q := by
  obtain ⟨a1, a2, g, a3, a4⟩ := a
  refine c_Row_add a1 a3 hn a2 (fun _ => q _ ⟨?_, ?_, upd g l.length (nI x), mg_ne (by omega) (mg_eq _ _ _), fun j hj => ?_⟩ (Fr.of_set2 (by omega) (by omega))) (fun h9 => absurd h9 (by omega))
  · rw [mg_eq, List.length_append]; rfl
  · rw [List.length_append]; exact hl
  · rw [List.length_append] at hj
    have hj' : j < l.length + 1 := hj
    rw [getD_one hj', upd]
    split
    · rfl
    · exact a4 j (by omega)
theorem w_addNumber {d : Nat} {h : mH} {r n k v : Nat} {l : List Nat} {Q : mP} (a : RwAt h r n l) (hn : n < 2 ^ 31) (hk : k ≤ 4) (hv : v < 2 ^ 32) (hl : l.length + k ≤ n) (q : ∀ h', RwAt h' r n (l ++ byL k v) → Fr r (r + 2) h h' → Q none h') : mWP (d + 1) 74 [.ref r, .int (nI v), .int (nI k)] h Q := by
  obtain ⟨a1, a2, g, a3, a4⟩ := a
  have hbl : (byL k v).length = k := byF_len k v k 0
  have hbg : ∀ m i j, j < m → (byF k v m i).getD j 0 = bt k v (i + j) := by
    intro m
    induction m with
    | zero => intro i j hj; omega
    | succ m ih =>
      intro i j hj
      cases j with
      | zero => rfl
      | succ j => rw [byF, List.getD_cons_succ, ih (i + 1) j (by omega)]; congr 1; omega
  refine c_Row_addNumber a1 a3 hn hk hl (q _ ⟨?_, ?_, addN g l.length (nI v) k k, mg_ne (by omega) (mg_eq _ _ _), fun j hj => ?_⟩ (Fr.of_set2 (by omega) (by omega)))
  · rw [mg_eq, List.length_append, hbl]
  · rw [List.length_append, hbl]; exact hl
  · rw [List.length_append, hbl] at hj
    simp only [addN]
    by_cases e : j < l.length
    · rw [if_neg (by omega), getD_apf e]; exact a4 j e
    · rw [if_pos (by omega), List.getD_eq_getElem?_getD, List.getElem?_append_right (by omega), ← List.getD_eq_getElem?_getD, byL, hbg k 0 (j - l.length) (by omega), Nat.zero_add]
      unfold byt bt
      congr 3
      show (BitVec.ofNat 32 v).toNat = v
      rw [BitVec.toNat_ofNat, Nat.mod_eq_of_lt hv]
theorem w_addPoint {d : Nat} {h : mH} {r n p : Nat} {l : List Nat} {Q : mP} (a : RwAt h r n l) (hn : n < 2 ^ 31) (hp : p < 1114112) (hl : l.length + 2 ≤ n) (q : ∀ h', RwAt h' r n (l ++ puU p) → Fr r (r + 2) h h' → Q none h') : mWP (d + 2) 75 [.ref r, .int (nI p)] h Q := by
  obtain ⟨a1, a2, g, a3, a4⟩ := a
  have hu : uN9 p ≤ 2 := by unfold uN9; split <;> omega
  refine c_Row_addPoint a1 a3 hn hp (by omega) (q _ ⟨?_, ?_, addU g l.length p, mg_ne (by omega) (mg_eq _ _ _), fun j hj => ?_⟩ (Fr.of_set2 (by omega) (by omega)))
  · rw [mg_eq, List.length_append]; congr 4; unfold uN9 puU; split <;> rfl
  · rw [List.length_append]; unfold puU; split
    · show l.length + 1 ≤ n; omega
    · exact hl
  · unfold puU at hj ⊢
    unfold addU
    split
    · rename_i e
      rw [if_pos e] at hj
      rw [List.length_append] at hj
      have hj' : j < l.length + 1 := hj
      rw [getD_one hj', upd]
      split
      · rfl
      · exact a4 j (by omega)
    · rename_i e
      rw [if_neg e] at hj
      rw [List.length_append] at hj
      have hj' : j < l.length + 2 := hj
      have e9 : l ++ [utF p, utS p] = (l ++ [utF p]) ++ [utS p] := by rw [List.append_assoc]; rfl
      have e8 : (l ++ [utF p]).length = l.length + 1 := by rw [List.length_append]; rfl
      rw [e9, getD_one (by rw [e8]; omega), e8, upd]
      by_cases e1 : j = l.length + 1
      · rw [if_pos e1, if_pos e1]; rfl
      · rw [if_neg e1, if_neg e1, getD_one (by omega), upd]
        split
        · rfl
        · exact a4 j (by omega)
