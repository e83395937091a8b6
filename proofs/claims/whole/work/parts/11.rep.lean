/-! the mini machine's heap and locals in the machine's own -/
def rho (base b : Nat) : Nat → Nat
  | 0 => b
  | k + 1 => base + k
def mv (base b : Nat) : Value → Value
  | .ref a => .ref (rho base b a)
  | v => v
theorem mv_cat (base b : Nat) (v : Value) : (mv base b v).category = v.category := by cases v <;> rfl
def me (ca : Nat → ClassId) (base b : Nat) : mC → va_E
  | .inl (t, n, f) => .inl (ca t, n, .inl f)
  | .inr (.inl (t, n, g)) => .inl (ca t, n, .inr (.inr (.inr (.inr fun i => (g i).map (rho base b)))))
  | .inr (.inr (ci, fs)) => .inr (ci, fs.map (mv base b))
/-- the classes whose objects are made: CodeExchange$Forms has none, another one stands at its number -/
abbrev mm_cm : List vw_C := [(RX0, TX0, 6), (RX0, TX0, 6), (RX2, TX2, 5), (RX3, TX3, 12), (RX4, TX4, 10), (RX5, TX5, 7), (RX6, TX6, 4), (RX7, TX7, 2), (RX8, TX8, 7), (RX9, TX9, 5), (RX10, TX10, 6), (RX11, TX11, 17), (RX12, TX12, 69)]
theorem mm_cm_of {ci : Nat} {q : vw_C} (h : mm_cl[ci]? = some q) (h1 : ci ≠ 1) : mm_cm[ci]? = some q := by
  match ci, h with
  | 0, h => exact h
  | 1, h => exact absurd rfl h1
  | k + 2, h => exact h
def mOkc : mC → Prop
  | .inl (t, _, _) => t = 0 ∨ t = 1
  | .inr (.inl (t, _, _)) => t = 2 ∨ t = 3
  | .inr (.inr _) => True
def mRep (D : va_G) (ca : Nat → ClassId) (base b Ls : Nat) (xs : Nat → Int32) (h : mH) (H : Heap) : Prop :=
  1 ≤ h.1 ∧ H.size + 1 = base + h.1 ∧ h.2 0 = .inl (9, Ls, xs) ∧ (∀ k, h.1 ≤ k → h.2 k = mJ) ∧ ∀ k, 1 ≤ k → k < h.1 → mOkc (h.2 k) ∧ va_at D mm_cm (rho base b k, me ca base b (h.2 k)) H
section MREP
variable {D : va_G} {ca : Nat → ClassId} {base b Ls : Nat} {xs : Nat → Int32} {h : mH} {H H1 : Heap}
theorem rho_inj {k x : Nat} (hk : 1 ≤ k) (hx : 1 ≤ x) (e : rho base b k = rho base b x) : k = x := by
  obtain ⟨k, rfl⟩ : ∃ j, k = j + 1 := ⟨k - 1, by omega⟩
  obtain ⟨x, rfl⟩ : ∃ j, x = j + 1 := ⟨x - 1, by omega⟩
  simp only [rho] at e
  omega
theorem rho_ge {k : Nat} (hk : 1 ≤ k) : base ≤ rho base b k := by
  obtain ⟨k, rfl⟩ : ∃ j, k = j + 1 := ⟨k - 1, by omega⟩
  simp only [rho]
  omega
theorem mRep.obj (hR : mRep D ca base b Ls xs h H) {x ci : Nat} {fs : List Value} (hx : h.2 x = .inr (.inr (ci, fs))) : 1 ≤ x ∧ x < h.1 ∧ va_at D mm_cm (rho base b x, .inr (ci, fs.map (mv base b))) H := by
  obtain ⟨h1, h2, h3, h4, h5⟩ := hR
  have a1 : 1 ≤ x := by
    rcases Nat.eq_zero_or_pos x with rfl | h
    · rw [h3] at hx; cases hx
    · exact h
  have a2 : x < h.1 := by
    rcases Nat.lt_or_ge x h.1 with q | q
    · exact q
    · rw [h4 x q] at hx; cases hx
  refine ⟨a1, a2, ?_⟩
  have := (h5 x a1 a2).2
  rw [hx] at this
  exact this
theorem mRep.int (hR : mRep D ca base b Ls xs h H) {x t n : Nat} {f : Nat → Int32} (hx : h.2 x = .inl (t, n, f)) (ht : t ≠ 9) : 1 ≤ x ∧ x < h.1 ∧ H[rho base b x]? = some (vp_cell (ca t) (n, .inl f)) ∧ (t = 0 ∨ t = 1) := by
  obtain ⟨h1, h2, h3, h4, h5⟩ := hR
  have a1 : 1 ≤ x := by
    rcases Nat.eq_zero_or_pos x with rfl | h
    · rw [h3] at hx; cases hx; exact absurd rfl ht
    · exact h
  have a2 : x < h.1 := by
    rcases Nat.lt_or_ge x h.1 with q | q
    · exact q
    · rw [h4 x q] at hx; cases hx
  have h6 := h5 x a1 a2
  rw [hx] at h6
  exact ⟨a1, a2, h6.2, h6.1⟩
theorem mRep.scr (hR : mRep D ca base b Ls xs h H) {x n : Nat} {f : Nat → Int32} (hx : h.2 x = .inl (9, n, f)) : x = 0 ∧ n = Ls ∧ f = xs := by
  obtain ⟨h1, h2, h3, h4, h5⟩ := hR
  rcases Nat.eq_zero_or_pos x with rfl | a1
  · rw [h3] at hx; cases hx; exact ⟨rfl, rfl, rfl⟩
  · rcases Nat.lt_or_ge x h.1 with q | q
    · have := (h5 x a1 q).1
      rw [hx] at this
      rcases this with h | h <;> cases h
    · rw [h4 x q] at hx; cases hx
theorem mRep.rf (hR : mRep D ca base b Ls xs h H) {x t n : Nat} {g : Nat → Option Nat} (hx : h.2 x = .inr (.inl (t, n, g))) (ht : t ≠ 99) : 1 ≤ x ∧ x < h.1 ∧ H[rho base b x]? = some (vp_cell (ca t) (n, .inr (.inr (.inr (.inr fun i => (g i).map (rho base b)))))) := by
  obtain ⟨h1, h2, h3, h4, h5⟩ := hR
  have a1 : 1 ≤ x := by
    rcases Nat.eq_zero_or_pos x with rfl | h
    · rw [h3] at hx; cases hx
    · exact h
  have a2 : x < h.1 := by
    rcases Nat.lt_or_ge x h.1 with q | q
    · exact q
    · rw [h4 x q] at hx; cases hx; exact absurd rfl ht
  have h6 := h5 x a1 a2
  rw [hx] at h6
  exact ⟨a1, a2, h6.2⟩
theorem mRep.set (hR : mRep D ca base b Ls xs h H) {x : Nat} {e : mC} (a1 : 1 ≤ x) (a2 : x < h.1) (he : mOkc e) (z : H1.size = H.size) (oq : ∀ q : Nat, q ≠ rho base b x → H1[q]? = H[q]?) (hv : va_at D mm_cm (rho base b x, me ca base b e) H1) : mRep D ca base b Ls xs (mSet h x e) H1 := by
  obtain ⟨h1, h2, h3, h4, h5⟩ := hR
  refine ⟨h1, by rw [z]; exact h2, ?_, fun k hk => ?_, fun k k1 k2 => ?_⟩
  · simp only [mSet]
    rw [if_neg (by omega)]
    exact h3
  · simp only [mSet] at hk ⊢
    rw [if_neg (by omega)]
    exact h4 k hk
  · simp only [mSet] at k2 ⊢
    by_cases hkx : k = x
    · subst hkx
      rw [if_pos rfl]
      exact ⟨he, hv⟩
    · rw [if_neg hkx]
      exact ⟨(h5 k k1 k2).1, (h5 k k1 k2).2.kept (oq _ (fun q => hkx (rho_inj k1 a1 q)))⟩
theorem mRep.new (hR : mRep D ca base b Ls xs h H) {e : mC} (he : mOkc e) (z : H1.size = H.size + 1) (oq : ∀ q : Nat, q < H.size → H1[q]? = H[q]?) (hv : va_at D mm_cm (H.size, me ca base b e) H1) : mRep D ca base b Ls xs (mNew h e) H1 ∧ rho base b h.1 = H.size := by
  obtain ⟨h1, h2, h3, h4, h5⟩ := hR
  have hr : rho base b h.1 = H.size := by
    obtain ⟨k, hk⟩ : ∃ j, h.1 = j + 1 := ⟨h.1 - 1, by omega⟩
    rw [hk]
    simp only [rho]
    omega
  refine ⟨⟨by simp only [mNew]; omega, by simp only [mNew]; omega, ?_, fun k hk => ?_, fun k k1 k2 => ?_⟩, hr⟩
  · simp only [mNew]
    rw [if_neg (by omega)]
    exact h3
  · simp only [mNew] at hk ⊢
    rw [if_neg (by omega)]
    exact h4 k (by omega)
  · simp only [mNew] at k2 ⊢
    by_cases hkx : k = h.1
    · subst hkx
      rw [if_pos rfl, hr]
      exact ⟨he, hv⟩
    · rw [if_neg hkx]
      have h6 := h5 k k1 (by omega)
      exact ⟨h6.1, h6.2.kept (oq _ h6.2.lt)⟩
end MREP
def mLs (base b n : Nat) (ls : Array Slot) (L : mL) : Prop := ls.size = n ∧ L.length = n ∧ lv_wf ls ∧ ∀ (i : Nat) (v : Value), L[i]? = some (some v) → ls[i]? = some (.val (mv base b v))
def mAlf (base b : Nat) (L : mL) (i : Nat) : Option (Nat × Value) := match L[i]? with
  | some (some v) => some (i, mv base b v)
  | _ => none
def mAl (base b : Nat) (L : mL) : List (Nat × Value) := (List.range L.length).filterMap (mAlf base b L)
section MLS
variable {base b n : Nat} {ls ls' : Array Slot} {L : mL}
theorem mAl_mem {i : Nat} {v : Value} (h : L[i]? = some (some v)) : (i, mv base b v) ∈ mAl base b L := by
  refine List.mem_filterMap.mpr ⟨i, List.mem_range.mpr (List.getElem?_eq_some_iff.mp h).1, ?_⟩
  simp only [mAlf, h]
theorem mAl_of {q : Nat × Value} (h : q ∈ mAl base b L) : ∃ v, L[q.1]? = some (some v) ∧ q.2 = mv base b v := by
  obtain ⟨i, -, hi⟩ := List.mem_filterMap.mp h
  unfold mAlf at hi
  split at hi
  · rename_i v e
    cases hi
    exact ⟨v, e, rfl⟩
  · cases hi
theorem mLs.has (h : mLs base b n ls L) : lv_has ls n (mAl base b L) := by
  refine ⟨h.1, h.2.2.1, fun q hq => ?_⟩
  obtain ⟨v, h1, h2⟩ := mAl_of hq
  rw [h2]
  exact h.2.2.2 _ _ h1
theorem mLs_set1 (h : mLs base b n ls L) {i : Nat} {v : Value} (hi : i < L.length) (hf : mFree L i = true) (h' : lv_has ls' n ((i, mv base b v) :: (mAl base b L).filter (fun q => !(q.1 == i) && !(q.1 + 1 == i && q.2.category == 2)))) : mLs base b n ls' (L.set i (some v)) := by
  refine ⟨h'.1, by rw [List.length_set]; exact h.2.1, h'.2.1, fun j w hj => ?_⟩
  by_cases e : j = i
  · subst e
    rw [List.getElem?_set_self hi] at hj
    cases hj
    exact h'.2.2 (j, mv base b v) List.mem_cons_self
  · rw [List.getElem?_set_ne (fun q => e q.symm)] at hj
    refine h'.2.2 (j, mv base b w) (List.mem_cons_of_mem _ (List.mem_filter.mpr ⟨mAl_mem hj, ?_⟩))
    by_cases e2 : j + 1 = i
    · subst e2
      simp only [mFree, hj] at hf
      have := Nat.eq_of_beq_eq_true hf
      simp [mv_cat, this]
    · simp [e, e2]
theorem mLs_set2 (h : mLs base b n ls L) {i : Nat} {v : Value} (hi : i + 1 < L.length) (hf : mFree L i = true) (h' : lv_has ls' n ((i, mv base b v) :: (mAl base b L).filter (fun q => !(q.1 == i) && (!(q.1 == i + 1) && !(q.1 + 1 == i && q.2.category == 2))))) : mLs base b n ls' ((L.set i (some v)).set (i + 1) none) := by
  refine ⟨h'.1, by rw [List.length_set, List.length_set]; exact h.2.1, h'.2.1, fun j w hj => ?_⟩
  by_cases e3 : j = i + 1
  · subst e3
    rw [List.getElem?_set_self (by rw [List.length_set]; exact hi)] at hj
    cases hj
  · rw [List.getElem?_set_ne (fun q => e3 q.symm)] at hj
    by_cases e : j = i
    · subst e
      rw [List.getElem?_set_self (by omega)] at hj
      cases hj
      exact h'.2.2 (j, mv base b v) List.mem_cons_self
    · rw [List.getElem?_set_ne (fun q => e q.symm)] at hj
      refine h'.2.2 (j, mv base b w) (List.mem_cons_of_mem _ (List.mem_filter.mpr ⟨mAl_mem hj, ?_⟩))
      by_cases e2 : j + 1 = i
      · subst e2
        simp only [mFree, hj] at hf
        have := Nat.eq_of_beq_eq_true hf
        simp [mv_cat, this]
        omega
      · simp [e, e2, e3]
theorem mSp_args : ∀ (As : List Value) (i j : Nat) (v : Value), (mSp As)[j]? = some (some v) → (i + j, mv base b v) ∈ lv_args i (As.map (mv base b))
  | [], _, _, _, h => by simp [mSp] at h
  | w :: r, i, j, v, h => by
    simp only [List.map_cons, lv_args, mv_cat]
    unfold mSp at h
    split at h
    · rename_i hc
      rw [if_pos hc]
      match j, h with
      | 0, h => simp at h; subst h; exact List.mem_cons_self
      | 1, h => simp at h
      | j + 2, h =>
        simp at h
        refine List.mem_cons_of_mem _ ?_
        have := mSp_args r (i + 2) j v h
        rw [show i + (j + 2) = i + 2 + j by omega]
        exact this
    · rename_i hc
      rw [if_neg hc]
      match j, h with
      | 0, h => simp at h; subst h; exact List.mem_cons_self
      | j + 1, h =>
        simp at h
        refine List.mem_cons_of_mem _ ?_
        have := mSp_args r (i + 1) j v h
        rw [show i + (j + 1) = i + 1 + j by omega]
        exact this
theorem mSp_len : ∀ (As : List Value), (lg_sl (As.map (mv base b))).length = (mSp As).length
  | [] => rfl
  | w :: r => by
    have ih := mSp_len r
    simp only [lg_sl, List.map_cons, List.flatMap_cons, List.length_append, mSp] at ih ⊢
    rw [mv_cat]
    split
    · simp [ih]; omega
    · simp [ih]; omega
theorem mLs_entry {As : List Value} (hn : (mSp As).length ≤ n) : mLs base b n ((lg_sl (As.map (mv base b)) ++ List.replicate (n - (lg_sl (As.map (mv base b))).length) Slot.unset).toArray) (mEnt n As) := by
  have hl := lv_entry (As.map (mv base b)) (n := n) (by rw [mSp_len]; exact hn)
  refine ⟨hl.1, ?_, hl.2.1, fun i v hi => ?_⟩
  · unfold mEnt
    simp
    omega
  · have h1 : (mSp As)[i]? = some (some v) := by
      unfold mEnt at hi
      by_cases q : i < (mSp As).length
      · rw [List.getElem?_append_left q] at hi
        exact hi
      · rw [List.getElem?_append_right (by omega)] at hi
        have := List.mem_of_getElem? hi
        have := List.eq_of_mem_replicate this
        cases this
    have := hl.2.2 _ (mSp_args (base := base) (b := b) As 0 i v h1)
    simpa using this
end MLS
