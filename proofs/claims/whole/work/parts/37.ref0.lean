/-! the reference's store: its object at r, its arrays behind it, by the numbers of its fields -/
/-- whole numbers by field; the field of the array that `out` is (0: null); contents by field -/
def b2 (b : Bool) : Nat := if b = true then 1 else 0
theorem b2_I (b : Bool) : nI (b2 b) = bI b := by cases b <;> rfl
theorem nI_01 {x : Nat} (hx : x < 2) : nI x = 0 ∨ nI x = 1 := by
  have : x = 0 ∨ x = 1 := by omega
  rcases this with rfl | rfl
  · exact Or.inl (Eq.refl _)
  · exact Or.inr (Eq.refl _)
theorem b2_lt (b : Bool) : b2 b < 2 := by cases b <;> decide
abbrev rS : Type := (Nat → Nat) × Nat × (Nat → Nat → Nat)
def rTab : List (Option (Nat × Nat × Nat)) := [none, some (1, 0, 11), some (2, 1, 11), some (3, 0, 11), some (4, 0, 11), some (5, 0, 1100), some (6, 0, 1100), some (7, 0, 1100), some (8, 0, 1100), some (9, 1, 1100), some (10, 0, 110), some (11, 0, 110), some (12, 0, 110), some (13, 1, 110), none, some (14, 0, 1000), none, some (15, 0, 1000), none, none, some (16, 0, 6000), some (17, 0, 2), none, some (18, 0, 3), none, none, some (19, 0, 40), some (20, 0, 40), some (21, 0, 160), some (22, 1, 4), some (23, 0, 3), none, none, some (24, 0, 4), none, none, none, none, none, none, none, none, none, some (25, 0, 4000), some (26, 0, 4000), some (27, 0, 6400), some (28, 0, 8), none, none, some (29, 0, 1000), some (30, 0, 40), some (31, 0, 40), some (32, 1, 4), some (33, 0, 4), some (34, 1, 4), some (35, 0, 4), some (36, 0, 4), some (37, 0, 4), some (38, 0, 4), some (39, 0, 32), some (40, 0, 4), some (41, 0, 4), some (42, 0, 4), some (43, 0, 4800), some (44, 0, 8), some (45, 0, 1200), some (46, 0, 64), none, none]
def rArr (f : Nat) : Option (Nat × Nat × Nat) := (rTab[f]?).join
def rInv : Nat → Nat := fun k => [0, 1, 2, 3, 4, 5, 6, 7, 8, 9, 10, 11, 12, 13, 15, 17, 20, 21, 23, 26, 27, 28, 29, 30, 33, 43, 44, 45, 46, 49, 50, 51, 52, 53, 54, 55, 56, 57, 58, 59, 60, 61, 62, 63, 64, 65, 66].getD k 0
def rOk (f : Nat) : Bool := match rArr f with
  | none => true
  | some (k, t, n) => decide (1 ≤ k) && decide (k < 47) && decide (rInv k = f) && decide (n < 2 ^ 31) && decide (f ≠ 36) && (decide (t = 0) || decide (t = 1))
theorem rOk_all : ∀ f, f < 69 → rOk f = true := by decide
theorem rArr_ok {f k t n : Nat} (h : rArr f = some (k, t, n)) : 1 ≤ k ∧ k < 47 ∧ rInv k = f ∧ n < 2 ^ 31 ∧ f < 69 ∧ f ≠ 36 := by
  have hf : f < 69 := by
    refine Decidable.byContradiction fun hn => ?_
    rw [rArr, List.getElem?_eq_none (show rTab.length ≤ f from by simp only [rTab, List.length]; omega)] at h
    cases h
  have h2 := rOk_all f hf
  rw [rOk, h] at h2
  simp only [Bool.and_eq_true, decide_eq_true_eq] at h2
  exact ⟨h2.1.1.1.1.1, h2.1.1.1.1.2, h2.1.1.1.2, h2.1.1.2, hf, h2.1.2⟩
def rO (r o : Nat) : Value := match rArr o with
  | some (k, _, _) => .ref (r + k)
  | none => .null
def rFv (r : Nat) (s : rS) (c : Nat) : Value := if c = 36 then rO r s.2.1 else match rArr c with
  | some (k, _, _) => .ref (r + k)
  | none => .int (nI (s.1 c))
def rFs (r : Nat) (s : rS) : List Value := (List.range 69).map (rFv r s)
def stI (c x : Nat) (s : rS) : rS := (updN s.1 c x, s.2.1, s.2.2)
def stO (f : Nat) (s : rS) : rS := (s.1, f, s.2.2)
def stA (f j x : Nat) (s : rS) : rS := (s.1, s.2.1, fun f' => if f' = f then updN (s.2.2 f) j x else s.2.2 f')
def Rf (r : Nat) (h0 : mH) (s : rS) (h : mH) : Prop := h.2 r = .inr (.inr (12, rFs r s)) ∧ (∀ f k t n, rArr f = some (k, t, n) → h.2 (r + k) = .inl (t, n, fun j => nI (s.2.2 f j))) ∧ Fr r (r + 47) h0 h
theorem gI_eq (c x : Nat) (s : rS) : (stI c x s).1 c = x := by simp [stI, updN]
theorem gI_ne {c c' x v : Nat} {s : rS} (h : c ≠ c') (hv : s.1 c = v) : (stI c' x s).1 c = v := by simp [stI, updN, h, hv]
theorem gI_A {c f j x v : Nat} {s : rS} (hv : s.1 c = v) : (stA f j x s).1 c = v := hv
theorem gI_O {c f v : Nat} {s : rS} (hv : s.1 c = v) : (stO f s).1 c = v := hv
theorem gO_I {c x v : Nat} {s : rS} (hv : s.2.1 = v) : (stI c x s).2.1 = v := hv
theorem gO_A {f j x v : Nat} {s : rS} (hv : s.2.1 = v) : (stA f j x s).2.1 = v := hv
theorem gO_eq (f : Nat) (s : rS) : (stO f s).2.1 = f := rfl
theorem gA_I {f j c x v : Nat} {s : rS} (hv : s.2.2 f j = v) : (stI c x s).2.2 f j = v := hv
theorem gA_O {f j f' v : Nat} {s : rS} (hv : s.2.2 f j = v) : (stO f' s).2.2 f j = v := hv
theorem gA_eq (f j x : Nat) (s : rS) : (stA f j x s).2.2 f j = x := by simp [stA, updN]
theorem gA_ne {f j f' j' x v : Nat} {s : rS} (h : f ≠ f') (hv : s.2.2 f j = v) : (stA f' j' x s).2.2 f j = v := by simp [stA, h, hv]
theorem gA_nj {f j j' x v : Nat} {s : rS} (h : j ≠ j') (hv : s.2.2 f j = v) : (stA f j' x s).2.2 f j = v := by simp [stA, updN, h, hv]
theorem map_set9 (g : Nat → Value) (n c : Nat) (v : Value) : ((List.range n).map g).set c v = (List.range n).map (fun j => if j = c then v else g j) := by
  refine List.ext_getElem? fun j => ?_
  simp only [List.getElem?_set, List.getElem?_map, List.length_map, List.length_range]
  by_cases hj : c = j
  · subst hj
    by_cases hc : c < n
    · simp [hc]
    · simp [hc]
  · rw [if_neg hj]
    by_cases hc : j < n
    · simp [hc, Ne.symm hj]
    · simp [hc]
theorem rFs_at {r c : Nat} {s : rS} (hc : c < 69) : (rFs r s)[c]? = some (rFv r s c) := by
  simp [rFs, hc]
theorem rf_pi {r c x : Nat} {h0 h : mH} {s : rS} (hR : Rf r h0 s h) (hc : c < 69) (h36 : c ≠ 36) (ha : rArr c = none) : Rf r h0 (stI c x s) (mSet h r (.inr (.inr (12, (rFs r s).set c (.int (nI x)))))) := by
  refine ⟨?_, fun f k t n hf => ?_, hR.2.2.set (Nat.le_refl _) (by omega)⟩
  · rw [mg_eq, rFs, map_set9, rFs]
    congr 4
    funext j
    by_cases hj : j = c
    · subst hj
      rw [if_pos rfl, rFv, if_neg h36, ha]
      simp [stI, updN]
    · rw [if_neg hj]
      simp only [rFv, stI, updN, if_neg hj]
  · have := rArr_ok hf
    exact mg_ne (by omega) (hR.2.1 f k t n hf)
theorem rf_po {r f k t n : Nat} {h0 h : mH} {s : rS} (hR : Rf r h0 s h) (hf : rArr f = some (k, t, n)) : Rf r h0 (stO f s) (mSet h r (.inr (.inr (12, (rFs r s).set 36 (.ref (r + k)))))) := by
  refine ⟨?_, fun f k t n hf => ?_, hR.2.2.set (Nat.le_refl _) (by omega)⟩
  · rw [mg_eq, rFs, map_set9, rFs]
    congr 4
    funext j
    by_cases hj : j = 36
    · subst hj
      rw [if_pos rfl, rFv, if_pos rfl, rO, stO, hf]
    · rw [if_neg hj]
      simp only [rFv, stO, if_neg hj]
  · have := rArr_ok hf
    exact mg_ne (by omega) (hR.2.1 f k t n hf)
theorem rf_pa {r f k t n j x : Nat} {h0 h : mH} {s : rS} (hR : Rf r h0 s h) (hf : rArr f = some (k, t, n)) : Rf r h0 (stA f j x s) (mSet h (r + k) (.inl (t, n, upd (fun j => nI (s.2.2 f j)) j (nI x)))) := by
  have h1 := rArr_ok hf
  refine ⟨?_, fun f' k' t' n' hf' => ?_, hR.2.2.set (by omega) (by omega)⟩
  · rw [mg_ne (show r ≠ r + k by omega) hR.1]
    rfl
  · have h2 := rArr_ok hf'
    by_cases hk : k' = k
    · subst hk
      obtain rfl : f' = f := by rw [← h2.2.2.1, ← h1.2.2.1]
      rw [hf] at hf'
      cases hf'
      rw [mg_eq]
      congr 3
      funext i
      simp only [stA, upd, updN, if_true]
      split <;> rfl
    · rw [mg_ne (show r + k' ≠ r + k by omega) (hR.2.1 f' k' t' n' hf')]
      have hff : f' ≠ f := fun e => hk (by subst e; rw [hf] at hf'; cases hf'; rfl)
      simp only [stA, if_neg hff]
section YR
variable {d : Nat} {t : mK} {bc bs : Nat} {Q : mP} {pc len c : Nat} {a : Int} {ts : List Nat} {L : mL} {st : List Value} {h h0 : mH} {nc ns r : Nat} {s : rS}
theorem y_gi (pc' v : Nat) (hR : Rf r h0 s h) (hi : mAt t pc = some (len, 30, a, 12, c, ts)) (hp : pc + len = pc') (hc : Nat.blt c 69 = true) (h36 : Nat.beq c 36 = false) (ha : rArr c = none) (hv : s.1 c = v) (k : mZ d t bc bs Q pc' L (.int (nI v) :: st) h nc ns) : mZ d t bc bs Q pc L (.ref r :: st) h nc ns := by
  subst hv
  refine z_get pc' hi hp hR.1 (rFs_at (Nat.blt_eq.mp hc)) ?_
  rw [rFv, if_neg (fun e => by subst e; cases h36), ha]
  exact k
theorem y_ga {kk tt nn : Nat} (pc' : Nat) (hR : Rf r h0 s h) (hi : mAt t pc = some (len, 30, a, 12, c, ts)) (hp : pc + len = pc') (ha : rArr c = some (kk, tt, nn)) (k : mZ d t bc bs Q pc' L (.ref (r + kk) :: st) h nc ns) : mZ d t bc bs Q pc L (.ref r :: st) h nc ns := by
  have h1 := rArr_ok ha
  refine z_get pc' hi hp hR.1 (rFs_at h1.2.2.2.2.1) ?_
  rw [rFv, if_neg h1.2.2.2.2.2, ha]
  exact k
theorem y_go {o kk tt nn : Nat} (pc' : Nat) (hR : Rf r h0 s h) (hi : mAt t pc = some (len, 30, a, 12, 36, ts)) (hp : pc + len = pc') (ho : s.2.1 = o) (ha : rArr o = some (kk, tt, nn)) (k : mZ d t bc bs Q pc' L (.ref (r + kk) :: st) h nc ns) : mZ d t bc bs Q pc L (.ref r :: st) h nc ns := by
  subst ho
  refine z_get pc' hi hp hR.1 (rFs_at (by decide)) ?_
  rw [rFv, if_pos rfl, rO, ha]
  exact k
theorem y_pi {x : Nat} (pc' : Nat) (hR : Rf r h0 s h) (hi : mAt t pc = some (len, 31, a, 12, c, ts)) (hp : pc + len = pc') (hc : Nat.blt c 69 = true) (h36 : Nat.beq c 36 = false) (ha : rArr c = none) (hf : mFit 12 c (.int (nI x)) = true) (k : ∀ h', Rf r h0 (stI c x s) h' → mZ d t bc bs Q pc' L st h' nc ns) : mZ d t bc bs Q pc L (.int (nI x) :: .ref r :: st) h nc ns := by
  refine z_put pc' hi hp hR.1 ?_ hf (k _ (rf_pi hR (Nat.blt_eq.mp hc) (fun e => by subst e; cases h36) ha))
  simp only [rFs, List.length_map, List.length_range]
  exact hc
theorem y_po {f kk tt nn : Nat} (pc' : Nat) (hR : Rf r h0 s h) (hi : mAt t pc = some (len, 31, a, 12, 36, ts)) (hp : pc + len = pc') (ha : rArr f = some (kk, tt, nn)) (k : ∀ h', Rf r h0 (stO f s) h' → mZ d t bc bs Q pc' L st h' nc ns) : mZ d t bc bs Q pc L (.ref (r + kk) :: .ref r :: st) h nc ns := by
  refine z_put pc' hi hp hR.1 ?_ (mFa rfl) (k _ (rf_po hR ha))
  simp only [rFs, List.length_map, List.length_range]
  rfl
theorem y_al {f kk nn j b : Nat} {i : Int32} (pc' v : Nat) (hR : Rf r h0 s h) (hi : mAt t pc = some (len, 33, a, b, c, ts)) (hp : pc + len = pc') (ha : rArr f = some (kk, 0, nn)) (hij : i = nI j) (hj : j < nn) (hv : s.2.2 f j = v) (k : mZ d t bc bs Q pc' L (.int (nI v) :: st) h nc ns) : mZ d t bc bs Q pc L (.int i :: .ref (r + kk) :: st) h nc ns := by
  subst hv
  exact z_ald pc' hi hp (hR.2.1 _ _ _ _ ha) hij hj (rArr_ok ha).2.2.2.1 k
theorem y_bl {f kk nn j b : Nat} {i : Int32} (pc' v : Nat) (hR : Rf r h0 s h) (hi : mAt t pc = some (len, 34, a, b, c, ts)) (hp : pc + len = pc') (ha : rArr f = some (kk, 1, nn)) (hij : i = nI j) (hj : j < nn) (hv : s.2.2 f j = v) (k : mZ d t bc bs Q pc' L (.int (nI v) :: st) h nc ns) : mZ d t bc bs Q pc L (.int i :: .ref (r + kk) :: st) h nc ns := by
  subst hv
  exact z_bld pc' hi hp (hR.2.1 _ _ _ _ ha) hij hj (rArr_ok ha).2.2.2.1 k
theorem y_as {f kk nn j x b : Nat} {i : Int32} (pc' : Nat) (hR : Rf r h0 s h) (hi : mAt t pc = some (len, 36, a, b, c, ts)) (hp : pc + len = pc') (ha : rArr f = some (kk, 0, nn)) (hij : i = nI j) (hj : j < nn) (k : ∀ h', Rf r h0 (stA f j x s) h' → mZ d t bc bs Q pc' L st h' nc ns) : mZ d t bc bs Q pc L (.int (nI x) :: .int i :: .ref (r + kk) :: st) h nc ns :=
  z_ast pc' hi hp (hR.2.1 _ _ _ _ ha) hij hj (rArr_ok ha).2.2.2.1 (k _ (rf_pa hR ha))
theorem y_bs {f kk nn j x b : Nat} {i : Int32} (pc' : Nat) (hR : Rf r h0 s h) (hi : mAt t pc = some (len, 37, a, b, c, ts)) (hp : pc + len = pc') (ha : rArr f = some (kk, 1, nn)) (hij : i = nI j) (hj : j < nn) (hx : x < 2) (k : ∀ h', Rf r h0 (stA f j x s) h' → mZ d t bc bs Q pc' L st h' nc ns) : mZ d t bc bs Q pc L (.int (nI x) :: .int i :: .ref (r + kk) :: st) h nc ns :=
  z_bst (v := nI x) pc' hi hp (hR.2.1 _ _ _ _ ha) hij hj (rArr_ok ha).2.2.2.1 (nI_01 hx) (k _ (rf_pa hR ha))
theorem y_bb {f kk nn j b : Nat} {i : Int32} (pc' : Nat) (v : Bool) (hR : Rf r h0 s h) (hi : mAt t pc = some (len, 34, a, b, c, ts)) (hp : pc + len = pc') (ha : rArr f = some (kk, 1, nn)) (hij : i = nI j) (hj : j < nn) (hv : s.2.2 f j = b2 v) (k : mZ d t bc bs Q pc' L (.int (bI v) :: st) h nc ns) : mZ d t bc bs Q pc L (.int i :: .ref (r + kk) :: st) h nc ns := by
  refine y_bl (f := f) pc' _ hR hi hp ha hij hj hv ?_
  rw [b2_I]
  exact k
theorem y_sb {f kk nn j b : Nat} {v : Bool} {i : Int32} (pc' : Nat) (hR : Rf r h0 s h) (hi : mAt t pc = some (len, 37, a, b, c, ts)) (hp : pc + len = pc') (ha : rArr f = some (kk, 1, nn)) (hij : i = nI j) (hj : j < nn) (k : ∀ h', Rf r h0 (stA f j (b2 v) s) h' → mZ d t bc bs Q pc' L st h' nc ns) : mZ d t bc bs Q pc L (.int (bI v) :: .int i :: .ref (r + kk) :: st) h nc ns := by
  rw [← b2_I]
  exact y_bs (f := f) pc' hR hi hp ha hij hj (by cases v <;> decide) k
end YR
