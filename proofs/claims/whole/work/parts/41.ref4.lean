/-! the reference: changes of tables in its store -/
theorem getD_set9 {α : Type} (l : List α) {P : Nat} (p : Nat) (x d : α) (hP : P < l.length) : (l.set P x).getD p d = if p = P then x else l.getD p d := by
  simp only [List.getD_eq_getElem?_getD, List.getElem?_set]
  by_cases h : P = p
  · subst h; simp [hP]
  · rw [if_neg h, if_neg (Ne.symm h)]
theorem getD_app9 {α : Type} (l : List α) (p : Nat) (x d : α) : (l ++ [x]).getD p d = if p < l.length then l.getD p d else if p = l.length then x else d := by
  simp only [List.getD_eq_getElem?_getD]
  by_cases h : p < l.length
  · rw [if_pos h, List.getElem?_append_left h]
  · rw [if_neg h, List.getElem?_append_right (by omega)]
    by_cases h2 : p = l.length
    · subst h2; simp
    · rw [if_neg h2, List.getElem?_eq_none (by simp; omega)]; rfl
theorem getD_era9 {α : Type} (l : List α) {k : Nat} (j : Nat) (d : α) : (l.eraseIdx k).getD j d = if j < k then l.getD j d else l.getD (j + 1) d := by
  simp only [List.getD_eq_getElem?_getD, List.getElem?_eraseIdx]
  split <;> rfl
def SameTb (s s' : rS) (p : Nat) : Prop := s'.2.2 3 p = s.2.2 3 p ∧ s'.2.2 4 p = s.2.2 4 p ∧ (∀ k, k < 100 → s'.2.2 5 (100 * p + k) = s.2.2 5 (100 * p + k) ∧ s'.2.2 6 (100 * p + k) = s.2.2 6 (100 * p + k) ∧ s'.2.2 7 (100 * p + k) = s.2.2 7 (100 * p + k) ∧ s'.2.2 8 (100 * p + k) = s.2.2 8 (100 * p + k) ∧ s'.2.2 9 (100 * p + k) = s.2.2 9 (100 * p + k)) ∧ (∀ k, k < 10 → s'.2.2 10 (10 * p + k) = s.2.2 10 (10 * p + k) ∧ s'.2.2 11 (10 * p + k) = s.2.2 11 (10 * p + k) ∧ s'.2.2 12 (10 * p + k) = s.2.2 12 (10 * p + k) ∧ s'.2.2 13 (10 * p + k) = s.2.2 13 (10 * p + k))
theorem SameTb.trans {s s1 s2 : rS} {p : Nat} (a : SameTb s s1 p) (b : SameTb s1 s2 p) : SameTb s s2 p :=
  ⟨b.1.trans a.1, b.2.1.trans a.2.1, fun k hk => ⟨(b.2.2.1 k hk).1.trans (a.2.2.1 k hk).1, (b.2.2.1 k hk).2.1.trans (a.2.2.1 k hk).2.1, (b.2.2.1 k hk).2.2.1.trans (a.2.2.1 k hk).2.2.1, (b.2.2.1 k hk).2.2.2.1.trans (a.2.2.1 k hk).2.2.2.1, (b.2.2.1 k hk).2.2.2.2.trans (a.2.2.1 k hk).2.2.2.2⟩, fun k hk => ⟨(b.2.2.2 k hk).1.trans (a.2.2.2 k hk).1, (b.2.2.2 k hk).2.1.trans (a.2.2.2 k hk).2.1, (b.2.2.2 k hk).2.2.1.trans (a.2.2.2 k hk).2.2.1, (b.2.2.2 k hk).2.2.2.trans (a.2.2.2 k hk).2.2.2⟩⟩
theorem TbR.same {s s' : rS} {p : Nat} {E : List En} {H : List Sh} (h : TbR s p E H) (hs : SameTb s s' p) (hE : E.length ≤ 100) (hH : H.length ≤ 10) : TbR s' p E H := by
  refine ⟨h.1, hs.1.trans h.2.1, hs.2.1.trans h.2.2.1, fun k hk => ?_, fun k hk => ?_⟩
  · have h1 := hs.2.2.1 k (by omega)
    rw [h1.1, h1.2.1, h1.2.2.1, h1.2.2.2.1, h1.2.2.2.2]
    exact h.2.2.2.1 k hk
  · have h1 := hs.2.2.2 k (by omega)
    rw [h1.1, h1.2.1, h1.2.2.1, h1.2.2.2]
    exact h.2.2.2.2 k hk
def stE (k : Nat) (e : En) (s : rS) : rS := stA 9 k (b2 e.2.2.2.2) (stA 8 k e.2.2.2.1 (stA 7 k e.2.1 (stA 6 k e.2.2.1 (stA 5 k e.1 s))))
def stS (k : Nat) (e : Sh) (s : rS) : rS := stA 13 k (b2 e.2.2.2) (stA 12 k e.2.2.1 (stA 11 k e.2.1 (stA 10 k e.1 s)))
theorem stE_at (k j : Nat) (e : En) (s : rS) : (stE k e s).2.2 5 j = (if j = k then e.1 else s.2.2 5 j) ∧ (stE k e s).2.2 6 j = (if j = k then e.2.2.1 else s.2.2 6 j) ∧ (stE k e s).2.2 7 j = (if j = k then e.2.1 else s.2.2 7 j) ∧ (stE k e s).2.2 8 j = (if j = k then e.2.2.2.1 else s.2.2 8 j) ∧ (stE k e s).2.2 9 j = (if j = k then b2 e.2.2.2.2 else s.2.2 9 j) := by
  simp [stE, stA, updN]
theorem stS_at (k j : Nat) (e : Sh) (s : rS) : (stS k e s).2.2 10 j = (if j = k then e.1 else s.2.2 10 j) ∧ (stS k e s).2.2 11 j = (if j = k then e.2.1 else s.2.2 11 j) ∧ (stS k e s).2.2 12 j = (if j = k then e.2.2.1 else s.2.2 12 j) ∧ (stS k e s).2.2 13 j = (if j = k then b2 e.2.2.2 else s.2.2 13 j) := by
  simp [stS, stA, updN]
theorem TbR.setE {s : rS} {p k : Nat} {E : List En} {H : List Sh} {e : En} (h : TbR s p E H) (hk : k < E.length) : TbR (stE (100 * p + k) e s) p (E.set k e) H := by
  refine ⟨h.1, by rw [List.length_set]; exact h.2.1, h.2.2.1, fun j hj => ?_, fun j hj => h.2.2.2.2 j hj⟩
  rw [List.length_set] at hj
  have h1 := stE_at (100 * p + k) (100 * p + j) e s
  rw [h1.1, h1.2.1, h1.2.2.1, h1.2.2.2.1, h1.2.2.2.2, enS, enT, enN, enP, enF, getD_set9 _ _ _ _ hk]
  by_cases hjk : j = k
  · subst hjk; simp
  · simp only [if_neg (show ¬ 100 * p + j = 100 * p + k by omega), if_neg hjk]
    exact h.2.2.2.1 j hj
theorem TbR.addE {s : rS} {p : Nat} {E : List En} {H : List Sh} {e : En} (h : TbR s p E H) : TbR (stA 3 p (E.length + 1) (stE (100 * p + E.length) e s)) p (E ++ [e]) H := by
  refine ⟨h.1, by rw [gA_eq, List.length_append]; rfl, h.2.2.1, fun j hj => ?_, fun j hj => h.2.2.2.2 j hj⟩
  rw [List.length_append, List.length_singleton] at hj
  have h1 := stE_at (100 * p + E.length) (100 * p + j) e s
  show (stE (100 * p + E.length) e s).2.2 5 (100 * p + j) = _ ∧ (stE (100 * p + E.length) e s).2.2 6 (100 * p + j) = _ ∧ (stE (100 * p + E.length) e s).2.2 7 (100 * p + j) = _ ∧ (stE (100 * p + E.length) e s).2.2 8 (100 * p + j) = _ ∧ (stE (100 * p + E.length) e s).2.2 9 (100 * p + j) = _
  rw [h1.1, h1.2.1, h1.2.2.1, h1.2.2.2.1, h1.2.2.2.2, enS, enT, enN, enP, enF, getD_app9]
  by_cases hjk : j = E.length
  · subst hjk; simp
  · simp only [if_neg (show ¬ 100 * p + j = 100 * p + E.length by omega), if_pos (show j < E.length by omega)]
    exact h.2.2.2.1 j (by omega)
theorem TbR.addS {s : rS} {p : Nat} {E : List En} {H : List Sh} {e : Sh} (h : TbR s p E H) : TbR (stA 4 p (H.length + 1) (stS (10 * p + H.length) e s)) p E (H ++ [e]) := by
  refine ⟨h.1, h.2.1, by rw [gA_eq, List.length_append]; rfl, fun j hj => h.2.2.2.1 j hj, fun j hj => ?_⟩
  rw [List.length_append, List.length_singleton] at hj
  have h1 := stS_at (10 * p + H.length) (10 * p + j) e s
  show (stS (10 * p + H.length) e s).2.2 10 (10 * p + j) = _ ∧ (stS (10 * p + H.length) e s).2.2 11 (10 * p + j) = _ ∧ (stS (10 * p + H.length) e s).2.2 12 (10 * p + j) = _ ∧ (stS (10 * p + H.length) e s).2.2 13 (10 * p + j) = _
  rw [h1.1, h1.2.1, h1.2.2.1, h1.2.2.2, shS, shV, shG, shK, getD_app9]
  by_cases hjk : j = H.length
  · subst hjk; simp
  · simp only [if_neg (show ¬ 10 * p + j = 10 * p + H.length by omega), if_pos (show j < H.length by omega)]
    exact h.2.2.2.2 j (by omega)
theorem same_E {s : rS} {p P k : Nat} {e : En} (hp : p ≠ P) (hk : k < 100) : SameTb s (stE (100 * P + k) e s) p := by
  refine ⟨rfl, rfl, fun j hj => ?_, fun j hj => ⟨rfl, rfl, rfl, rfl⟩⟩
  have h1 := stE_at (100 * P + k) (100 * p + j) e s
  rw [h1.1, h1.2.1, h1.2.2.1, h1.2.2.2.1, h1.2.2.2.2, if_neg (by omega), if_neg (by omega), if_neg (by omega), if_neg (by omega), if_neg (by omega)]
  exact ⟨rfl, rfl, rfl, rfl, rfl⟩
theorem same_S {s : rS} {p P k : Nat} {e : Sh} (hp : p ≠ P) (hk : k < 10) : SameTb s (stS (10 * P + k) e s) p := by
  refine ⟨rfl, rfl, fun j hj => ⟨rfl, rfl, rfl, rfl, rfl⟩, fun j hj => ?_⟩
  have h1 := stS_at (10 * P + k) (10 * p + j) e s
  rw [h1.1, h1.2.1, h1.2.2.1, h1.2.2.2, if_neg (by omega), if_neg (by omega), if_neg (by omega), if_neg (by omega)]
  exact ⟨rfl, rfl, rfl, rfl⟩
theorem same_3 {s : rS} {p P x : Nat} (hp : p ≠ P) : SameTb s (stA 3 P x s) p := ⟨gA_nj hp rfl, rfl, fun _ _ => ⟨rfl, rfl, rfl, rfl, rfl⟩, fun _ _ => ⟨rfl, rfl, rfl, rfl⟩⟩
theorem same_4 {s : rS} {p P x : Nat} (hp : p ≠ P) : SameTb s (stA 4 P x s) p := ⟨rfl, gA_nj hp rfl, fun _ _ => ⟨rfl, rfl, rfl, rfl, rfl⟩, fun _ _ => ⟨rfl, rfl, rfl, rfl⟩⟩
def PgB (l : List Pg) : Prop := ∀ p, p < l.length → TbW (pgE l p) (pgH l p)
theorem RPg.upd {s s' : rS} {l : List Pg} {P : Nat} {x : Pg} (h : RPg s l) (hB : PgB l) (hP : P < l.length) (h0 : s'.1 0 = s.1 0) (h1 : s'.2.2 1 P = x.1) (h2 : s'.2.2 2 P = b2 x.2.1) (hT : TbR s' P x.2.2.1 x.2.2.2) (ho : ∀ p, p < l.length → p ≠ P → s'.2.2 1 p = s.2.2 1 p ∧ s'.2.2 2 p = s.2.2 2 p ∧ SameTb s s' p) : RPg s' (l.set P x) := by
  refine ⟨by rw [List.length_set, h0]; exact h.1, by rw [List.length_set]; exact h.2.1, fun p hp => ?_⟩
  rw [List.length_set] at hp
  rw [pgK, pgC, pgE, pgH, getD_set9 _ _ _ _ hP]
  by_cases e : p = P
  · subst e; rw [if_pos rfl]; exact ⟨h1, h2, hT⟩
  · rw [if_neg e]
    have h3 := ho p hp e
    have h4 := h.2.2 p hp
    exact ⟨h3.1.trans h4.1, h3.2.1.trans h4.2.1, h4.2.2.same h3.2.2 (hB p hp).1 (hB p hp).2.1⟩
theorem RPg.add {s s' : rS} {l : List Pg} {x : Pg} (h : RPg s l) (hB : PgB l) (hl : l.length < 10) (h0 : s'.1 0 = l.length + 1) (h1 : s'.2.2 1 l.length = x.1) (h2 : s'.2.2 2 l.length = b2 x.2.1) (hT : TbR s' l.length x.2.2.1 x.2.2.2) (ho : ∀ p, p < l.length → s'.2.2 1 p = s.2.2 1 p ∧ s'.2.2 2 p = s.2.2 2 p ∧ SameTb s s' p) : RPg s' (l ++ [x]) := by
  refine ⟨by rw [List.length_append, h0]; rfl, by rw [List.length_append, List.length_singleton]; omega, fun p hp => ?_⟩
  rw [List.length_append, List.length_singleton] at hp
  rw [pgK, pgC, pgE, pgH, getD_app9]
  by_cases e : p = l.length
  · subst e; rw [if_neg (by omega), if_pos rfl]; exact ⟨h1, h2, hT⟩
  · rw [if_pos (by omega)]
    have h3 := ho p (by omega)
    have h4 := h.2.2 p (by omega)
    exact ⟨h3.1.trans h4.1, h3.2.1.trans h4.2.1, h4.2.2.same h3.2.2 (hB p (by omega)).1 (hB p (by omega)).2.1⟩
theorem RInv.pg {s s' : rS} {A : Ab} {l : List Pg} (h : RInv s A) (h1 : ∀ c, c ≠ 0 → s'.1 c = s.1 c) (h2 : ∀ f, 13 < f → s'.2.2 f = s.2.2 f) (hp : RPg s' l) : RInv s' (A.wPgs l) := by
  obtain ⟨a1, a2, a3, a4, a5, a6, a7, a8, a9, a10, a11⟩ := h
  refine ⟨hp, ?_, ?_, ?_, ?_, ?_, fun d hd => ⟨fun e => ?_, fun m e => ?_⟩, (h1 22 (by decide)).trans a8, ?_, (h1 24 (by decide)).trans a10, (h1 48 (by decide)).trans a11⟩
  · simp only [RBy, h1 14 (by decide), h2 15 (by decide)]; exact a2
  · simp only [RUn, h1 16 (by decide), h2 17 (by decide)]; exact a3
  · simp only [RRe, h1 18 (by decide), h1 19 (by decide), h2 20 (by decide)]; exact a4
  · simp only [RSg, h2 21 (by decide)]; exact a5
  · simp only [RFb, h1 25 (by decide), h2 26 (by decide), h2 27 (by decide), h2 28 (by decide)]; exact a6
  · rw [h2 52 (by decide)]; exact (a7 d hd).1 e
  · have := (a7 d hd).2 m e
    simp only [RM1, h2 52 (by decide), h2 53 (by decide), h2 54 (by decide), h2 55 (by decide), h2 56 (by decide), h2 57 (by decide), h2 58 (by decide), h2 59 (by decide), h2 60 (by decide), h2 61 (by decide), h2 62 (by decide), h2 63 (by decide)]
    exact this
  · simp only [RBk, h2 23 (by decide)]; exact a9
theorem ix_of {x : Int32} {n : Nat} (h : 0 ≤ x.toInt ∧ x.toInt < n) : ∃ j : Nat, j < n ∧ x = nI j ∧ x.toInt = j ∧ x.toInt.toNat = j := ⟨x.toInt.toNat, by omega, nI_toN h.1, by omega, rfl⟩
