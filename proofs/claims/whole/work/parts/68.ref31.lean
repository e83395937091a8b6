/-! the reference: reads -/
def CpK (s s1 : rS) (b n : Nat) (us : List Nat) : Prop := s1.1 = s.1 ∧ s1.2.1 = s.2.1 ∧ (∀ f, f ≠ 59 → s1.2.2 f = s.2.2 f) ∧ ∀ j, s1.2.2 59 j = if b ≤ j ∧ j < b + n then us.getD (j - b) 0 else s.2.2 59 j
theorem CpK.z {s : rS} {b : Nat} {us : List Nat} : CpK s s b 0 us := ⟨rfl, rfl, fun _ _ => rfl, fun j => by rw [if_neg (by omega)]⟩
theorem CpK.s1 {s s1 : rS} {b i : Nat} {us : List Nat} (h : CpK s s1 b i us) : CpK s (stA 59 (b + i) (us.getD i 0) s1) b (i + 1) us := by
  refine ⟨h.1, h.2.1, fun f hf => by rw [gAf hf]; exact h.2.2.1 f hf, fun j => ?_⟩
  by_cases e : j = b + i
  · subst e
    rw [gA_eq, if_pos (by omega), Nat.add_sub_cancel_left]
  · rw [gA_nj e rfl, h.2.2.2 j]
    by_cases h3 : b ≤ j ∧ j < b + i
    · rw [if_pos h3, if_pos (by omega)]
    · rw [if_neg h3, if_neg (by omega)]
theorem Seg_app2 {f : Nat → Nat} {b : Nat} {l us : List Nat} (h1 : ∀ j, j < l.length → f (b + j) = l.getD j 0) (h2 : ∀ j, j < us.length → f (b + l.length + j) = us.getD j 0) : Seg f b (l ++ us) := by
  intro j hj
  rw [List.length_append] at hj
  by_cases h : j < l.length
  · rw [h1 j h, List.getD_eq_getElem?_getD, List.getD_eq_getElem?_getD, List.getElem?_append_left h]
  · have := h2 (j - l.length) (by omega)
    rw [show b + l.length + (j - l.length) = b + j by omega] at this
    rw [this, List.getD_eq_getElem?_getD, List.getD_eq_getElem?_getD, List.getElem?_append_right (by omega)]
theorem RInv.rds {s s1 s2 s3 : rS} {A : Ab} {D st pn : Nat} {ks us : List Nat} {m : Mc} (hI : RInv s A) (hB : McB A.mcs) (hD : D < 4) (hm : A.mcs D = some m) (hK : Keep s s1) (h22 : s1.1 22 = s.1 22) (hk8 : ks.length ≤ 8) (hC : CpK s1 s2 (8 * D) ks.length ks) (hF : CpF (stA 58 D ks.length s2) s3 (1200 * D + m.2.2.2.2.2.2.2.2.length) us.length us) (hq : m.2.2.2.2.2.2.2.2.length + us.length ≤ 1200) : RInv (stK D st pn (m.2.2.2.2.2.2.2.2.length + us.length) s3) (A.wMcs (setM A.mcs D (m.1, m.2.1, m.2.2.1, st, pn, ks, m.2.2.2.2.2.2.1, m.2.2.2.2.2.2.2.1, m.2.2.2.2.2.2.2.2 ++ us))) := by
  obtain ⟨c1, c2, c3, c4⟩ := hC
  obtain ⟨f1, f2, f3, f4⟩ := hF
  obtain ⟨a1, a2, a3, a4, a5, a6, a7, a8, a9, a10, a11, a12⟩ := (hI.2.2.2.2.2.2.1 D hD).2 m hm
  have n : ∀ f, rPers f = true → f ≠ 56 → f ≠ 57 → f ≠ 58 → f ≠ 59 → f ≠ 62 → f ≠ 63 → (stK D st pn (m.2.2.2.2.2.2.2.2.length + us.length) s3).2.2 f = s.2.2 f := fun f hp h1 h2 h3 h4 h5 h6 => by
    rw [stK, gAf h2, gAf h1, gAf h5, f3 f h6, gAf h3, c3 f h4, (hK f hp).2]
  have n1 : ∀ c, rPers c = true → (stK D st pn (m.2.2.2.2.2.2.2.2.length + us.length) s3).1 c = s.1 c := fun c hc => by
    show s3.1 c = s.1 c
    rw [f1]
    show s2.1 c = s.1 c
    rw [c1, (hK c hc).1]
  have e58 : ∀ i, s3.2.2 58 i = if i = D then ks.length else s.2.2 58 i := fun i => by
    rw [f3 58 (by decide)]
    by_cases e : i = D
    · subst e; rw [gA_eq, if_pos rfl]
    · rw [gA_nj e rfl, c3 58 (by decide), (hK 58 rfl).2, if_neg e]
  have e59 : ∀ j, s3.2.2 59 j = if 8 * D ≤ j ∧ j < 8 * D + ks.length then ks.getD (j - 8 * D) 0 else s.2.2 59 j := fun j => by
    rw [f3 59 (by decide), gAf (by decide), c4 j, (hK 59 rfl).2]
  have e63 : ∀ j, s3.2.2 63 j = if 1200 * D + m.2.2.2.2.2.2.2.2.length ≤ j ∧ j < 1200 * D + m.2.2.2.2.2.2.2.2.length + us.length then us.getD (j - (1200 * D + m.2.2.2.2.2.2.2.2.length)) 0 else s.2.2 63 j := fun j => by
    rw [f4 j, gAf (by decide), c3 63 (by decide), (hK 63 rfl).2]
  have h := hI.mc (s' := stK D st pn (m.2.2.2.2.2.2.2.2.length + us.length) s3) (d := D) (m := (m.1, m.2.1, m.2.2.1, st, pn, ks, m.2.2.2.2.2.2.1, m.2.2.2.2.2.2.2.1, m.2.2.2.2.2.2.2.2 ++ us)) hB (fun c hc hr => ⟨n1 c hc, n c hc (by omega) (by omega) (by omega) (by omega) (by omega) (by omega)⟩)
    ⟨by rw [n 52 rfl (by decide) (by decide) (by decide) (by decide) (by decide) (by decide)]; exact a1, by rw [n 53 rfl (by decide) (by decide) (by decide) (by decide) (by decide) (by decide)]; exact a2, by rw [n 54 rfl (by decide) (by decide) (by decide) (by decide) (by decide) (by decide)]; exact a3, by rw [n 55 rfl (by decide) (by decide) (by decide) (by decide) (by decide) (by decide)]; exact a4, by rw [stK]; repeat (first | with_reducible exact gA_eq _ _ _ _ | (with_reducible apply gA_ne; decide) | with_reducible apply gA_I | with_reducible apply gA_O | (with_reducible apply gA_nj; omega) | with_reducible rfl | exact gA_eq _ _ _ _), by rw [stK]; repeat (first | with_reducible exact gA_eq _ _ _ _ | (with_reducible apply gA_ne; decide) | with_reducible apply gA_I | with_reducible apply gA_O | (with_reducible apply gA_nj; omega) | with_reducible rfl | exact gA_eq _ _ _ _), ?_, fun j hj => ?_, by rw [n 60 rfl (by decide) (by decide) (by decide) (by decide) (by decide) (by decide)]; exact a9, by rw [n 61 rfl (by decide) (by decide) (by decide) (by decide) (by decide) (by decide)]; exact a10, ?_, ?_⟩
    (fun i hi hd => ⟨by rw [n 52 rfl (by decide) (by decide) (by decide) (by decide) (by decide) (by decide)], by rw [n 53 rfl (by decide) (by decide) (by decide) (by decide) (by decide) (by decide)], by rw [n 54 rfl (by decide) (by decide) (by decide) (by decide) (by decide) (by decide)], by rw [n 55 rfl (by decide) (by decide) (by decide) (by decide) (by decide) (by decide)], ?_, ?_, ?_, by rw [n 60 rfl (by decide) (by decide) (by decide) (by decide) (by decide) (by decide)], by rw [n 61 rfl (by decide) (by decide) (by decide) (by decide) (by decide) (by decide)], ?_, fun j hj => ?_, fun j hj => ?_⟩)
  · rw [show (stK D st pn (m.2.2.2.2.2.2.2.2.length + us.length) s3).1 22 = A.plc from by show s3.1 22 = A.plc; rw [f1]; show s2.1 22 = A.plc; rw [c1, h22]; exact hI.2.2.2.2.2.2.2.1, wPlc_id] at h
    exact h
  · show s3.2.2 58 D = _
    rw [e58, if_pos rfl]
  · show s3.2.2 59 _ = _
    have hj' : j < ks.length := hj
    rw [e59, if_pos (by omega), Nat.add_sub_cancel_left]
  · show (stA 62 D _ s3).2.2 62 D = _
    rw [gA_eq]
    exact (List.length_append).symm
  · show Seg (s3.2.2 63) (1200 * D) (m.2.2.2.2.2.2.2.2 ++ us)
    refine Seg_app2 (fun j hj => ?_) (fun j hj => ?_)
    · rw [e63, if_neg (by omega)]; exact a12 j hj
    · rw [e63, if_pos (by omega), Nat.add_sub_cancel_left]
  · rw [stK, gAf (by decide), gA_nj hd rfl, gAf (by decide), f3 56 (by decide), gAf (by decide), c3 56 (by decide), (hK 56 rfl).2]
  · rw [stK, gA_nj hd rfl, gAf (by decide), gAf (by decide), f3 57 (by decide), gAf (by decide), c3 57 (by decide), (hK 57 rfl).2]
  · show s3.2.2 58 i = _
    rw [e58, if_neg hd]
  · show (stA 62 D _ s3).2.2 62 i = _
    rw [gA_nj hd rfl, f3 62 (by decide), gAf (by decide), c3 62 (by decide), (hK 62 rfl).2]
  · show s3.2.2 59 _ = _
    rw [e59, if_neg (by omega)]
  · show s3.2.2 63 _ = _
    rw [e63, if_neg (by omega)]
