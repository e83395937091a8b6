/-! the reference: reads, refused -/
theorem RInv.rdr {s s1 s3 : rS} {A : Ab} {D st a : Nat} {us : List Nat} {m : Mc} (hI : RInv s A) (hB : McB A.mcs) (hD : D < 4) (hm : A.mcs D = some m) (hK : Keep s s1) (hF : CpF s1 s3 (1200 * D + m.2.2.2.2.2.2.2.2.length) us.length us) (hq : m.2.2.2.2.2.2.2.2.length + us.length ≤ 1200) : RInv (stR D st (m.2.2.2.2.2.2.2.2.length + us.length) a s3) (((A.wPlc a).wMcs (setM A.mcs D (m.1, m.2.1, m.2.2.1, st, 4, [], m.2.2.2.2.2.2.1, 2, m.2.2.2.2.2.2.2.2 ++ us))).tell) := by
  obtain ⟨f1, f2, f3, f4⟩ := hF
  obtain ⟨a1, a2, a3, a4, a5, a6, a7, a8, a9, a10, a11, a12⟩ := (hI.2.2.2.2.2.2.1 D hD).2 m hm
  have n : ∀ f, rPers f = true → f ≠ 56 → f ≠ 57 → f ≠ 58 → f ≠ 61 → f ≠ 62 → f ≠ 63 → (stA 61 D 2 (stA 58 D 0 (stI 22 a (stK D st 4 (m.2.2.2.2.2.2.2.2.length + us.length) s3)))).2.2 f = s.2.2 f := fun f hp h1 h2 h3 h4 h5 h6 => by
    rw [gAf h4, gAf h3]
    show (stK D st 4 (m.2.2.2.2.2.2.2.2.length + us.length) s3).2.2 f = s.2.2 f
    rw [stK, gAf h2, gAf h1, gAf h5, f3 f h6, (hK f hp).2]
  have n1 : ∀ c, rPers c = true → (stA 61 D 2 (stA 58 D 0 (stI 22 a (stK D st 4 (m.2.2.2.2.2.2.2.2.length + us.length) s3)))).1 c = s.1 c := fun c hc => by
    show (stI 22 a s3).1 c = s.1 c
    exact gI_ne (fun e => by subst e; exact absurd hc (by decide)) (by rw [f1, (hK c hc).1])
  have e63 : ∀ j, s3.2.2 63 j = if 1200 * D + m.2.2.2.2.2.2.2.2.length ≤ j ∧ j < 1200 * D + m.2.2.2.2.2.2.2.2.length + us.length then us.getD (j - (1200 * D + m.2.2.2.2.2.2.2.2.length)) 0 else s.2.2 63 j := fun j => by
    rw [f4 j, (hK 63 rfl).2]
  have h := hI.mc (s' := (stA 61 D 2 (stA 58 D 0 (stI 22 a (stK D st 4 (m.2.2.2.2.2.2.2.2.length + us.length) s3))))) (d := D) (m := (m.1, m.2.1, m.2.2.1, st, 4, [], m.2.2.2.2.2.2.1, 2, m.2.2.2.2.2.2.2.2 ++ us)) hB (fun c hc hr => ⟨n1 c hc, n c hc (by omega) (by omega) (by omega) (by omega) (by omega) (by omega)⟩)
    ⟨by rw [n 52 rfl (by decide) (by decide) (by decide) (by decide) (by decide) (by decide)]; exact a1, by rw [n 53 rfl (by decide) (by decide) (by decide) (by decide) (by decide) (by decide)]; exact a2, by rw [n 54 rfl (by decide) (by decide) (by decide) (by decide) (by decide) (by decide)]; exact a3, by rw [n 55 rfl (by decide) (by decide) (by decide) (by decide) (by decide) (by decide)]; exact a4, ?_, ?_, ?_, fun j hj => absurd hj (Nat.not_lt_zero j), by rw [n 60 rfl (by decide) (by decide) (by decide) (by decide) (by decide) (by decide)]; exact a9, gA_eq _ _ _ _, ?_, ?_⟩
    (fun i hi hd => ⟨by rw [n 52 rfl (by decide) (by decide) (by decide) (by decide) (by decide) (by decide)], by rw [n 53 rfl (by decide) (by decide) (by decide) (by decide) (by decide) (by decide)], by rw [n 54 rfl (by decide) (by decide) (by decide) (by decide) (by decide) (by decide)], by rw [n 55 rfl (by decide) (by decide) (by decide) (by decide) (by decide) (by decide)], ?_, ?_, ?_, by rw [n 60 rfl (by decide) (by decide) (by decide) (by decide) (by decide) (by decide)], ?_, ?_, fun j hj => by rw [n 59 rfl (by decide) (by decide) (by decide) (by decide) (by decide) (by decide)], fun j hj => ?_⟩)
  · exact h.tell
  · show (stK D st 4 (m.2.2.2.2.2.2.2.2.length + us.length) s3).2.2 56 D = _
    rw [stK, gAf (by decide)]
    exact gA_eq _ _ _ _
  · show (stK D st 4 (m.2.2.2.2.2.2.2.2.length + us.length) s3).2.2 57 D = _
    rw [stK]
    exact gA_eq _ _ _ _
  · rw [gAf (by decide)]
    exact gA_eq _ _ _ _
  · show (stA 62 D _ s3).2.2 62 D = _
    rw [gA_eq]
    exact (List.length_append).symm
  · show Seg (s3.2.2 63) (1200 * D) (m.2.2.2.2.2.2.2.2 ++ us)
    refine Seg_app2 (fun j hj => ?_) (fun j hj => ?_)
    · rw [e63, if_neg (by omega)]; exact a12 j hj
    · rw [e63, if_pos (by omega), Nat.add_sub_cancel_left]
  · rw [gAf (by decide), gAf (by decide)]
    show (stK D st 4 (m.2.2.2.2.2.2.2.2.length + us.length) s3).2.2 56 i = _
    rw [stK, gAf (by decide), gA_nj hd rfl, gAf (by decide), f3 56 (by decide), (hK 56 rfl).2]
  · rw [gAf (by decide), gAf (by decide)]
    show (stK D st 4 (m.2.2.2.2.2.2.2.2.length + us.length) s3).2.2 57 i = _
    rw [stK, gA_nj hd rfl, gAf (by decide), gAf (by decide), f3 57 (by decide), (hK 57 rfl).2]
  · rw [gAf (by decide), gA_nj hd rfl]
    show s3.2.2 58 i = _
    rw [f3 58 (by decide), (hK 58 rfl).2]
  · rw [gA_nj hd rfl]
    show s3.2.2 61 i = _
    rw [f3 61 (by decide), (hK 61 rfl).2]
  · show (stA 62 D _ s3).2.2 62 i = _
    rw [gA_nj hd rfl, f3 62 (by decide), (hK 62 rfl).2]
  · show s3.2.2 63 _ = _
    rw [e63, if_neg (by have := hB D m hm; omega)]
