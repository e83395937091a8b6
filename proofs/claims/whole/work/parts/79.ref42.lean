/-! the reference: writes, what is kept -/
/-- nothing that outlives a call changed but what machine D keeps -/
def KpM (D : Nat) (s s' : rS) : Prop := (∀ f, rPers f = true → s'.1 f = s.1 f) ∧ (∀ f, rPers f = true → f ≠ 58 → f ≠ 59 → s'.2.2 f = s.2.2 f) ∧ (∀ i, i ≠ D → s'.2.2 58 i = s.2.2 58 i) ∧ ∀ j, j ≠ 8 * D → s'.2.2 59 j = s.2.2 59 j
theorem KpM.of {D : Nat} {s s' : rS} (h : Keep s s') : KpM D s s' := ⟨fun f hf => (h f hf).1, fun f hf _ _ => (h f hf).2, fun i _ => by rw [(h 58 rfl).2], fun j _ => by rw [(h 59 rfl).2]⟩
theorem KpM.k {D : Nat} {s s1 s' : rS} (a : KpM D s s1) (h : Keep s1 s') : KpM D s s' := ⟨fun f hf => (h f hf).1.trans (a.1 f hf), fun f hf h1 h2 => (h f hf).2.trans (a.2.1 f hf h1 h2), fun i hi => by rw [(h 58 rfl).2]; exact a.2.2.1 i hi, fun j hj => by rw [(h 59 rfl).2]; exact a.2.2.2 j hj⟩
theorem KpM.s58 {D x : Nat} {s s1 : rS} (a : KpM D s s1) : KpM D s (stA 58 D x s1) := ⟨a.1, fun f hf h1 h2 => by rw [gAf h1]; exact a.2.1 f hf h1 h2, fun i hi => by rw [gA_nj hi rfl]; exact a.2.2.1 i hi, fun j hj => by rw [gAf (by decide)]; exact a.2.2.2 j hj⟩
theorem KpM.s59 {D x : Nat} {s s1 : rS} (a : KpM D s s1) : KpM D s (stA 59 (8 * D) x s1) := ⟨a.1, fun f hf h1 h2 => by rw [gAf h2]; exact a.2.1 f hf h1 h2, fun i hi => by rw [gAf (by decide)]; exact a.2.2.1 i hi, fun j hj => by rw [gA_nj hj rfl]; exact a.2.2.2 j hj⟩
theorem RInv.wrs {s s2 s3 : rS} {A : Ab} {D st pn : Nat} {ks us : List Nat} {m : Mc} (hI : RInv s A) (hB : McB A.mcs) (hD : D < 4) (hm : A.mcs D = some m) (hK : KpM D s s2) (h22 : s2.1 22 = s.1 22) (h58 : s2.2.2 58 D = ks.length) (h59 : Seg (s2.2.2 59) (8 * D) ks) (hF : CpF s2 s3 (1200 * D + m.2.2.2.2.2.2.2.2.length) us.length us) (hq : m.2.2.2.2.2.2.2.2.length + us.length ≤ 1200) : RInv (stK D st pn (m.2.2.2.2.2.2.2.2.length + us.length) s3) (A.wMcs (setM A.mcs D (m.1, m.2.1, m.2.2.1, st, pn, ks, m.2.2.2.2.2.2.1, m.2.2.2.2.2.2.2.1, m.2.2.2.2.2.2.2.2 ++ us))) := by
  obtain ⟨f1, f2, f3, f4⟩ := hF
  obtain ⟨a1, a2, a3, a4, a5, a6, a7, a8, a9, a10, a11, a12⟩ := (hI.2.2.2.2.2.2.1 D hD).2 m hm
  have n : ∀ f, rPers f = true → f ≠ 56 → f ≠ 57 → f ≠ 58 → f ≠ 59 → f ≠ 62 → f ≠ 63 → (stK D st pn (m.2.2.2.2.2.2.2.2.length + us.length) s3).2.2 f = s.2.2 f := fun f hp h1 h2 h3 h4 h5 h6 => by
    rw [stK, gAf h2, gAf h1, gAf h5, f3 f h6, hK.2.1 f hp h3 h4]
  have n1 : ∀ c, rPers c = true → (stK D st pn (m.2.2.2.2.2.2.2.2.length + us.length) s3).1 c = s.1 c := fun c hc => by
    show s3.1 c = s.1 c
    rw [f1, hK.1 c hc]
  have e58 : ∀ i, s3.2.2 58 i = if i = D then ks.length else s.2.2 58 i := fun i => by
    rw [f3 58 (by decide)]
    by_cases e : i = D
    · subst e; rw [h58, if_pos rfl]
    · rw [hK.2.2.1 i e, if_neg e]
  have e63 : ∀ j, s3.2.2 63 j = if 1200 * D + m.2.2.2.2.2.2.2.2.length ≤ j ∧ j < 1200 * D + m.2.2.2.2.2.2.2.2.length + us.length then us.getD (j - (1200 * D + m.2.2.2.2.2.2.2.2.length)) 0 else s.2.2 63 j := fun j => by
    rw [f4 j, hK.2.1 63 rfl (by decide) (by decide)]
  have h := hI.mc (s' := stK D st pn (m.2.2.2.2.2.2.2.2.length + us.length) s3) (d := D) (m := (m.1, m.2.1, m.2.2.1, st, pn, ks, m.2.2.2.2.2.2.1, m.2.2.2.2.2.2.2.1, m.2.2.2.2.2.2.2.2 ++ us)) hB (fun c hc hr => ⟨n1 c hc, n c hc (by omega) (by omega) (by omega) (by omega) (by omega) (by omega)⟩)
    ⟨by rw [n 52 rfl (by decide) (by decide) (by decide) (by decide) (by decide) (by decide)]; exact a1, by rw [n 53 rfl (by decide) (by decide) (by decide) (by decide) (by decide) (by decide)]; exact a2, by rw [n 54 rfl (by decide) (by decide) (by decide) (by decide) (by decide) (by decide)]; exact a3, by rw [n 55 rfl (by decide) (by decide) (by decide) (by decide) (by decide) (by decide)]; exact a4, by rw [stK]; repeat (first | with_reducible exact gA_eq _ _ _ _ | (with_reducible apply gA_ne; decide) | with_reducible apply gA_I | with_reducible apply gA_O | (with_reducible apply gA_nj; omega) | with_reducible rfl | exact gA_eq _ _ _ _), by rw [stK]; repeat (first | with_reducible exact gA_eq _ _ _ _ | (with_reducible apply gA_ne; decide) | with_reducible apply gA_I | with_reducible apply gA_O | (with_reducible apply gA_nj; omega) | with_reducible rfl | exact gA_eq _ _ _ _), ?_, fun j hj => ?_, by rw [n 60 rfl (by decide) (by decide) (by decide) (by decide) (by decide) (by decide)]; exact a9, by rw [n 61 rfl (by decide) (by decide) (by decide) (by decide) (by decide) (by decide)]; exact a10, ?_, ?_⟩
    (fun i hi hd => ⟨by rw [n 52 rfl (by decide) (by decide) (by decide) (by decide) (by decide) (by decide)], by rw [n 53 rfl (by decide) (by decide) (by decide) (by decide) (by decide) (by decide)], by rw [n 54 rfl (by decide) (by decide) (by decide) (by decide) (by decide) (by decide)], by rw [n 55 rfl (by decide) (by decide) (by decide) (by decide) (by decide) (by decide)], ?_, ?_, ?_, by rw [n 60 rfl (by decide) (by decide) (by decide) (by decide) (by decide) (by decide)], by rw [n 61 rfl (by decide) (by decide) (by decide) (by decide) (by decide) (by decide)], ?_, fun j hj => ?_, fun j hj => ?_⟩)
  · rw [show (stK D st pn (m.2.2.2.2.2.2.2.2.length + us.length) s3).1 22 = A.plc from by show s3.1 22 = A.plc; rw [f1, h22]; exact hI.2.2.2.2.2.2.2.1, wPlc_id] at h
    exact h
  · show s3.2.2 58 D = _
    rw [e58, if_pos rfl]
  · show s3.2.2 59 _ = _
    rw [f3 59 (by decide)]
    exact h59 j hj
  · show (stA 62 D _ s3).2.2 62 D = _
    rw [gA_eq]
    exact (List.length_append).symm
  · show Seg (s3.2.2 63) (1200 * D) (m.2.2.2.2.2.2.2.2 ++ us)
    refine Seg_app2 (fun j hj => ?_) (fun j hj => ?_)
    · rw [e63, if_neg (by omega)]; exact a12 j hj
    · rw [e63, if_pos (by omega), Nat.add_sub_cancel_left]
  · rw [stK, gAf (by decide), gA_nj hd rfl, gAf (by decide), f3 56 (by decide), hK.2.1 56 rfl (by decide) (by decide)]
  · rw [stK, gA_nj hd rfl, gAf (by decide), gAf (by decide), f3 57 (by decide), hK.2.1 57 rfl (by decide) (by decide)]
  · show s3.2.2 58 i = _
    rw [e58, if_neg hd]
  · show (stA 62 D _ s3).2.2 62 i = _
    rw [gA_nj hd rfl, f3 62 (by decide), hK.2.1 62 rfl (by decide) (by decide)]
  · show s3.2.2 59 _ = _
    rw [f3 59 (by decide), hK.2.2.2 _ (by omega)]
  · show s3.2.2 63 _ = _
    rw [e63, if_neg (by omega)]
theorem RInv.wrr {s s1 s3 : rS} {A : Ab} {D st a : Nat} {us : List Nat} {m : Mc} (hI : RInv s A) (hB : McB A.mcs) (hD : D < 4) (hm : A.mcs D = some m) (hK : KpM D s s1) (hF : CpF s1 s3 (1200 * D + m.2.2.2.2.2.2.2.2.length) us.length us) (hq : m.2.2.2.2.2.2.2.2.length + us.length ≤ 1200) : RInv (stR D st (m.2.2.2.2.2.2.2.2.length + us.length) a s3) (((A.wPlc a).wMcs (setM A.mcs D (m.1, m.2.1, m.2.2.1, st, 4, [], m.2.2.2.2.2.2.1, 2, m.2.2.2.2.2.2.2.2 ++ us))).tell) := by
  obtain ⟨f1, f2, f3, f4⟩ := hF
  obtain ⟨a1, a2, a3, a4, a5, a6, a7, a8, a9, a10, a11, a12⟩ := (hI.2.2.2.2.2.2.1 D hD).2 m hm
  have n : ∀ f, rPers f = true → f ≠ 56 → f ≠ 57 → f ≠ 58 → f ≠ 59 → f ≠ 61 → f ≠ 62 → f ≠ 63 → (stA 61 D 2 (stA 58 D 0 (stI 22 a (stK D st 4 (m.2.2.2.2.2.2.2.2.length + us.length) s3)))).2.2 f = s.2.2 f := fun f hp h1 h2 h3 h3b h4 h5 h6 => by
    rw [gAf h4, gAf h3]
    show (stK D st 4 (m.2.2.2.2.2.2.2.2.length + us.length) s3).2.2 f = s.2.2 f
    rw [stK, gAf h2, gAf h1, gAf h5, f3 f h6, hK.2.1 f hp h3 h3b]
  have n1 : ∀ c, rPers c = true → (stA 61 D 2 (stA 58 D 0 (stI 22 a (stK D st 4 (m.2.2.2.2.2.2.2.2.length + us.length) s3)))).1 c = s.1 c := fun c hc => by
    show (stI 22 a s3).1 c = s.1 c
    exact gI_ne (fun e => by subst e; exact absurd hc (by decide)) (by rw [f1, hK.1 c hc])
  have e63 : ∀ j, s3.2.2 63 j = if 1200 * D + m.2.2.2.2.2.2.2.2.length ≤ j ∧ j < 1200 * D + m.2.2.2.2.2.2.2.2.length + us.length then us.getD (j - (1200 * D + m.2.2.2.2.2.2.2.2.length)) 0 else s.2.2 63 j := fun j => by
    rw [f4 j, hK.2.1 63 rfl (by decide) (by decide)]
  have h := hI.mc (s' := (stA 61 D 2 (stA 58 D 0 (stI 22 a (stK D st 4 (m.2.2.2.2.2.2.2.2.length + us.length) s3))))) (d := D) (m := (m.1, m.2.1, m.2.2.1, st, 4, [], m.2.2.2.2.2.2.1, 2, m.2.2.2.2.2.2.2.2 ++ us)) hB (fun c hc hr => ⟨n1 c hc, n c hc (by omega) (by omega) (by omega) (by omega) (by omega) (by omega) (by omega)⟩)
    ⟨by rw [n 52 rfl (by decide) (by decide) (by decide) (by decide) (by decide) (by decide) (by decide)]; exact a1, by rw [n 53 rfl (by decide) (by decide) (by decide) (by decide) (by decide) (by decide) (by decide)]; exact a2, by rw [n 54 rfl (by decide) (by decide) (by decide) (by decide) (by decide) (by decide) (by decide)]; exact a3, by rw [n 55 rfl (by decide) (by decide) (by decide) (by decide) (by decide) (by decide) (by decide)]; exact a4, ?_, ?_, ?_, fun j hj => absurd hj (Nat.not_lt_zero j), by rw [n 60 rfl (by decide) (by decide) (by decide) (by decide) (by decide) (by decide) (by decide)]; exact a9, gA_eq _ _ _ _, ?_, ?_⟩
    (fun i hi hd => ⟨by rw [n 52 rfl (by decide) (by decide) (by decide) (by decide) (by decide) (by decide) (by decide)], by rw [n 53 rfl (by decide) (by decide) (by decide) (by decide) (by decide) (by decide) (by decide)], by rw [n 54 rfl (by decide) (by decide) (by decide) (by decide) (by decide) (by decide) (by decide)], by rw [n 55 rfl (by decide) (by decide) (by decide) (by decide) (by decide) (by decide) (by decide)], ?_, ?_, ?_, by rw [n 60 rfl (by decide) (by decide) (by decide) (by decide) (by decide) (by decide) (by decide)], ?_, ?_, fun j hj => ?_, fun j hj => ?_⟩)
  · exact h.tell
  · show (stK D st 4 (m.2.2.2.2.2.2.2.2.length + us.length) s3).2.2 56 D = _
    rw [stK, gAf (by decide)]
    exact gA_eq _ _ _ _
  · show (stK D st 4 (m.2.2.2.2.2.2.2.2.length + us.length) s3).2.2 57 D = _
    rw [stK]
    exact gA_eq _ _ _ _
  · rw [gAf (by decide)]
    exact gA_eq _ _ _ _
  · show (stA 62 D _ s3).2.2 62 D = _
    rw [gA_eq]
    exact (List.length_append).symm
  · show Seg (s3.2.2 63) (1200 * D) (m.2.2.2.2.2.2.2.2 ++ us)
    refine Seg_app2 (fun j hj => ?_) (fun j hj => ?_)
    · rw [e63, if_neg (by omega)]; exact a12 j hj
    · rw [e63, if_pos (by omega), Nat.add_sub_cancel_left]
  · rw [gAf (by decide), gAf (by decide)]
    show (stK D st 4 (m.2.2.2.2.2.2.2.2.length + us.length) s3).2.2 56 i = _
    rw [stK, gAf (by decide), gA_nj hd rfl, gAf (by decide), f3 56 (by decide), hK.2.1 56 rfl (by decide) (by decide)]
  · rw [gAf (by decide), gAf (by decide)]
    show (stK D st 4 (m.2.2.2.2.2.2.2.2.length + us.length) s3).2.2 57 i = _
    rw [stK, gA_nj hd rfl, gAf (by decide), gAf (by decide), f3 57 (by decide), hK.2.1 57 rfl (by decide) (by decide)]
  · rw [gAf (by decide), gA_nj hd rfl]
    show s3.2.2 58 i = _
    rw [f3 58 (by decide), hK.2.2.1 i hd]
  · rw [gA_nj hd rfl]
    show s3.2.2 61 i = _
    rw [f3 61 (by decide), hK.2.1 61 rfl (by decide) (by decide)]
  · show (stA 62 D _ s3).2.2 62 i = _
    rw [gA_nj hd rfl, f3 62 (by decide), hK.2.1 62 rfl (by decide) (by decide)]
  · show s3.2.2 59 _ = _
    rw [f3 59 (by decide), hK.2.2.2 _ (by omega)]
  · show s3.2.2 63 _ = _
    rw [e63, if_neg (by have := hB D m hm; omega)]
