/-! the reference: feed, end -/
theorem r_readsB {d r : Nat} {h h0 : mH} {s : rS} {A : Ab} {D : Nat} {m : Mc} {last : Bool} {Q : mP} (hR : Rf r h0 s h) (hI : RInv s A) (hA : AbW A) (hB : McB A.mcs) (hD : D < 4) (hm : A.mcs D = some m) (hmp : m.1 < A.pgs.length) (hst : m.2.2.2.1 < 4) (hpn : m.2.2.2.2.1 ≤ 4) (hru : m.2.2.1 < 4) (hkb : ∀ j, m.2.2.2.2.2.1.getD j 0 < 256) (hfk : m.2.2.2.2.2.1.length ≤ m.2.2.2.2.2.2.1) (hqw : m.2.2.2.2.2.2.2.2.length ≤ 300) (q : ∀ h' s', Rf r h0 s' h' → RInv s' (sp_reads A D m last).2 → McB (sp_reads A D m last).2.mcs → Q (some (.int (sp_reads A D m last).1)) h') : mWP (d + 6) 240 [.ref r, .int (nI D), .int (bI last)] h Q := by
  obtain ⟨w1, w2, w3, w4, w5, w6, w7, w8, w9⟩ := hA
  obtain ⟨a1, a2, a3, a4, a5, a6, a7, a8, a9, a10, a11, a12⟩ := (hI.2.2.2.2.2.2.1 D hD).2 m hm
  have hk8 := (hB D m hm).1
  have hl := hI.1.2.1
  obtain ⟨g1, g2, g3⟩ := hI.1.2.2 m.1 hmp
  refine r_reads0 hR hD (by omega) a2 a4 a5 a6 a7 a8 a9 a11 hk8 g1 (w2 m.1 hmp) g3 (w1 m.1 hmp) hst hpn hru hI.2.2.2.2.1.1 (nPt_lt w6) hkb hfk hqw (fun st pn a us hE hul hal h' s1 s2 s3 hR' hK h22 hC hF => ?_) (fun st pn a us hE hul hal h' s1 s3 hR' hK hF => ?_)
  · have e9 : rdX A m last = (false, st, pn, m.2.2.2.2.2.1.drop a, us) := hE
    have hdl : (m.2.2.2.2.2.1.drop a).length ≤ 8 := by rw [List.length_drop]; omega
    have hi := hI.rds (st := st) (pn := pn) hB hD hm hK h22 hdl hC hF (by omega)
    rw [sp_reads, e9, if_neg (show ¬ (false = true) by decide)] at q
    exact q h' _ hR' hi (McB_set hB hdl (by show (m.2.2.2.2.2.2.2.2 ++ us).length ≤ 1200; rw [List.length_append]; omega))
  · have e9 : rdX A m last = (true, st, pn, m.2.2.2.2.2.1.drop a, us) := hE
    rw [dropl hal hfk] at hR'
    have hi := hI.rdr (st := st) (a := m.2.2.2.2.2.2.1 - (m.2.2.2.2.2.1.drop a).length) hB hD hm hK hF (by omega)
    rw [sp_reads, e9, if_pos rfl] at q
    exact q h' _ hR' hi (McB_set hB (Nat.zero_le _) (by show (m.2.2.2.2.2.2.2.2 ++ us).length ≤ 1200; rw [List.length_append]; omega))
def MW (A : Ab) (m : Mc) : Prop := m.1 < A.pgs.length ∧ pgC A.pgs m.1 = true ∧ m.2.2.1 < 5 ∧ m.2.2.2.2.2.1.length ≤ m.2.2.2.2.2.2.1 ∧ m.2.2.2.2.2.2.2.2.length ≤ 1200 ∧ (m.2.2.2.2.1 ≤ 4 ∧ m.2.2.2.2.2.2.2.1 ≤ 2) ∧ (m.2.1 = true → SOk (pgK A.pgs m.1) (pgH A.pgs m.1) m.2.2.2.1 ∧ (m.2.2.2.2.2.1 = [] ∨ ∃ k0, m.2.2.2.2.2.1 = [k0] ∧ 55296 ≤ k0 ∧ k0 ≤ 56319)) ∧ (m.2.1 = false → m.2.2.1 < 4 ∧ m.2.2.2.1 < 4 ∧ (∀ j, m.2.2.2.2.2.1.getD j 0 < 256) ∧ m.2.2.2.2.2.1.length ≤ 7)
def AbM (A : Ab) : Prop := ∀ i m, A.mcs i = some m → MW A m
theorem AbM.B {A : Ab} (h : AbM A) : McB A.mcs := by
  intro i m hm
  obtain ⟨a1, a2, a3, a4, a5, a6, a7, a8⟩ := h i m hm
  refine ⟨?_, a5⟩
  rcases hb : m.2.1 with _ | _
  · have := (a8 hb).2.2.2; omega
  · rcases (a7 hb).2 with h9 | ⟨k0, h9, _⟩ <;> rw [h9] <;> simp
def mFd (m : Mc) : Mc := (m.1, m.2.1, m.2.2.1, m.2.2.2.1, m.2.2.2.2.1, m.2.2.2.2.2.1, m.2.2.2.2.2.2.1 + 1, m.2.2.2.2.2.2.2.1, m.2.2.2.2.2.2.2.2)
def mFk (m : Mc) (v : Nat) : Mc := (m.1, m.2.1, m.2.2.1, m.2.2.2.1, m.2.2.2.2.1, m.2.2.2.2.2.1 ++ [v], m.2.2.2.2.2.2.1 + 1, m.2.2.2.2.2.2.2.1, m.2.2.2.2.2.2.2.2)
def mEd (m : Mc) : Mc := (m.1, m.2.1, m.2.2.1, m.2.2.2.1, 4, [], m.2.2.2.2.2.2.1, (if m.2.2.2.2.2.2.2.1 = 0 then 1 else m.2.2.2.2.2.2.2.1), m.2.2.2.2.2.2.2.2)
def sp_feed (A : Ab) (d v : Int32) : Int32 × Ab :=
  if 0 ≤ d.toInt ∧ d.toInt ≤ 3 then
    match A.mcs d.toInt.toNat with
    | none => (-2, A.tell)
    | some m => if m.2.2.2.2.2.2.2.1 = 0 then
        if 0 ≤ v.toInt ∧ v.toInt ≤ (if m.2.1 = true then 65535 else 255) then
          if m.2.2.2.2.2.2.2.2.length ≤ 300 then
            if m.2.1 = true then sp_writes (A.wMcs (setM A.mcs d.toInt.toNat (mFd m))) d.toInt.toNat (mFd m) (some v.toInt.toNat)
            else sp_reads (A.wMcs (setM A.mcs d.toInt.toNat (mFk m v.toInt.toNat))) d.toInt.toNat (mFk m v.toInt.toNat) false
          else (-6, A.tell)
        else (-1, A.tell)
      else (-2, A.tell)
  else (-1, A.tell)
def edA (x : Int32 × Ab) (D : Nat) : Int32 × Ab := (x.1, match x.2.mcs D with
  | none => x.2
  | some m => x.2.wMcs (setM x.2.mcs D (mEd m)))
def sp_end (A : Ab) (d : Int32) : Int32 × Ab :=
  if 0 ≤ d.toInt ∧ d.toInt ≤ 3 then
    match A.mcs d.toInt.toNat with
    | none => (-2, A.tell)
    | some m => if m.2.2.2.2.2.2.2.1 = 0 then
        if m.2.2.2.2.2.2.2.2.length ≤ 300 then
          if m.2.1 = true then edA (sp_writes A d.toInt.toNat m none) d.toInt.toNat else edA (sp_reads A d.toInt.toNat m true) d.toInt.toNat
        else (-6, A.tell)
      else (-2, A.tell)
  else (-1, A.tell)
theorem RInv.fd {s : rS} {A : Ab} {D v : Nat} {m : Mc} (hI : RInv s A) (hB : McB A.mcs) (hD : D < 4) (hm : A.mcs D = some m) : RInv (stA 60 D (m.2.2.2.2.2.2.1 + 1) s) (A.wMcs (setM A.mcs D (mFd m))) := by
  obtain ⟨a1, a2, a3, a4, a5, a6, a7, a8, a9, a10, a11, a12⟩ := (hI.2.2.2.2.2.2.1 D hD).2 m hm
  have h := hI.mc (s' := (stA 60 D (m.2.2.2.2.2.2.1 + 1) s)) (d := D) (m := (mFd m)) hB (fun c hc hr => ⟨rfl, by rw [gAf (by omega)]⟩) ⟨by rw [gAf (by decide)]; exact a1, by rw [gAf (by decide)]; exact a2, by rw [gAf (by decide)]; exact a3, by rw [gAf (by decide)]; exact a4, by rw [gAf (by decide)]; exact a5, by rw [gAf (by decide)]; exact a6, by rw [gAf (by decide)]; exact a7, fun j hj => by rw [gAf (by decide)]; exact a8 j hj, by repeat (first | with_reducible exact gA_eq _ _ _ _ | (with_reducible apply gA_ne; decide) | with_reducible apply gA_I | with_reducible apply gA_O | (with_reducible apply gA_nj; omega) | with_reducible rfl | exact gA_eq _ _ _ _), by rw [gAf (by decide)]; exact a10, by rw [gAf (by decide)]; exact a11, fun j hj => by rw [gAf (by decide)]; exact a12 j hj⟩ (fun i hi hd => ⟨by repeat (first | with_reducible exact gA_eq _ _ _ _ | (with_reducible apply gA_ne; decide) | with_reducible apply gA_I | with_reducible apply gA_O | (with_reducible apply gA_nj; omega) | with_reducible rfl | exact gA_eq _ _ _ _), by repeat (first | with_reducible exact gA_eq _ _ _ _ | (with_reducible apply gA_ne; decide) | with_reducible apply gA_I | with_reducible apply gA_O | (with_reducible apply gA_nj; omega) | with_reducible rfl | exact gA_eq _ _ _ _), by repeat (first | with_reducible exact gA_eq _ _ _ _ | (with_reducible apply gA_ne; decide) | with_reducible apply gA_I | with_reducible apply gA_O | (with_reducible apply gA_nj; omega) | with_reducible rfl | exact gA_eq _ _ _ _), by repeat (first | with_reducible exact gA_eq _ _ _ _ | (with_reducible apply gA_ne; decide) | with_reducible apply gA_I | with_reducible apply gA_O | (with_reducible apply gA_nj; omega) | with_reducible rfl | exact gA_eq _ _ _ _), by repeat (first | with_reducible exact gA_eq _ _ _ _ | (with_reducible apply gA_ne; decide) | with_reducible apply gA_I | with_reducible apply gA_O | (with_reducible apply gA_nj; omega) | with_reducible rfl | exact gA_eq _ _ _ _), by repeat (first | with_reducible exact gA_eq _ _ _ _ | (with_reducible apply gA_ne; decide) | with_reducible apply gA_I | with_reducible apply gA_O | (with_reducible apply gA_nj; omega) | with_reducible rfl | exact gA_eq _ _ _ _), by repeat (first | with_reducible exact gA_eq _ _ _ _ | (with_reducible apply gA_ne; decide) | with_reducible apply gA_I | with_reducible apply gA_O | (with_reducible apply gA_nj; omega) | with_reducible rfl | exact gA_eq _ _ _ _), by repeat (first | with_reducible exact gA_eq _ _ _ _ | (with_reducible apply gA_ne; decide) | with_reducible apply gA_I | with_reducible apply gA_O | (with_reducible apply gA_nj; omega) | with_reducible rfl | exact gA_eq _ _ _ _), by repeat (first | with_reducible exact gA_eq _ _ _ _ | (with_reducible apply gA_ne; decide) | with_reducible apply gA_I | with_reducible apply gA_O | (with_reducible apply gA_nj; omega) | with_reducible rfl | exact gA_eq _ _ _ _), by repeat (first | with_reducible exact gA_eq _ _ _ _ | (with_reducible apply gA_ne; decide) | with_reducible apply gA_I | with_reducible apply gA_O | (with_reducible apply gA_nj; omega) | with_reducible rfl | exact gA_eq _ _ _ _), fun j hj => by repeat (first | with_reducible exact gA_eq _ _ _ _ | (with_reducible apply gA_ne; decide) | with_reducible apply gA_I | with_reducible apply gA_O | (with_reducible apply gA_nj; omega) | with_reducible rfl | exact gA_eq _ _ _ _), fun j hj => by rw [gAf (by decide)]⟩)
  rw [show ((stA 60 D (m.2.2.2.2.2.2.1 + 1) s)).1 22 = A.plc from hI.2.2.2.2.2.2.2.1, wPlc_id] at h
  exact h
theorem RInv.fk {s : rS} {A : Ab} {D v : Nat} {m : Mc} (hI : RInv s A) (hB : McB A.mcs) (hD : D < 4) (hm : A.mcs D = some m) (hk7 : m.2.2.2.2.2.1.length ≤ 7) : RInv (stA 58 D (m.2.2.2.2.2.1.length + 1) (stA 59 (8 * D + m.2.2.2.2.2.1.length) v (stA 60 D (m.2.2.2.2.2.2.1 + 1) s))) (A.wMcs (setM A.mcs D (mFk m v))) := by
  obtain ⟨a1, a2, a3, a4, a5, a6, a7, a8, a9, a10, a11, a12⟩ := (hI.2.2.2.2.2.2.1 D hD).2 m hm
  have h := hI.mc (s' := (stA 58 D (m.2.2.2.2.2.1.length + 1) (stA 59 (8 * D + m.2.2.2.2.2.1.length) v (stA 60 D (m.2.2.2.2.2.2.1 + 1) s)))) (d := D) (m := (mFk m v)) hB (fun c hc hr => ⟨rfl, by rw [gAf (by omega), gAf (by omega), gAf (by omega)]⟩) ⟨by rw [gAf (by decide), gAf (by decide), gAf (by decide)]; exact a1, by rw [gAf (by decide), gAf (by decide), gAf (by decide)]; exact a2, by rw [gAf (by decide), gAf (by decide), gAf (by decide)]; exact a3, by rw [gAf (by decide), gAf (by decide), gAf (by decide)]; exact a4, by rw [gAf (by decide), gAf (by decide), gAf (by decide)]; exact a5, by rw [gAf (by decide), gAf (by decide), gAf (by decide)]; exact a6, by rw [gA_eq]; show _ = (m.2.2.2.2.2.1 ++ [v]).length; rw [List.length_append]; rfl, fun j hj => by
      rw [gAf (by decide)]
      have hj' : j < m.2.2.2.2.2.1.length + 1 := by have h9 : j < (m.2.2.2.2.2.1 ++ [v]).length := hj; rw [List.length_append] at h9; exact h9
      show _ = (m.2.2.2.2.2.1 ++ [v]).getD j 0
      by_cases e : j = m.2.2.2.2.2.1.length
      · subst e
        rw [gA_eq, List.getD_eq_getElem?_getD, List.getElem?_append_right (Nat.le_refl _), Nat.sub_self]
        rfl
      · rw [gA_nj (show 8 * D + j ≠ 8 * D + m.2.2.2.2.2.1.length by omega) rfl, gAf (by decide), List.getD_eq_getElem?_getD, List.getElem?_append_left (by omega), ← List.getD_eq_getElem?_getD]
        exact a8 j (by omega), by repeat (first | with_reducible exact gA_eq _ _ _ _ | (with_reducible apply gA_ne; decide) | with_reducible apply gA_I | with_reducible apply gA_O | (with_reducible apply gA_nj; omega) | with_reducible rfl | exact gA_eq _ _ _ _), by rw [gAf (by decide), gAf (by decide), gAf (by decide)]; exact a10, by rw [gAf (by decide), gAf (by decide), gAf (by decide)]; exact a11, fun j hj => by rw [gAf (by decide), gAf (by decide), gAf (by decide)]; exact a12 j hj⟩ (fun i hi hd => ⟨by repeat (first | with_reducible exact gA_eq _ _ _ _ | (with_reducible apply gA_ne; decide) | with_reducible apply gA_I | with_reducible apply gA_O | (with_reducible apply gA_nj; omega) | with_reducible rfl | exact gA_eq _ _ _ _), by repeat (first | with_reducible exact gA_eq _ _ _ _ | (with_reducible apply gA_ne; decide) | with_reducible apply gA_I | with_reducible apply gA_O | (with_reducible apply gA_nj; omega) | with_reducible rfl | exact gA_eq _ _ _ _), by repeat (first | with_reducible exact gA_eq _ _ _ _ | (with_reducible apply gA_ne; decide) | with_reducible apply gA_I | with_reducible apply gA_O | (with_reducible apply gA_nj; omega) | with_reducible rfl | exact gA_eq _ _ _ _), by repeat (first | with_reducible exact gA_eq _ _ _ _ | (with_reducible apply gA_ne; decide) | with_reducible apply gA_I | with_reducible apply gA_O | (with_reducible apply gA_nj; omega) | with_reducible rfl | exact gA_eq _ _ _ _), by repeat (first | with_reducible exact gA_eq _ _ _ _ | (with_reducible apply gA_ne; decide) | with_reducible apply gA_I | with_reducible apply gA_O | (with_reducible apply gA_nj; omega) | with_reducible rfl | exact gA_eq _ _ _ _), by repeat (first | with_reducible exact gA_eq _ _ _ _ | (with_reducible apply gA_ne; decide) | with_reducible apply gA_I | with_reducible apply gA_O | (with_reducible apply gA_nj; omega) | with_reducible rfl | exact gA_eq _ _ _ _), by repeat (first | with_reducible exact gA_eq _ _ _ _ | (with_reducible apply gA_ne; decide) | with_reducible apply gA_I | with_reducible apply gA_O | (with_reducible apply gA_nj; omega) | with_reducible rfl | exact gA_eq _ _ _ _), by repeat (first | with_reducible exact gA_eq _ _ _ _ | (with_reducible apply gA_ne; decide) | with_reducible apply gA_I | with_reducible apply gA_O | (with_reducible apply gA_nj; omega) | with_reducible rfl | exact gA_eq _ _ _ _), by repeat (first | with_reducible exact gA_eq _ _ _ _ | (with_reducible apply gA_ne; decide) | with_reducible apply gA_I | with_reducible apply gA_O | (with_reducible apply gA_nj; omega) | with_reducible rfl | exact gA_eq _ _ _ _), by repeat (first | with_reducible exact gA_eq _ _ _ _ | (with_reducible apply gA_ne; decide) | with_reducible apply gA_I | with_reducible apply gA_O | (with_reducible apply gA_nj; omega) | with_reducible rfl | exact gA_eq _ _ _ _), fun j hj => by repeat (first | with_reducible exact gA_eq _ _ _ _ | (with_reducible apply gA_ne; decide) | with_reducible apply gA_I | with_reducible apply gA_O | (with_reducible apply gA_nj; omega) | with_reducible rfl | exact gA_eq _ _ _ _), fun j hj => by rw [gAf (by decide), gAf (by decide), gAf (by decide)]⟩)
  rw [show ((stA 58 D (m.2.2.2.2.2.1.length + 1) (stA 59 (8 * D + m.2.2.2.2.2.1.length) v (stA 60 D (m.2.2.2.2.2.2.1 + 1) s)))).1 22 = A.plc from hI.2.2.2.2.2.2.2.1, wPlc_id] at h
  exact h
theorem RInv.ed2 {s : rS} {A : Ab} {D v : Nat} {m : Mc} (hI : RInv s A) (hB : McB A.mcs) (hD : D < 4) (hm : A.mcs D = some m) (hmo : m.2.2.2.2.2.2.2.1 ≠ 0) : RInv (stA 58 D 0 (stA 57 D 4 s)) (A.wMcs (setM A.mcs D (mEd m))) := by
  obtain ⟨a1, a2, a3, a4, a5, a6, a7, a8, a9, a10, a11, a12⟩ := (hI.2.2.2.2.2.2.1 D hD).2 m hm
  have h := hI.mc (s' := (stA 58 D 0 (stA 57 D 4 s))) (d := D) (m := (mEd m)) hB (fun c hc hr => ⟨rfl, by rw [gAf (by omega), gAf (by omega)]⟩) ⟨by rw [gAf (by decide), gAf (by decide)]; exact a1, by rw [gAf (by decide), gAf (by decide)]; exact a2, by rw [gAf (by decide), gAf (by decide)]; exact a3, by rw [gAf (by decide), gAf (by decide)]; exact a4, by rw [gAf (by decide), gAf (by decide)]; exact a5, by repeat (first | with_reducible exact gA_eq _ _ _ _ | (with_reducible apply gA_ne; decide) | with_reducible apply gA_I | with_reducible apply gA_O | (with_reducible apply gA_nj; omega) | with_reducible rfl | exact gA_eq _ _ _ _), by repeat (first | with_reducible exact gA_eq _ _ _ _ | (with_reducible apply gA_ne; decide) | with_reducible apply gA_I | with_reducible apply gA_O | (with_reducible apply gA_nj; omega) | with_reducible rfl | exact gA_eq _ _ _ _), fun j hj => absurd hj (Nat.not_lt_zero j), by rw [gAf (by decide), gAf (by decide)]; exact a9, by rw [gAf (by decide), gAf (by decide), a10]; exact (if_neg hmo).symm, by rw [gAf (by decide), gAf (by decide)]; exact a11, fun j hj => by rw [gAf (by decide), gAf (by decide)]; exact a12 j hj⟩ (fun i hi hd => ⟨by repeat (first | with_reducible exact gA_eq _ _ _ _ | (with_reducible apply gA_ne; decide) | with_reducible apply gA_I | with_reducible apply gA_O | (with_reducible apply gA_nj; omega) | with_reducible rfl | exact gA_eq _ _ _ _), by repeat (first | with_reducible exact gA_eq _ _ _ _ | (with_reducible apply gA_ne; decide) | with_reducible apply gA_I | with_reducible apply gA_O | (with_reducible apply gA_nj; omega) | with_reducible rfl | exact gA_eq _ _ _ _), by repeat (first | with_reducible exact gA_eq _ _ _ _ | (with_reducible apply gA_ne; decide) | with_reducible apply gA_I | with_reducible apply gA_O | (with_reducible apply gA_nj; omega) | with_reducible rfl | exact gA_eq _ _ _ _), by repeat (first | with_reducible exact gA_eq _ _ _ _ | (with_reducible apply gA_ne; decide) | with_reducible apply gA_I | with_reducible apply gA_O | (with_reducible apply gA_nj; omega) | with_reducible rfl | exact gA_eq _ _ _ _), by repeat (first | with_reducible exact gA_eq _ _ _ _ | (with_reducible apply gA_ne; decide) | with_reducible apply gA_I | with_reducible apply gA_O | (with_reducible apply gA_nj; omega) | with_reducible rfl | exact gA_eq _ _ _ _), by repeat (first | with_reducible exact gA_eq _ _ _ _ | (with_reducible apply gA_ne; decide) | with_reducible apply gA_I | with_reducible apply gA_O | (with_reducible apply gA_nj; omega) | with_reducible rfl | exact gA_eq _ _ _ _), by repeat (first | with_reducible exact gA_eq _ _ _ _ | (with_reducible apply gA_ne; decide) | with_reducible apply gA_I | with_reducible apply gA_O | (with_reducible apply gA_nj; omega) | with_reducible rfl | exact gA_eq _ _ _ _), by repeat (first | with_reducible exact gA_eq _ _ _ _ | (with_reducible apply gA_ne; decide) | with_reducible apply gA_I | with_reducible apply gA_O | (with_reducible apply gA_nj; omega) | with_reducible rfl | exact gA_eq _ _ _ _), by repeat (first | with_reducible exact gA_eq _ _ _ _ | (with_reducible apply gA_ne; decide) | with_reducible apply gA_I | with_reducible apply gA_O | (with_reducible apply gA_nj; omega) | with_reducible rfl | exact gA_eq _ _ _ _), by repeat (first | with_reducible exact gA_eq _ _ _ _ | (with_reducible apply gA_ne; decide) | with_reducible apply gA_I | with_reducible apply gA_O | (with_reducible apply gA_nj; omega) | with_reducible rfl | exact gA_eq _ _ _ _), fun j hj => by repeat (first | with_reducible exact gA_eq _ _ _ _ | (with_reducible apply gA_ne; decide) | with_reducible apply gA_I | with_reducible apply gA_O | (with_reducible apply gA_nj; omega) | with_reducible rfl | exact gA_eq _ _ _ _), fun j hj => by rw [gAf (by decide), gAf (by decide)]⟩)
  rw [show ((stA 58 D 0 (stA 57 D 4 s))).1 22 = A.plc from hI.2.2.2.2.2.2.2.1, wPlc_id] at h
  exact h
theorem RInv.ed0 {s : rS} {A : Ab} {D v : Nat} {m : Mc} (hI : RInv s A) (hB : McB A.mcs) (hD : D < 4) (hm : A.mcs D = some m) (hmo : m.2.2.2.2.2.2.2.1 = 0) : RInv (stA 61 D 1 (stA 58 D 0 (stA 57 D 4 s))) (A.wMcs (setM A.mcs D (mEd m))) := by
  obtain ⟨a1, a2, a3, a4, a5, a6, a7, a8, a9, a10, a11, a12⟩ := (hI.2.2.2.2.2.2.1 D hD).2 m hm
  have h := hI.mc (s' := (stA 61 D 1 (stA 58 D 0 (stA 57 D 4 s)))) (d := D) (m := (mEd m)) hB (fun c hc hr => ⟨rfl, by rw [gAf (by omega), gAf (by omega), gAf (by omega)]⟩) ⟨by rw [gAf (by decide), gAf (by decide), gAf (by decide)]; exact a1, by rw [gAf (by decide), gAf (by decide), gAf (by decide)]; exact a2, by rw [gAf (by decide), gAf (by decide), gAf (by decide)]; exact a3, by rw [gAf (by decide), gAf (by decide), gAf (by decide)]; exact a4, by rw [gAf (by decide), gAf (by decide), gAf (by decide)]; exact a5, by repeat (first | with_reducible exact gA_eq _ _ _ _ | (with_reducible apply gA_ne; decide) | with_reducible apply gA_I | with_reducible apply gA_O | (with_reducible apply gA_nj; omega) | with_reducible rfl | exact gA_eq _ _ _ _), by repeat (first | with_reducible exact gA_eq _ _ _ _ | (with_reducible apply gA_ne; decide) | with_reducible apply gA_I | with_reducible apply gA_O | (with_reducible apply gA_nj; omega) | with_reducible rfl | exact gA_eq _ _ _ _), fun j hj => absurd hj (Nat.not_lt_zero j), by rw [gAf (by decide), gAf (by decide), gAf (by decide)]; exact a9, by rw [gA_eq]; exact (if_pos hmo).symm, by rw [gAf (by decide), gAf (by decide), gAf (by decide)]; exact a11, fun j hj => by rw [gAf (by decide), gAf (by decide), gAf (by decide)]; exact a12 j hj⟩ (fun i hi hd => ⟨by repeat (first | with_reducible exact gA_eq _ _ _ _ | (with_reducible apply gA_ne; decide) | with_reducible apply gA_I | with_reducible apply gA_O | (with_reducible apply gA_nj; omega) | with_reducible rfl | exact gA_eq _ _ _ _), by repeat (first | with_reducible exact gA_eq _ _ _ _ | (with_reducible apply gA_ne; decide) | with_reducible apply gA_I | with_reducible apply gA_O | (with_reducible apply gA_nj; omega) | with_reducible rfl | exact gA_eq _ _ _ _), by repeat (first | with_reducible exact gA_eq _ _ _ _ | (with_reducible apply gA_ne; decide) | with_reducible apply gA_I | with_reducible apply gA_O | (with_reducible apply gA_nj; omega) | with_reducible rfl | exact gA_eq _ _ _ _), by repeat (first | with_reducible exact gA_eq _ _ _ _ | (with_reducible apply gA_ne; decide) | with_reducible apply gA_I | with_reducible apply gA_O | (with_reducible apply gA_nj; omega) | with_reducible rfl | exact gA_eq _ _ _ _), by repeat (first | with_reducible exact gA_eq _ _ _ _ | (with_reducible apply gA_ne; decide) | with_reducible apply gA_I | with_reducible apply gA_O | (with_reducible apply gA_nj; omega) | with_reducible rfl | exact gA_eq _ _ _ _), by repeat (first | with_reducible exact gA_eq _ _ _ _ | (with_reducible apply gA_ne; decide) | with_reducible apply gA_I | with_reducible apply gA_O | (with_reducible apply gA_nj; omega) | with_reducible rfl | exact gA_eq _ _ _ _), by repeat (first | with_reducible exact gA_eq _ _ _ _ | (with_reducible apply gA_ne; decide) | with_reducible apply gA_I | with_reducible apply gA_O | (with_reducible apply gA_nj; omega) | with_reducible rfl | exact gA_eq _ _ _ _), by repeat (first | with_reducible exact gA_eq _ _ _ _ | (with_reducible apply gA_ne; decide) | with_reducible apply gA_I | with_reducible apply gA_O | (with_reducible apply gA_nj; omega) | with_reducible rfl | exact gA_eq _ _ _ _), by repeat (first | with_reducible exact gA_eq _ _ _ _ | (with_reducible apply gA_ne; decide) | with_reducible apply gA_I | with_reducible apply gA_O | (with_reducible apply gA_nj; omega) | with_reducible rfl | exact gA_eq _ _ _ _), by repeat (first | with_reducible exact gA_eq _ _ _ _ | (with_reducible apply gA_ne; decide) | with_reducible apply gA_I | with_reducible apply gA_O | (with_reducible apply gA_nj; omega) | with_reducible rfl | exact gA_eq _ _ _ _), fun j hj => by repeat (first | with_reducible exact gA_eq _ _ _ _ | (with_reducible apply gA_ne; decide) | with_reducible apply gA_I | with_reducible apply gA_O | (with_reducible apply gA_nj; omega) | with_reducible rfl | exact gA_eq _ _ _ _), fun j hj => by rw [gAf (by decide), gAf (by decide), gAf (by decide)]⟩)
  rw [show ((stA 61 D 1 (stA 58 D 0 (stA 57 D 4 s)))).1 22 = A.plc from hI.2.2.2.2.2.2.2.1, wPlc_id] at h
  exact h
theorem getD_apb9 {l : List Nat} {v n : Nat} (h : ∀ j, l.getD j 0 < n) (hv : v < n) (j : Nat) : (l ++ [v]).getD j 0 < n := by
  by_cases e : j < l.length
  · rw [List.getD_eq_getElem?_getD, List.getElem?_append_left e, ← List.getD_eq_getElem?_getD]; exact h j
  · by_cases e2 : j = l.length
    · subst e2
      rw [List.getD_eq_getElem?_getD, List.getElem?_append_right (Nat.le_refl _), Nat.sub_self]; exact hv
    · rw [List.getD_eq_getElem?_getD, List.getElem?_eq_none (by rw [List.length_append]; simp; omega)]
      show 0 < n
      omega
set_option maxRecDepth 100000 in
theorem r_feed {d r : Nat} {h h0 : mH} {s : rS} {A : Ab} {d0 v : Int32} {Q : mP} (hR : Rf r h0 s h) (hI : RInv s A) (hA : AbW A) (hN : ∀ x, fbN A.fbs 40 x ≤ 16) (hM : AbM A)  (q : ∀ h' s', Rf r h0 s' h' → RInv s' (sp_feed A d0 v).2 → Q (some (.int (sp_feed A d0 v).1)) h') : mWP (d + 55) 242 [.ref r, .int d0, .int v] h Q := by
  have hB := hM.B
  refine z_in [some (.ref r), some (.int d0), some (.int v)] (by rfl) rfl rfl rfl ?_
  refine z_iload 1 rfl rfl rfl ?_
  refine z_push 2 (nI 0) rfl rfl rfl ?_
  refine z_push 3 (nI 3) rfl rfl rfl ?_
  refine z_cs3 6 rfl rfl rfl (Nat.le_refl _) (Nat.le_refl _) ?_
  refine r_in ?_
  rw [jIn_l (by omega) (by omega)]
  first | refine z_bne 9 rfl rfl (fun hc6 => ?_) (fun hc6 => ?_)
  · rw [decide_eq_true_eq] at hc6
    obtain ⟨D, hD, rfl, hd1, hd2⟩ := ix_of (x := d0) (n := 4) (by omega)
    have h52 := mc_52 hI hD
    refine z_aload 16 rfl rfl rfl ?_
    refine y_ga 19 hR rfl rfl rfl ?_
    refine z_iload 20 rfl rfl rfl ?_
    refine y_bb (f := 52) 21 _ hR rfl rfl rfl rfl (by omega) (by repeat (first | with_reducible exact h52 | with_reducible exact a10 | with_reducible exact a3 | with_reducible exact a11 | with_reducible exact a9 | with_reducible exact a7 | with_reducible exact gA_eq _ _ _ _ | (with_reducible apply gA_ne; decide) | with_reducible apply gA_I | with_reducible apply gA_O | (with_reducible apply gA_nj; omega) | with_reducible rfl)) ?_
    first | refine z_beq 24 rfl rfl (fun hc21 => ?_) (fun hc21 => ?_)
    · refine z_aload 34 rfl rfl rfl ?_
      refine z_push 36 (-2) rfl rfl rfl ?_
      refine z_cv1 39 rfl rfl hR.1 rfl (Nat.le_refl _) (Nat.le_refl _) ?_
      refine r_tell hR (fun h9 => absurd h9 (by decide)) (fun _ h hR => ?_)
      refine z_ireti rfl (Nat.le_refl _) (Nat.le_refl _) ?_
      have hm : A.mcs D = none := by simpa using hc21
      have e9 : sp_feed A (nI D) v = (-2, A.tell) := by rw [sp_feed, if_pos (by omega), hd2, hm]
      rw [e9] at q
      exact q h _ hR hI.tell
    · obtain ⟨m, hm⟩ := Option.isSome_iff_exists.mp hc21
      obtain ⟨a1, a2, a3, a4, a5, a6, a7, a8, a9, a10, a11, a12⟩ := (hI.2.2.2.2.2.2.1 D hD).2 m hm
      have hb := hB D m hm
      obtain ⟨m1, m2, m3, m4, m5, m6, m7, m8⟩ := hM D m hm
      refine z_aload 25 rfl rfl rfl ?_
      refine y_ga 28 hR rfl rfl rfl ?_
      refine z_iload 29 rfl rfl rfl ?_
      refine y_al (f := 61) 30 _ hR rfl rfl rfl rfl (by omega) (by repeat (first | with_reducible exact h52 | with_reducible exact a10 | with_reducible exact a3 | with_reducible exact a11 | with_reducible exact a9 | with_reducible exact a7 | with_reducible exact gA_eq _ _ _ _ | (with_reducible apply gA_ne; decide) | with_reducible apply gA_I | with_reducible apply gA_O | (with_reducible apply gA_nj; omega) | with_reducible rfl)) ?_
      first | refine z_zeq 33 rfl rfl (by omega) (fun hc30 => ?_) (fun hc30 => ?_)
      · refine z_iload 41 rfl rfl rfl ?_
        refine z_push 42 (nI 0) rfl rfl rfl ?_
        refine z_aload 43 rfl rfl rfl ?_
        refine y_ga 46 hR rfl rfl rfl ?_
        refine z_iload 47 rfl rfl rfl ?_
        refine y_bb (f := 54) 48 _ hR rfl rfl rfl rfl (by omega) (by repeat (first | with_reducible exact h52 | with_reducible exact a10 | with_reducible exact a3 | with_reducible exact a11 | with_reducible exact a9 | with_reducible exact a7 | with_reducible exact gA_eq _ _ _ _ | (with_reducible apply gA_ne; decide) | with_reducible apply gA_I | with_reducible apply gA_O | (with_reducible apply gA_nj; omega) | with_reducible rfl)) ?_
        first | refine z_beq 51 rfl rfl (fun hc48 => ?_) (fun hc48 => ?_)
        · refine z_push 60 (nI 255) rfl rfl rfl ?_
          refine z_cs3 63 rfl rfl rfl (Nat.le_refl _) (Nat.le_refl _) ?_
          refine r_in ?_
          rw [jIn_l (by omega) (by omega)]
          first | refine z_bne 66 rfl rfl (fun hc63 => ?_) (fun hc63 => ?_)
          · rw [decide_eq_true_eq] at hc63
            obtain ⟨V, hV, rfl, hv1, hv2⟩ := ix_of (x := v) (n := 65536) (by omega)
            refine z_aload 73 rfl rfl rfl ?_
            refine y_ga 76 hR rfl rfl rfl ?_
            refine z_iload 77 rfl rfl rfl ?_
            refine y_al (f := 62) 78 _ hR rfl rfl rfl rfl (by omega) (by repeat (first | with_reducible exact h52 | with_reducible exact a10 | with_reducible exact a3 | with_reducible exact a11 | with_reducible exact a9 | with_reducible exact a7 | with_reducible exact gA_eq _ _ _ _ | (with_reducible apply gA_ne; decide) | with_reducible apply gA_I | with_reducible apply gA_O | (with_reducible apply gA_nj; omega) | with_reducible rfl)) ?_
            refine z_push 81 (nI 300) rfl rfl rfl ?_
            refine z_nle 84 rfl rfl (by omega) (by omega) (fun hc81 => ?_) (fun hc81 => ?_)
            · refine z_aload 92 rfl rfl rfl ?_
              refine y_ga 95 hR rfl rfl rfl ?_
              refine z_iload 96 rfl rfl rfl ?_
              refine z_dup2 97 rfl rfl ?_
              refine y_al (f := 60) 98 _ hR rfl rfl rfl rfl (by omega) (by repeat (first | with_reducible exact h52 | with_reducible exact a10 | with_reducible exact a3 | with_reducible exact a11 | with_reducible exact a9 | with_reducible exact a7 | with_reducible exact gA_eq _ _ _ _ | (with_reducible apply gA_ne; decide) | with_reducible apply gA_I | with_reducible apply gA_O | (with_reducible apply gA_nj; omega) | with_reducible rfl)) ?_
              refine z_push 99 (nI 1) rfl rfl rfl ?_
              refine z_bop 100 _ rfl rfl (by first | with_reducible exact zb_0 _ _ | exact zd_0 _ _) ?_
              refine y_as (f := 60) 101 hR rfl rfl rfl rfl (by omega) ?_
              intro h hR
              refine z_aload 102 rfl rfl rfl ?_
              refine y_ga 105 hR rfl rfl rfl ?_
              refine z_iload 106 rfl rfl rfl ?_
              refine y_bb (f := 54) 107 _ hR rfl rfl rfl rfl (by omega) (by repeat (first | with_reducible exact h52 | with_reducible exact a10 | with_reducible exact a3 | with_reducible exact a11 | with_reducible exact a9 | with_reducible exact a7 | with_reducible exact gA_eq _ _ _ _ | (with_reducible apply gA_ne; decide) | with_reducible apply gA_I | with_reducible apply gA_O | (with_reducible apply gA_nj; omega) | with_reducible rfl)) ?_
              refine z_beq 110 rfl rfl (fun _ => ?_) (fun h9 => absurd (h9.symm.trans hc48) (by decide))
              have hk7 := (m8 hc48).2.2.2
              refine z_aload 118 rfl rfl rfl ?_
              refine y_ga 121 hR rfl rfl rfl ?_
              refine z_push 123 (nI 8) rfl rfl rfl ?_
              refine z_iload 124 rfl rfl rfl ?_
              refine z_bop 125 _ rfl rfl (by first | with_reducible exact zb_2 _ _ | exact zd_2 _ _) ?_
              refine z_aload 126 rfl rfl rfl ?_
              refine y_ga 129 hR rfl rfl rfl ?_
              refine z_iload 130 rfl rfl rfl ?_
              refine y_al (f := 58) 131 _ hR rfl rfl rfl rfl (by omega) (by repeat (first | with_reducible exact h52 | with_reducible exact a10 | with_reducible exact a3 | with_reducible exact a11 | with_reducible exact a9 | with_reducible exact a7 | with_reducible exact gA_eq _ _ _ _ | (with_reducible apply gA_ne; decide) | with_reducible apply gA_I | with_reducible apply gA_O | (with_reducible apply gA_nj; omega) | with_reducible rfl)) ?_
              refine z_bop 132 _ rfl rfl (by first | with_reducible exact zb_0 _ _ | exact zd_0 _ _) ?_
              refine z_iload 133 rfl rfl rfl ?_
              refine y_as (f := 59) 134 hR rfl rfl rfl rfl (by omega) ?_
              intro h hR
              refine z_aload 135 rfl rfl rfl ?_
              refine y_ga 138 hR rfl rfl rfl ?_
              refine z_iload 139 rfl rfl rfl ?_
              refine z_dup2 140 rfl rfl ?_
              refine y_al (f := 58) 141 _ hR rfl rfl rfl rfl (by omega) (by repeat (first | with_reducible exact h52 | with_reducible exact a10 | with_reducible exact a3 | with_reducible exact a11 | with_reducible exact a9 | with_reducible exact a7 | with_reducible exact gA_eq _ _ _ _ | (with_reducible apply gA_ne; decide) | with_reducible apply gA_I | with_reducible apply gA_O | (with_reducible apply gA_nj; omega) | with_reducible rfl)) ?_
              refine z_push 142 (nI 1) rfl rfl rfl ?_
              refine z_bop 143 _ rfl rfl (by first | with_reducible exact zb_0 _ _ | exact zd_0 _ _) ?_
              refine y_as (f := 58) 144 hR rfl rfl rfl rfl (by omega) ?_
              intro h hR
              refine z_aload 145 rfl rfl rfl ?_
              refine z_iload 146 rfl rfl rfl ?_
              refine z_push 147 (nI 0) rfl rfl rfl ?_
              refine z_cv2 150 rfl rfl hR.1 rfl (Nat.le_refl _) (Nat.le_refl _) ?_
              refine r_readsB (last := false) (m := mFk m V) hR (hI.fk hB hD hm (m8 hc48).2.2.2) hA (McB_set hB (by rw [List.length_append]; have := (m8 hc48).2.2.2; simp; omega) hb.2) hD (if_pos rfl) m1 (m8 hc48).2.1 m6.1 (m8 hc48).1 (fun j => getD_apb9 (m8 hc48).2.2.1 (by omega) j) (by show (m.2.2.2.2.2.1 ++ [V]).length ≤ m.2.2.2.2.2.2.1 + 1; rw [List.length_append]; simp; omega) (by show m.2.2.2.2.2.2.2.2.length ≤ 300; omega) (fun h s2 hR hI2 _ => ?_)
              refine z_ireti rfl (Nat.le_refl _) (Nat.le_refl _) ?_
              have e9 : sp_feed A (nI D) (nI V) = sp_reads (A.wMcs (setM A.mcs D (mFk m V))) D (mFk m V) false := by
                rw [sp_feed, if_pos (by omega), hd2, hm]
                show (if _ then _ else _) = _
                rw [if_pos hc30, if_pos (by simp only [hc48]; simp only [if_true, if_false, Bool.false_eq_true]; omega), if_pos (by omega), if_neg (by rw [hc48]; decide), hv2]
              rw [e9] at q
              exact q h s2 hR hI2
            · refine z_aload 85 rfl rfl rfl ?_
              refine z_push 87 (-6) rfl rfl rfl ?_
              refine z_cv1 90 rfl rfl hR.1 rfl (Nat.le_refl _) (Nat.le_refl _) ?_
              refine r_tell hR (fun h9 => absurd h9 (by decide)) (fun _ h hR => ?_)
              refine z_ireti rfl (Nat.le_refl _) (Nat.le_refl _) ?_
              have e9 : sp_feed A (nI D) (nI V) = (-6, A.tell) := by
                rw [sp_feed, if_pos (by omega), hd2, hm]
                show (if _ then _ else _) = _
                rw [if_pos hc30, if_pos (by simp only [hc48]; simp only [if_true, if_false, Bool.false_eq_true]; omega), if_neg (by omega)]
              rw [e9] at q
              exact q h _ hR hI.tell
          · refine z_aload 67 rfl rfl rfl ?_
            refine z_push 68 (-1) rfl rfl rfl ?_
            refine z_cv1 71 rfl rfl hR.1 rfl (Nat.le_refl _) (Nat.le_refl _) ?_
            refine r_tell hR (fun h9 => absurd h9 (by decide)) (fun _ h hR => ?_)
            refine z_ireti rfl (Nat.le_refl _) (Nat.le_refl _) ?_
            rw [decide_eq_false_iff_not] at hc63
            have e9 : sp_feed A (nI D) v = (-1, A.tell) := by
              rw [sp_feed, if_pos (by omega), hd2, hm]
              show (if _ then _ else _) = _
              rw [if_pos hc30, if_neg (by simp only [hc48]; simp only [if_true, if_false, Bool.false_eq_true]; omega)]
            rw [e9] at q
            exact q h _ hR hI.tell
        · refine z_push 54 (nI 65535) rfl rfl rfl ?_
          refine z_goto rfl ?_
          refine z_cs3 63 rfl rfl rfl (Nat.le_refl _) (Nat.le_refl _) ?_
          refine r_in ?_
          rw [jIn_l (by omega) (by omega)]
          first | refine z_bne 66 rfl rfl (fun hc63 => ?_) (fun hc63 => ?_)
          · rw [decide_eq_true_eq] at hc63
            obtain ⟨V, hV, rfl, hv1, hv2⟩ := ix_of (x := v) (n := 65536) (by omega)
            refine z_aload 73 rfl rfl rfl ?_
            refine y_ga 76 hR rfl rfl rfl ?_
            refine z_iload 77 rfl rfl rfl ?_
            refine y_al (f := 62) 78 _ hR rfl rfl rfl rfl (by omega) (by repeat (first | with_reducible exact h52 | with_reducible exact a10 | with_reducible exact a3 | with_reducible exact a11 | with_reducible exact a9 | with_reducible exact a7 | with_reducible exact gA_eq _ _ _ _ | (with_reducible apply gA_ne; decide) | with_reducible apply gA_I | with_reducible apply gA_O | (with_reducible apply gA_nj; omega) | with_reducible rfl)) ?_
            refine z_push 81 (nI 300) rfl rfl rfl ?_
            refine z_nle 84 rfl rfl (by omega) (by omega) (fun hc81 => ?_) (fun hc81 => ?_)
            · refine z_aload 92 rfl rfl rfl ?_
              refine y_ga 95 hR rfl rfl rfl ?_
              refine z_iload 96 rfl rfl rfl ?_
              refine z_dup2 97 rfl rfl ?_
              refine y_al (f := 60) 98 _ hR rfl rfl rfl rfl (by omega) (by repeat (first | with_reducible exact h52 | with_reducible exact a10 | with_reducible exact a3 | with_reducible exact a11 | with_reducible exact a9 | with_reducible exact a7 | with_reducible exact gA_eq _ _ _ _ | (with_reducible apply gA_ne; decide) | with_reducible apply gA_I | with_reducible apply gA_O | (with_reducible apply gA_nj; omega) | with_reducible rfl)) ?_
              refine z_push 99 (nI 1) rfl rfl rfl ?_
              refine z_bop 100 _ rfl rfl (by first | with_reducible exact zb_0 _ _ | exact zd_0 _ _) ?_
              refine y_as (f := 60) 101 hR rfl rfl rfl rfl (by omega) ?_
              intro h hR
              refine z_aload 102 rfl rfl rfl ?_
              refine y_ga 105 hR rfl rfl rfl ?_
              refine z_iload 106 rfl rfl rfl ?_
              refine y_bb (f := 54) 107 _ hR rfl rfl rfl rfl (by omega) (by repeat (first | with_reducible exact h52 | with_reducible exact a10 | with_reducible exact a3 | with_reducible exact a11 | with_reducible exact a9 | with_reducible exact a7 | with_reducible exact gA_eq _ _ _ _ | (with_reducible apply gA_ne; decide) | with_reducible apply gA_I | with_reducible apply gA_O | (with_reducible apply gA_nj; omega) | with_reducible rfl)) ?_
              refine z_beq 110 rfl rfl (fun h9 => absurd (h9.symm.trans hc48) (by decide)) (fun _ => ?_)
              refine z_aload 111 rfl rfl rfl ?_
              refine z_iload 112 rfl rfl rfl ?_
              refine z_iload 113 rfl rfl rfl ?_
              refine z_cv2 116 rfl rfl hR.1 rfl (Nat.le_refl _) (Nat.le_refl _) ?_
              refine r_writes (v := some V) (m := mFd m) hR (hI.fd (v := 0) hB hD hm) hA hN (McB_set hB hb.1 hb.2) hD (if_pos rfl) m1 m2 (m7 hc48).1 m3 (m7 hc48).2 (fun u e => by cases e; omega) (by show m.2.2.2.2.2.1.length + 1 ≤ m.2.2.2.2.2.2.1 + 1; omega) (by show m.2.2.2.2.2.2.2.2.length ≤ 300; omega) (fun h s2 hR hI2 _ => ?_)
              refine z_ireti rfl (Nat.le_refl _) (Nat.le_refl _) ?_
              have e9 : sp_feed A (nI D) (nI V) = sp_writes (A.wMcs (setM A.mcs D (mFd m))) D (mFd m) (some V) := by
                rw [sp_feed, if_pos (by omega), hd2, hm]
                show (if _ then _ else _) = _
                rw [if_pos hc30, if_pos (by simp only [hc48]; simp only [if_true, if_false, Bool.false_eq_true]; omega), if_pos (by omega), if_pos hc48, hv2]
              rw [e9] at q
              exact q h s2 hR hI2
            · refine z_aload 85 rfl rfl rfl ?_
              refine z_push 87 (-6) rfl rfl rfl ?_
              refine z_cv1 90 rfl rfl hR.1 rfl (Nat.le_refl _) (Nat.le_refl _) ?_
              refine r_tell hR (fun h9 => absurd h9 (by decide)) (fun _ h hR => ?_)
              refine z_ireti rfl (Nat.le_refl _) (Nat.le_refl _) ?_
              have e9 : sp_feed A (nI D) (nI V) = (-6, A.tell) := by
                rw [sp_feed, if_pos (by omega), hd2, hm]
                show (if _ then _ else _) = _
                rw [if_pos hc30, if_pos (by simp only [hc48]; simp only [if_true, if_false, Bool.false_eq_true]; omega), if_neg (by omega)]
              rw [e9] at q
              exact q h _ hR hI.tell
          · refine z_aload 67 rfl rfl rfl ?_
            refine z_push 68 (-1) rfl rfl rfl ?_
            refine z_cv1 71 rfl rfl hR.1 rfl (Nat.le_refl _) (Nat.le_refl _) ?_
            refine r_tell hR (fun h9 => absurd h9 (by decide)) (fun _ h hR => ?_)
            refine z_ireti rfl (Nat.le_refl _) (Nat.le_refl _) ?_
            rw [decide_eq_false_iff_not] at hc63
            have e9 : sp_feed A (nI D) v = (-1, A.tell) := by
              rw [sp_feed, if_pos (by omega), hd2, hm]
              show (if _ then _ else _) = _
              rw [if_pos hc30, if_neg (by simp only [hc48]; simp only [if_true, if_false, Bool.false_eq_true]; omega)]
            rw [e9] at q
            exact q h _ hR hI.tell
      · refine z_aload 34 rfl rfl rfl ?_
        refine z_push 36 (-2) rfl rfl rfl ?_
        refine z_cv1 39 rfl rfl hR.1 rfl (Nat.le_refl _) (Nat.le_refl _) ?_
        refine r_tell hR (fun h9 => absurd h9 (by decide)) (fun _ h hR => ?_)
        refine z_ireti rfl (Nat.le_refl _) (Nat.le_refl _) ?_
        have e9 : sp_feed A (nI D) v = (-2, A.tell) := by
          rw [sp_feed, if_pos (by omega), hd2, hm]
          show (if _ then _ else _) = _
          rw [if_neg hc30]
        rw [e9] at q
        exact q h _ hR hI.tell
  · refine z_aload 10 rfl rfl rfl ?_
    refine z_push 11 (-1) rfl rfl rfl ?_
    refine z_cv1 14 rfl rfl hR.1 rfl (Nat.le_refl _) (Nat.le_refl _) ?_
    refine r_tell hR (fun h9 => absurd h9 (by decide)) (fun _ h hR => ?_)
    refine z_ireti rfl (Nat.le_refl _) (Nat.le_refl _) ?_
    rw [decide_eq_false_iff_not] at hc6
    have e9 : sp_feed A d0 v = (-1, A.tell) := if_neg (by omega)
    rw [e9] at q
    exact q h _ hR hI.tell
set_option maxRecDepth 100000 in
theorem r_end {d r : Nat} {h h0 : mH} {s : rS} {A : Ab} {d0 : Int32} {Q : mP} (hR : Rf r h0 s h) (hI : RInv s A) (hA : AbW A) (hN : ∀ x, fbN A.fbs 40 x ≤ 16) (hM : AbM A)  (q : ∀ h' s', Rf r h0 s' h' → RInv s' (sp_end A d0).2 → Q (some (.int (sp_end A d0).1)) h') : mWP (d + 55) 243 [.ref r, .int d0] h Q := by
  have hB := hM.B
  refine z_in [some (.ref r), some (.int d0), none] (by rfl) rfl rfl rfl ?_
  refine z_iload 1 rfl rfl rfl ?_
  refine z_push 2 (nI 0) rfl rfl rfl ?_
  refine z_push 3 (nI 3) rfl rfl rfl ?_
  refine z_cs3 6 rfl rfl rfl (Nat.le_refl _) (Nat.le_refl _) ?_
  refine r_in ?_
  rw [jIn_l (by omega) (by omega)]
  first | refine z_bne 9 rfl rfl (fun hc6 => ?_) (fun hc6 => ?_)
  · rw [decide_eq_true_eq] at hc6
    obtain ⟨D, hD, rfl, hd1, hd2⟩ := ix_of (x := d0) (n := 4) (by omega)
    have h52 := mc_52 hI hD
    refine z_aload 16 rfl rfl rfl ?_
    refine y_ga 19 hR rfl rfl rfl ?_
    refine z_iload 20 rfl rfl rfl ?_
    refine y_bb (f := 52) 21 _ hR rfl rfl rfl rfl (by omega) (by repeat (first | with_reducible exact h52 | with_reducible exact a10 | with_reducible exact a3 | with_reducible exact a11 | with_reducible exact b10 | with_reducible exact gA_eq _ _ _ _ | (with_reducible apply gA_ne; decide) | with_reducible apply gA_I | with_reducible apply gA_O | (with_reducible apply gA_nj; omega) | with_reducible rfl)) ?_
    first | refine z_beq 24 rfl rfl (fun hc21 => ?_) (fun hc21 => ?_)
    · refine z_aload 34 rfl rfl rfl ?_
      refine z_push 36 (-2) rfl rfl rfl ?_
      refine z_cv1 39 rfl rfl hR.1 rfl (Nat.le_refl _) (Nat.le_refl _) ?_
      refine r_tell hR (fun h9 => absurd h9 (by decide)) (fun _ h hR => ?_)
      refine z_ireti rfl (Nat.le_refl _) (Nat.le_refl _) ?_
      have hm : A.mcs D = none := by simpa using hc21
      have e9 : sp_end A (nI D) = (-2, A.tell) := by rw [sp_end, if_pos (by omega), hd2, hm]
      rw [e9] at q
      exact q h _ hR hI.tell
    · obtain ⟨m, hm⟩ := Option.isSome_iff_exists.mp hc21
      obtain ⟨a1, a2, a3, a4, a5, a6, a7, a8, a9, a10, a11, a12⟩ := (hI.2.2.2.2.2.2.1 D hD).2 m hm
      have hb := hB D m hm
      obtain ⟨m1, m2, m3, m4, m5, m6, m7, m8⟩ := hM D m hm
      refine z_aload 25 rfl rfl rfl ?_
      refine y_ga 28 hR rfl rfl rfl ?_
      refine z_iload 29 rfl rfl rfl ?_
      refine y_al (f := 61) 30 _ hR rfl rfl rfl rfl (by omega) (by repeat (first | with_reducible exact h52 | with_reducible exact a10 | with_reducible exact a3 | with_reducible exact a11 | with_reducible exact b10 | with_reducible exact gA_eq _ _ _ _ | (with_reducible apply gA_ne; decide) | with_reducible apply gA_I | with_reducible apply gA_O | (with_reducible apply gA_nj; omega) | with_reducible rfl)) ?_
      first | refine z_zeq 33 rfl rfl (by omega) (fun hc30 => ?_) (fun hc30 => ?_)
      · refine z_aload 41 rfl rfl rfl ?_
        refine y_ga 44 hR rfl rfl rfl ?_
        refine z_iload 45 rfl rfl rfl ?_
        refine y_al (f := 62) 46 _ hR rfl rfl rfl rfl (by omega) (by repeat (first | with_reducible exact h52 | with_reducible exact a10 | with_reducible exact a3 | with_reducible exact a11 | with_reducible exact b10 | with_reducible exact gA_eq _ _ _ _ | (with_reducible apply gA_ne; decide) | with_reducible apply gA_I | with_reducible apply gA_O | (with_reducible apply gA_nj; omega) | with_reducible rfl)) ?_
        refine z_push 49 (nI 300) rfl rfl rfl ?_
        refine z_nle 52 rfl rfl (by omega) (by omega) (fun hc49 => ?_) (fun hc49 => ?_)
        · refine z_aload 60 rfl rfl rfl ?_
          refine y_ga 63 hR rfl rfl rfl ?_
          refine z_iload 64 rfl rfl rfl ?_
          refine y_bb (f := 54) 65 _ hR rfl rfl rfl rfl (by omega) (by repeat (first | with_reducible exact h52 | with_reducible exact a10 | with_reducible exact a3 | with_reducible exact a11 | with_reducible exact b10 | with_reducible exact gA_eq _ _ _ _ | (with_reducible apply gA_ne; decide) | with_reducible apply gA_I | with_reducible apply gA_O | (with_reducible apply gA_nj; omega) | with_reducible rfl)) ?_
          first | refine z_beq 68 rfl rfl (fun hc65 => ?_) (fun hc65 => ?_)
          · refine z_aload 78 rfl rfl rfl ?_
            refine z_iload 79 rfl rfl rfl ?_
            refine z_push 80 (nI 1) rfl rfl rfl ?_
            refine z_cv2 83 rfl rfl hR.1 rfl (Nat.le_refl _) (Nat.le_refl _) ?_
            refine r_readsB (last := true) (m := m) hR hI hA hB hD hm m1 (m8 hc65).2.1 m6.1 (m8 hc65).1 (m8 hc65).2.2.1 m4 (by omega) (fun h s2 hR hI2 hB2 => ?_)
            · obtain ⟨m9, hm9, hmo9⟩ : ∃ m9, (sp_reads A D m true).2.mcs D = some m9 ∧ m9.2.2.2.2.2.2.2.1 ≤ 2 := by
                unfold sp_reads
                split
                · exact ⟨_, if_pos rfl, Nat.le_refl _⟩
                · exact ⟨_, if_pos rfl, m6.2⟩
              obtain ⟨b1, b2, b3, b4, b5, b6, b7, b8, b9, b10, b11, b12⟩ := (hI2.2.2.2.2.2.2.1 D hD).2 m9 hm9
              refine z_istore 84 rfl rfl rfl rfl ?_
              refine z_aload 85 rfl rfl rfl ?_
              refine y_ga 88 hR rfl rfl rfl ?_
              refine z_iload 89 rfl rfl rfl ?_
              refine z_push 90 (nI 4) rfl rfl rfl ?_
              refine y_as (f := 57) 91 hR rfl rfl rfl rfl (by omega) ?_
              intro h hR
              refine z_aload 92 rfl rfl rfl ?_
              refine y_ga 95 hR rfl rfl rfl ?_
              refine z_iload 96 rfl rfl rfl ?_
              refine z_push 97 (nI 0) rfl rfl rfl ?_
              refine y_as (f := 58) 98 hR rfl rfl rfl rfl (by omega) ?_
              intro h hR
              refine z_aload 99 rfl rfl rfl ?_
              refine y_ga 102 hR rfl rfl rfl ?_
              refine z_iload 103 rfl rfl rfl ?_
              refine y_al (f := 61) 104 _ hR rfl rfl rfl rfl (by omega) (by repeat (first | with_reducible exact h52 | with_reducible exact a10 | with_reducible exact a3 | with_reducible exact a11 | with_reducible exact b10 | with_reducible exact gA_eq _ _ _ _ | (with_reducible apply gA_ne; decide) | with_reducible apply gA_I | with_reducible apply gA_O | (with_reducible apply gA_nj; omega) | with_reducible rfl)) ?_
              first | refine z_zne 107 rfl rfl (by omega) (fun hc104 => ?_) (fun hc104 => ?_)
              · refine z_iload 115 rfl rfl rfl ?_
                refine z_ireti rfl (Nat.le_refl _) (Nat.le_refl _) ?_
                have e9 : sp_end A (nI D) = edA (sp_reads A D m true) D := by
                  rw [sp_end, if_pos (by omega), hd2, hm]
                  show (if _ then _ else _) = _
                  rw [if_pos hc30, if_pos (by omega), if_neg (by rw [hc65]; decide)]
                rw [e9] at q
                have e8 : edA (sp_reads A D m true) D = ((sp_reads A D m true).1, (sp_reads A D m true).2.wMcs (setM (sp_reads A D m true).2.mcs D (mEd m9))) := by rw [edA, hm9]
                rw [e8] at q
                exact q h _ hR (hI2.ed2 (v := 0) hB2 hD hm9 hc104)
              · refine z_aload 108 rfl rfl rfl ?_
                refine y_ga 111 hR rfl rfl rfl ?_
                refine z_iload 112 rfl rfl rfl ?_
                refine z_push 113 (nI 1) rfl rfl rfl ?_
                refine y_as (f := 61) 114 hR rfl rfl rfl rfl (by omega) ?_
                intro h hR
                refine z_iload 115 rfl rfl rfl ?_
                refine z_ireti rfl (Nat.le_refl _) (Nat.le_refl _) ?_
                have e9 : sp_end A (nI D) = edA (sp_reads A D m true) D := by
                  rw [sp_end, if_pos (by omega), hd2, hm]
                  show (if _ then _ else _) = _
                  rw [if_pos hc30, if_pos (by omega), if_neg (by rw [hc65]; decide)]
                rw [e9] at q
                have e8 : edA (sp_reads A D m true) D = ((sp_reads A D m true).1, (sp_reads A D m true).2.wMcs (setM (sp_reads A D m true).2.mcs D (mEd m9))) := by rw [edA, hm9]
                rw [e8] at q
                exact q h _ hR (hI2.ed0 (v := 0) hB2 hD hm9 hc104)
          · refine z_aload 69 rfl rfl rfl ?_
            refine z_iload 70 rfl rfl rfl ?_
            refine z_push 71 (-1) rfl rfl rfl ?_
            refine z_cv2 74 rfl rfl hR.1 rfl (Nat.le_refl _) (Nat.le_refl _) ?_
            refine r_writes (v := none) (m := m) hR hI hA hN hB hD hm m1 m2 (m7 hc65).1 m3 (m7 hc65).2 (fun u e => by cases e) (by show m.2.2.2.2.2.1.length + 0 ≤ _; omega) (by omega) (fun h s2 hR hI2 hB2 => ?_)
            · obtain ⟨m9, hm9, hmo9⟩ : ∃ m9, (sp_writes A D m none).2.mcs D = some m9 ∧ m9.2.2.2.2.2.2.2.1 ≤ 2 := by
                unfold sp_writes
                split
                · exact ⟨_, if_pos rfl, Nat.le_refl _⟩
                · exact ⟨_, if_pos rfl, m6.2⟩
              obtain ⟨b1, b2, b3, b4, b5, b6, b7, b8, b9, b10, b11, b12⟩ := (hI2.2.2.2.2.2.2.1 D hD).2 m9 hm9
              refine z_goto rfl ?_
              refine z_istore 84 rfl rfl rfl rfl ?_
              refine z_aload 85 rfl rfl rfl ?_
              refine y_ga 88 hR rfl rfl rfl ?_
              refine z_iload 89 rfl rfl rfl ?_
              refine z_push 90 (nI 4) rfl rfl rfl ?_
              refine y_as (f := 57) 91 hR rfl rfl rfl rfl (by omega) ?_
              intro h hR
              refine z_aload 92 rfl rfl rfl ?_
              refine y_ga 95 hR rfl rfl rfl ?_
              refine z_iload 96 rfl rfl rfl ?_
              refine z_push 97 (nI 0) rfl rfl rfl ?_
              refine y_as (f := 58) 98 hR rfl rfl rfl rfl (by omega) ?_
              intro h hR
              refine z_aload 99 rfl rfl rfl ?_
              refine y_ga 102 hR rfl rfl rfl ?_
              refine z_iload 103 rfl rfl rfl ?_
              refine y_al (f := 61) 104 _ hR rfl rfl rfl rfl (by omega) (by repeat (first | with_reducible exact h52 | with_reducible exact a10 | with_reducible exact a3 | with_reducible exact a11 | with_reducible exact b10 | with_reducible exact gA_eq _ _ _ _ | (with_reducible apply gA_ne; decide) | with_reducible apply gA_I | with_reducible apply gA_O | (with_reducible apply gA_nj; omega) | with_reducible rfl)) ?_
              first | refine z_zne 107 rfl rfl (by omega) (fun hc104 => ?_) (fun hc104 => ?_)
              · refine z_iload 115 rfl rfl rfl ?_
                refine z_ireti rfl (Nat.le_refl _) (Nat.le_refl _) ?_
                have e9 : sp_end A (nI D) = edA (sp_writes A D m none) D := by
                  rw [sp_end, if_pos (by omega), hd2, hm]
                  show (if _ then _ else _) = _
                  rw [if_pos hc30, if_pos (by omega), if_pos hc65]
                rw [e9] at q
                have e8 : edA (sp_writes A D m none) D = ((sp_writes A D m none).1, (sp_writes A D m none).2.wMcs (setM (sp_writes A D m none).2.mcs D (mEd m9))) := by rw [edA, hm9]
                rw [e8] at q
                exact q h _ hR (hI2.ed2 (v := 0) hB2 hD hm9 hc104)
              · refine z_aload 108 rfl rfl rfl ?_
                refine y_ga 111 hR rfl rfl rfl ?_
                refine z_iload 112 rfl rfl rfl ?_
                refine z_push 113 (nI 1) rfl rfl rfl ?_
                refine y_as (f := 61) 114 hR rfl rfl rfl rfl (by omega) ?_
                intro h hR
                refine z_iload 115 rfl rfl rfl ?_
                refine z_ireti rfl (Nat.le_refl _) (Nat.le_refl _) ?_
                have e9 : sp_end A (nI D) = edA (sp_writes A D m none) D := by
                  rw [sp_end, if_pos (by omega), hd2, hm]
                  show (if _ then _ else _) = _
                  rw [if_pos hc30, if_pos (by omega), if_pos hc65]
                rw [e9] at q
                have e8 : edA (sp_writes A D m none) D = ((sp_writes A D m none).1, (sp_writes A D m none).2.wMcs (setM (sp_writes A D m none).2.mcs D (mEd m9))) := by rw [edA, hm9]
                rw [e8] at q
                exact q h _ hR (hI2.ed0 (v := 0) hB2 hD hm9 hc104)
        · refine z_aload 53 rfl rfl rfl ?_
          refine z_push 55 (-6) rfl rfl rfl ?_
          refine z_cv1 58 rfl rfl hR.1 rfl (Nat.le_refl _) (Nat.le_refl _) ?_
          refine r_tell hR (fun h9 => absurd h9 (by decide)) (fun _ h hR => ?_)
          refine z_ireti rfl (Nat.le_refl _) (Nat.le_refl _) ?_
          have e9 : sp_end A (nI D) = (-6, A.tell) := by
            rw [sp_end, if_pos (by omega), hd2, hm]
            show (if _ then _ else _) = _
            rw [if_pos hc30, if_neg (by omega)]
          rw [e9] at q
          exact q h _ hR hI.tell
      · refine z_aload 34 rfl rfl rfl ?_
        refine z_push 36 (-2) rfl rfl rfl ?_
        refine z_cv1 39 rfl rfl hR.1 rfl (Nat.le_refl _) (Nat.le_refl _) ?_
        refine r_tell hR (fun h9 => absurd h9 (by decide)) (fun _ h hR => ?_)
        refine z_ireti rfl (Nat.le_refl _) (Nat.le_refl _) ?_
        have e9 : sp_end A (nI D) = (-2, A.tell) := by
          rw [sp_end, if_pos (by omega), hd2, hm]
          show (if _ then _ else _) = _
          rw [if_neg hc30]
        rw [e9] at q
        exact q h _ hR hI.tell
  · refine z_aload 10 rfl rfl rfl ?_
    refine z_push 11 (-1) rfl rfl rfl ?_
    refine z_cv1 14 rfl rfl hR.1 rfl (Nat.le_refl _) (Nat.le_refl _) ?_
    refine r_tell hR (fun h9 => absurd h9 (by decide)) (fun _ h hR => ?_)
    refine z_ireti rfl (Nat.le_refl _) (Nat.le_refl _) ?_
    rw [decide_eq_false_iff_not] at hc6
    have e9 : sp_end A d0 = (-1, A.tell) := if_neg (by omega)
    rw [e9] at q
    exact q h _ hR hI.tell
