/-! the reference: begin, machine, take -/
def setM (ms : Nat → Option Mc) (d : Nat) (m : Mc) : Nat → Option Mc := fun i => if i = d then some m else ms i
def SameM (s s' : rS) (i : Nat) : Prop := s'.2.2 52 i = s.2.2 52 i ∧ s'.2.2 53 i = s.2.2 53 i ∧ s'.2.2 54 i = s.2.2 54 i ∧ s'.2.2 55 i = s.2.2 55 i ∧ s'.2.2 56 i = s.2.2 56 i ∧ s'.2.2 57 i = s.2.2 57 i ∧ s'.2.2 58 i = s.2.2 58 i ∧ s'.2.2 60 i = s.2.2 60 i ∧ s'.2.2 61 i = s.2.2 61 i ∧ s'.2.2 62 i = s.2.2 62 i ∧ (∀ j, j < 8 → s'.2.2 59 (8 * i + j) = s.2.2 59 (8 * i + j)) ∧ (∀ j, j < 1200 → s'.2.2 63 (1200 * i + j) = s.2.2 63 (1200 * i + j))
def McB (ms : Nat → Option Mc) : Prop := ∀ i m, ms i = some m → m.2.2.2.2.2.1.length ≤ 8 ∧ m.2.2.2.2.2.2.2.2.length ≤ 1200
theorem RM1.same {s s' : rS} {i : Nat} {m : Mc} (h : RM1 s i m) (hs : SameM s s' i) (hk : m.2.2.2.2.2.1.length ≤ 8) (hq : m.2.2.2.2.2.2.2.2.length ≤ 1200) : RM1 s' i m := by
  obtain ⟨a1, a2, a3, a4, a5, a6, a7, a8, a9, a10, a11, a12⟩ := h
  obtain ⟨b1, b2', b3, b4, b5, b6, b7, b8, b9, b10, b11, b12⟩ := hs
  exact ⟨b1.trans a1, b2'.trans a2, b3.trans a3, b4.trans a4, b5.trans a5, b6.trans a6, b7.trans a7, fun j hj => (b11 j (by omega)).trans (a8 j hj), b8.trans a9, b9.trans a10, b10.trans a11, fun j hj => (b12 j (by omega)).trans (a12 j hj)⟩
theorem RInv.mc {s s' : rS} {A : Ab} {d : Nat} {m : Mc} (hI : RInv s A) (hB : McB A.mcs) (h1 : ∀ c, rPers c = true → (c < 52 ∨ 63 < c) → s'.1 c = s.1 c ∧ s'.2.2 c = s.2.2 c) (hm : RM1 s' d m) (ho : ∀ i, i < 4 → i ≠ d → SameM s s' i) : RInv s' ((A.wPlc (s'.1 22)).wMcs (setM A.mcs d m)) := by
  obtain ⟨a1, a2, a3, a4, a5, a6, a7, a8, a9, a10, a11⟩ := hI
  have n : ∀ c, rPers c = true → c < 52 → s'.1 c = s.1 c ∧ s'.2.2 c = s.2.2 c := fun c hc h => h1 c hc (Or.inl h)
  refine ⟨?_, ?_, ?_, ?_, ?_, ?_, fun i hi => ⟨fun e => ?_, fun m' e => ?_⟩, rfl, ?_, (n 24 rfl (by decide)).1.trans a10, (n 48 rfl (by decide)).1.trans a11⟩
  · refine ⟨(n 0 rfl (by decide)).1.trans a1.1, a1.2.1, fun p hp => ⟨?_, ?_, ?_⟩⟩
    · rw [(n 1 rfl (by decide)).2]; exact (a1.2.2 p hp).1
    · rw [(n 2 rfl (by decide)).2]; exact (a1.2.2 p hp).2.1
    · have hT := (a1.2.2 p hp).2.2
      simp only [TbR, (n 3 rfl (by decide)).2, (n 4 rfl (by decide)).2, (n 5 rfl (by decide)).2, (n 6 rfl (by decide)).2, (n 7 rfl (by decide)).2, (n 8 rfl (by decide)).2, (n 9 rfl (by decide)).2, (n 10 rfl (by decide)).2, (n 11 rfl (by decide)).2, (n 12 rfl (by decide)).2, (n 13 rfl (by decide)).2]
      exact hT
  · simp only [RBy, (n 14 rfl (by decide)).1, (n 15 rfl (by decide)).2]; exact a2
  · simp only [RUn, (n 16 rfl (by decide)).1, (n 17 rfl (by decide)).2]; exact a3
  · simp only [RRe, (n 18 rfl (by decide)).1, (n 19 rfl (by decide)).1, (n 20 rfl (by decide)).2]; exact a4
  · simp only [RSg, (n 21 rfl (by decide)).2]; exact a5
  · simp only [RFb, (n 25 rfl (by decide)).1, (n 26 rfl (by decide)).2, (n 27 rfl (by decide)).2, (n 28 rfl (by decide)).2]; exact a6
  · by_cases hd : i = d
    · subst hd
      rw [show ((A.wPlc (s'.1 22)).wMcs (setM A.mcs i m)).mcs i = some m from if_pos rfl] at e
      cases e
    · rw [show ((A.wPlc (s'.1 22)).wMcs (setM A.mcs d m)).mcs i = A.mcs i from if_neg hd] at e
      exact (ho i hi hd).1.trans ((a7 i hi).1 e)
  · by_cases hd : i = d
    · subst hd
      rw [show ((A.wPlc (s'.1 22)).wMcs (setM A.mcs i m)).mcs i = some m from if_pos rfl] at e
      cases e
      exact hm
    · rw [show ((A.wPlc (s'.1 22)).wMcs (setM A.mcs d m)).mcs i = A.mcs i from if_neg hd] at e
      exact ((a7 i hi).2 m' e).same (ho i hi hd) (hB i m' e).1 (hB i m' e).2
  · simp only [RBk, (n 23 rfl (by decide)).2]; exact a9
def sp_begin (A : Ab) (d p : Int32) (wr : Bool) (ru : Int32) : Int32 × Ab :=
  if (0 ≤ d.toInt ∧ d.toInt ≤ 3) ∧ (0 ≤ p.toInt ∧ p.toInt < A.pgs.length) then
    if pgC A.pgs p.toInt.toNat = true then
      if 0 ≤ ru.toInt ∧ ru.toInt ≤ (if wr = true then 4 else 3) then (nI 0, A.wMcs (setM A.mcs d.toInt.toNat (p.toInt.toNat, wr, ru.toInt.toNat, 0, 4, [], 0, 0, [])))
      else (-1, A.tell)
    else (-5, A.tell)
  else (-1, A.tell)
def sp_machine (A : Ab) (d w : Int32) : Int32 × Ab :=
  if 0 ≤ d.toInt ∧ d.toInt ≤ 3 then
    match A.mcs d.toInt.toNat with
    | none => (-2, A.tell)
    | some m => if 0 ≤ w.toInt ∧ w.toInt < 5 then (nI ([m.2.2.2.2.2.2.2.2.length, m.2.2.2.1, m.2.2.2.2.1, m.2.2.2.2.2.1.length, m.2.2.2.2.2.2.2.1].getD w.toInt.toNat 0), A) else (-1, A.tell)
  else (-1, A.tell)
def sp_take (A : Ab) (d : Int32) : Int32 × Ab :=
  if 0 ≤ d.toInt ∧ d.toInt ≤ 3 then
    match A.mcs d.toInt.toNat with
    | none => (-2, A.tell)
    | some m => match m.2.2.2.2.2.2.2.2 with
      | [] => (-2, A.tell)
      | v :: l => (nI v, A.wMcs (setM A.mcs d.toInt.toNat (m.1, m.2.1, m.2.2.1, m.2.2.2.1, m.2.2.2.2.1, m.2.2.2.2.2.1, m.2.2.2.2.2.2.1, m.2.2.2.2.2.2.2.1, l)))
  else (-1, A.tell)
theorem mc_52 {s : rS} {A : Ab} (hI : RInv s A) {D : Nat} (hD : D < 4) : s.2.2 52 D = b2 (A.mcs D).isSome := by
  have := hI.2.2.2.2.2.2.1 D hD
  rcases h : A.mcs D with _ | m
  · exact this.1 h
  · exact (this.2 m h).1
set_option maxRecDepth 10000 in
theorem r_machine {dd r : Nat} {h h0 : mH} {s : rS} {A : Ab} {d w : Int32} {Q : mP} (hR : Rf r h0 s h) (hI : RInv s A)  (q : ∀ h' s', Rf r h0 s' h' → RInv s' (sp_machine A d w).2 → Q (some (.int (sp_machine A d w).1)) h') : mWP (dd + 2) 245 [.ref r, .int d, .int w] h Q := by
  refine z_in [some (.ref r), some (.int d), some (.int w)] (by rfl) rfl rfl rfl ?_
  refine z_iload 1 rfl rfl rfl ?_
  refine z_push 2 (nI 0) rfl rfl rfl ?_
  refine z_push 3 (nI 3) rfl rfl rfl ?_
  refine z_cs3 6 rfl rfl rfl (Nat.le_refl _) (Nat.le_refl _) ?_
  refine r_in ?_
  rw [jIn_l (by omega) (by omega)]
  first | refine z_bne 9 rfl rfl (fun hc6 => ?_) (fun hc6 => ?_)
  · rw [decide_eq_true_eq] at hc6
    obtain ⟨D, hD, rfl, hd1, hd2⟩ := ix_of (x := d) (n := 4) (by omega)
    have h52 := mc_52 hI hD
    refine z_aload 16 rfl rfl rfl ?_
    refine y_ga 19 hR rfl rfl rfl ?_
    refine z_iload 20 rfl rfl rfl ?_
    refine y_bb (f := 52) 21 _ hR rfl rfl rfl rfl (by omega) (by repeat (first | with_reducible exact h52 | with_reducible exact a5 | with_reducible exact a6 | with_reducible exact a7 | with_reducible exact a10 | with_reducible exact a11 | with_reducible exact gA_eq _ _ _ _ | (with_reducible apply gA_ne; decide) | with_reducible apply gA_I | with_reducible apply gA_O | (with_reducible apply gA_nj; omega) | with_reducible rfl)) ?_
    first | refine z_bne 24 rfl rfl (fun hc21 => ?_) (fun hc21 => ?_)
    · obtain ⟨m, hm⟩ := Option.isSome_iff_exists.mp hc21
      obtain ⟨a1, a2, a3, a4, a5, a6, a7, a8, a9, a10, a11, a12⟩ := (hI.2.2.2.2.2.2.1 D hD).2 m hm
      refine z_iload 32 rfl rfl rfl ?_
      by_cases hsw : (0 : Int) ≤ (w).toInt ∧ (w).toInt < 5
      · obtain ⟨j9, hj9, hx9⟩ : ∃ j9 : Nat, j9 < 5 ∧ (w).toInt = 0 + (j9 : Int) := ⟨((w).toInt - 0).toNat, by omega, by omega⟩
        have h9 : j9 = 0 ∨ j9 = 1 ∨ j9 = 2 ∨ j9 = 3 ∨ j9 = 4 := by omega
        rcases h9 with rfl | rfl | rfl | rfl | rfl
        · refine z_swIn 68 rfl 0 (by omega) rfl ?_
          refine z_aload 69 rfl rfl rfl ?_
          refine y_ga 72 hR rfl rfl rfl ?_
          refine z_iload 73 rfl rfl rfl ?_
          refine y_al (f := 62) 74 _ hR rfl rfl rfl rfl (by omega) (by repeat (first | with_reducible exact h52 | with_reducible exact a5 | with_reducible exact a6 | with_reducible exact a7 | with_reducible exact a10 | with_reducible exact a11 | with_reducible exact gA_eq _ _ _ _ | (with_reducible apply gA_ne; decide) | with_reducible apply gA_I | with_reducible apply gA_O | (with_reducible apply gA_nj; omega) | with_reducible rfl)) ?_
          refine z_ireti rfl (Nat.le_refl _) (Nat.le_refl _) ?_
          have e9 : sp_machine A (nI D) w = (nI ([m.2.2.2.2.2.2.2.2.length, m.2.2.2.1, m.2.2.2.2.1, m.2.2.2.2.2.1.length, m.2.2.2.2.2.2.2.1].getD w.toInt.toNat 0), A) := by
            rw [sp_machine, if_pos (by omega), hd2, hm]
            exact if_pos (by omega)
          rw [e9, show w.toInt.toNat = 0 from by omega] at q
          exact q h _ hR hI
        · refine z_swIn 75 rfl 1 (by omega) rfl ?_
          refine z_aload 76 rfl rfl rfl ?_
          refine y_ga 79 hR rfl rfl rfl ?_
          refine z_iload 80 rfl rfl rfl ?_
          refine y_al (f := 56) 81 _ hR rfl rfl rfl rfl (by omega) (by repeat (first | with_reducible exact h52 | with_reducible exact a5 | with_reducible exact a6 | with_reducible exact a7 | with_reducible exact a10 | with_reducible exact a11 | with_reducible exact gA_eq _ _ _ _ | (with_reducible apply gA_ne; decide) | with_reducible apply gA_I | with_reducible apply gA_O | (with_reducible apply gA_nj; omega) | with_reducible rfl)) ?_
          refine z_ireti rfl (Nat.le_refl _) (Nat.le_refl _) ?_
          have e9 : sp_machine A (nI D) w = (nI ([m.2.2.2.2.2.2.2.2.length, m.2.2.2.1, m.2.2.2.2.1, m.2.2.2.2.2.1.length, m.2.2.2.2.2.2.2.1].getD w.toInt.toNat 0), A) := by
            rw [sp_machine, if_pos (by omega), hd2, hm]
            exact if_pos (by omega)
          rw [e9, show w.toInt.toNat = 1 from by omega] at q
          exact q h _ hR hI
        · refine z_swIn 82 rfl 2 (by omega) rfl ?_
          refine z_aload 83 rfl rfl rfl ?_
          refine y_ga 86 hR rfl rfl rfl ?_
          refine z_iload 87 rfl rfl rfl ?_
          refine y_al (f := 57) 88 _ hR rfl rfl rfl rfl (by omega) (by repeat (first | with_reducible exact h52 | with_reducible exact a5 | with_reducible exact a6 | with_reducible exact a7 | with_reducible exact a10 | with_reducible exact a11 | with_reducible exact gA_eq _ _ _ _ | (with_reducible apply gA_ne; decide) | with_reducible apply gA_I | with_reducible apply gA_O | (with_reducible apply gA_nj; omega) | with_reducible rfl)) ?_
          refine z_ireti rfl (Nat.le_refl _) (Nat.le_refl _) ?_
          have e9 : sp_machine A (nI D) w = (nI ([m.2.2.2.2.2.2.2.2.length, m.2.2.2.1, m.2.2.2.2.1, m.2.2.2.2.2.1.length, m.2.2.2.2.2.2.2.1].getD w.toInt.toNat 0), A) := by
            rw [sp_machine, if_pos (by omega), hd2, hm]
            exact if_pos (by omega)
          rw [e9, show w.toInt.toNat = 2 from by omega] at q
          exact q h _ hR hI
        · refine z_swIn 89 rfl 3 (by omega) rfl ?_
          refine z_aload 90 rfl rfl rfl ?_
          refine y_ga 93 hR rfl rfl rfl ?_
          refine z_iload 94 rfl rfl rfl ?_
          refine y_al (f := 58) 95 _ hR rfl rfl rfl rfl (by omega) (by repeat (first | with_reducible exact h52 | with_reducible exact a5 | with_reducible exact a6 | with_reducible exact a7 | with_reducible exact a10 | with_reducible exact a11 | with_reducible exact gA_eq _ _ _ _ | (with_reducible apply gA_ne; decide) | with_reducible apply gA_I | with_reducible apply gA_O | (with_reducible apply gA_nj; omega) | with_reducible rfl)) ?_
          refine z_ireti rfl (Nat.le_refl _) (Nat.le_refl _) ?_
          have e9 : sp_machine A (nI D) w = (nI ([m.2.2.2.2.2.2.2.2.length, m.2.2.2.1, m.2.2.2.2.1, m.2.2.2.2.2.1.length, m.2.2.2.2.2.2.2.1].getD w.toInt.toNat 0), A) := by
            rw [sp_machine, if_pos (by omega), hd2, hm]
            exact if_pos (by omega)
          rw [e9, show w.toInt.toNat = 3 from by omega] at q
          exact q h _ hR hI
        · refine z_swIn 96 rfl 4 (by omega) rfl ?_
          refine z_aload 97 rfl rfl rfl ?_
          refine y_ga 100 hR rfl rfl rfl ?_
          refine z_iload 101 rfl rfl rfl ?_
          refine y_al (f := 61) 102 _ hR rfl rfl rfl rfl (by omega) (by repeat (first | with_reducible exact h52 | with_reducible exact a5 | with_reducible exact a6 | with_reducible exact a7 | with_reducible exact a10 | with_reducible exact a11 | with_reducible exact gA_eq _ _ _ _ | (with_reducible apply gA_ne; decide) | with_reducible apply gA_I | with_reducible apply gA_O | (with_reducible apply gA_nj; omega) | with_reducible rfl)) ?_
          refine z_ireti rfl (Nat.le_refl _) (Nat.le_refl _) ?_
          have e9 : sp_machine A (nI D) w = (nI ([m.2.2.2.2.2.2.2.2.length, m.2.2.2.1, m.2.2.2.2.1, m.2.2.2.2.2.1.length, m.2.2.2.2.2.2.2.1].getD w.toInt.toNat 0), A) := by
            rw [sp_machine, if_pos (by omega), hd2, hm]
            exact if_pos (by omega)
          rw [e9, show w.toInt.toNat = 4 from by omega] at q
          exact q h _ hR hI
      · refine z_swOut rfl (by simp only [List.length]; omega) ?_
        refine z_aload 104 rfl rfl rfl ?_
        refine z_push 105 (-1) rfl rfl rfl ?_
        refine z_cv1 108 rfl rfl hR.1 rfl (Nat.le_refl _) (Nat.le_refl _) ?_
        refine r_tell hR (fun h9 => absurd h9 (by decide)) (fun _ h hR => ?_)
        refine z_ireti rfl (Nat.le_refl _) (Nat.le_refl _) ?_
        have e9 : sp_machine A (nI D) w = (-1, A.tell) := by
          rw [sp_machine, if_pos (by omega), hd2, hm]
          exact if_neg (by omega)
        rw [e9] at q
        exact q h _ hR hI.tell
    · refine z_aload 25 rfl rfl rfl ?_
      refine z_push 27 (-2) rfl rfl rfl ?_
      refine z_cv1 30 rfl rfl hR.1 rfl (Nat.le_refl _) (Nat.le_refl _) ?_
      refine r_tell hR (fun h9 => absurd h9 (by decide)) (fun _ h hR => ?_)
      refine z_ireti rfl (Nat.le_refl _) (Nat.le_refl _) ?_
      have hm : A.mcs D = none := by simpa using hc21
      have e9 : sp_machine A (nI D) w = (-2, A.tell) := by rw [sp_machine, if_pos (by omega), hd2, hm]
      rw [e9] at q
      exact q h _ hR hI.tell
  · refine z_aload 10 rfl rfl rfl ?_
    refine z_push 11 (-1) rfl rfl rfl ?_
    refine z_cv1 14 rfl rfl hR.1 rfl (Nat.le_refl _) (Nat.le_refl _) ?_
    refine r_tell hR (fun h9 => absurd h9 (by decide)) (fun _ h hR => ?_)
    refine z_ireti rfl (Nat.le_refl _) (Nat.le_refl _) ?_
    rw [decide_eq_false_iff_not] at hc6
    have e9 : sp_machine A d w = (-1, A.tell) := if_neg (by omega)
    rw [e9] at q
    exact q h _ hR hI.tell
theorem RInv.beg {s : rS} {A : Ab} {D P R : Nat} {wr : Bool} (hI : RInv s A) (hB : McB A.mcs) : RInv (stA 62 D 0 (stA 61 D 0 (stA 60 D 0 (stA 58 D 0 (stA 57 D 4 (stA 56 D 0 (stA 55 D R (stA 54 D (b2 wr) (stA 53 D P (stA 52 D 1 s)))))))))) (A.wMcs (setM A.mcs D (P, wr, R, 0, 4, [], 0, 0, []))) := by
  have h := hI.mc (s' := (stA 62 D 0 (stA 61 D 0 (stA 60 D 0 (stA 58 D 0 (stA 57 D 4 (stA 56 D 0 (stA 55 D R (stA 54 D (b2 wr) (stA 53 D P (stA 52 D 1 s))))))))))) (d := D) (m := (P, wr, R, 0, 4, [], 0, 0, [])) hB (fun c hc hr => ⟨rfl, by rw [gAf (by omega), gAf (by omega), gAf (by omega), gAf (by omega), gAf (by omega), gAf (by omega), gAf (by omega), gAf (by omega), gAf (by omega), gAf (by omega)]⟩) ⟨by repeat (first | with_reducible exact gA_eq _ _ _ _ | (with_reducible apply gA_ne; decide) | with_reducible apply gA_I | with_reducible apply gA_O | (with_reducible apply gA_nj; omega) | with_reducible rfl | exact gA_eq _ _ _ _), by repeat (first | with_reducible exact gA_eq _ _ _ _ | (with_reducible apply gA_ne; decide) | with_reducible apply gA_I | with_reducible apply gA_O | (with_reducible apply gA_nj; omega) | with_reducible rfl | exact gA_eq _ _ _ _), by repeat (first | with_reducible exact gA_eq _ _ _ _ | (with_reducible apply gA_ne; decide) | with_reducible apply gA_I | with_reducible apply gA_O | (with_reducible apply gA_nj; omega) | with_reducible rfl | exact gA_eq _ _ _ _), by repeat (first | with_reducible exact gA_eq _ _ _ _ | (with_reducible apply gA_ne; decide) | with_reducible apply gA_I | with_reducible apply gA_O | (with_reducible apply gA_nj; omega) | with_reducible rfl | exact gA_eq _ _ _ _), by repeat (first | with_reducible exact gA_eq _ _ _ _ | (with_reducible apply gA_ne; decide) | with_reducible apply gA_I | with_reducible apply gA_O | (with_reducible apply gA_nj; omega) | with_reducible rfl | exact gA_eq _ _ _ _), by repeat (first | with_reducible exact gA_eq _ _ _ _ | (with_reducible apply gA_ne; decide) | with_reducible apply gA_I | with_reducible apply gA_O | (with_reducible apply gA_nj; omega) | with_reducible rfl | exact gA_eq _ _ _ _), by repeat (first | with_reducible exact gA_eq _ _ _ _ | (with_reducible apply gA_ne; decide) | with_reducible apply gA_I | with_reducible apply gA_O | (with_reducible apply gA_nj; omega) | with_reducible rfl | exact gA_eq _ _ _ _), fun j hj => absurd hj (Nat.not_lt_zero j), by repeat (first | with_reducible exact gA_eq _ _ _ _ | (with_reducible apply gA_ne; decide) | with_reducible apply gA_I | with_reducible apply gA_O | (with_reducible apply gA_nj; omega) | with_reducible rfl | exact gA_eq _ _ _ _), by repeat (first | with_reducible exact gA_eq _ _ _ _ | (with_reducible apply gA_ne; decide) | with_reducible apply gA_I | with_reducible apply gA_O | (with_reducible apply gA_nj; omega) | with_reducible rfl | exact gA_eq _ _ _ _), by repeat (first | with_reducible exact gA_eq _ _ _ _ | (with_reducible apply gA_ne; decide) | with_reducible apply gA_I | with_reducible apply gA_O | (with_reducible apply gA_nj; omega) | with_reducible rfl | exact gA_eq _ _ _ _), fun j hj => absurd hj (Nat.not_lt_zero j)⟩ (fun i hi hd => ⟨by repeat (first | with_reducible exact gA_eq _ _ _ _ | (with_reducible apply gA_ne; decide) | with_reducible apply gA_I | with_reducible apply gA_O | (with_reducible apply gA_nj; omega) | with_reducible rfl | exact gA_eq _ _ _ _), by repeat (first | with_reducible exact gA_eq _ _ _ _ | (with_reducible apply gA_ne; decide) | with_reducible apply gA_I | with_reducible apply gA_O | (with_reducible apply gA_nj; omega) | with_reducible rfl | exact gA_eq _ _ _ _), by repeat (first | with_reducible exact gA_eq _ _ _ _ | (with_reducible apply gA_ne; decide) | with_reducible apply gA_I | with_reducible apply gA_O | (with_reducible apply gA_nj; omega) | with_reducible rfl | exact gA_eq _ _ _ _), by repeat (first | with_reducible exact gA_eq _ _ _ _ | (with_reducible apply gA_ne; decide) | with_reducible apply gA_I | with_reducible apply gA_O | (with_reducible apply gA_nj; omega) | with_reducible rfl | exact gA_eq _ _ _ _), by repeat (first | with_reducible exact gA_eq _ _ _ _ | (with_reducible apply gA_ne; decide) | with_reducible apply gA_I | with_reducible apply gA_O | (with_reducible apply gA_nj; omega) | with_reducible rfl | exact gA_eq _ _ _ _), by repeat (first | with_reducible exact gA_eq _ _ _ _ | (with_reducible apply gA_ne; decide) | with_reducible apply gA_I | with_reducible apply gA_O | (with_reducible apply gA_nj; omega) | with_reducible rfl | exact gA_eq _ _ _ _), by repeat (first | with_reducible exact gA_eq _ _ _ _ | (with_reducible apply gA_ne; decide) | with_reducible apply gA_I | with_reducible apply gA_O | (with_reducible apply gA_nj; omega) | with_reducible rfl | exact gA_eq _ _ _ _), by repeat (first | with_reducible exact gA_eq _ _ _ _ | (with_reducible apply gA_ne; decide) | with_reducible apply gA_I | with_reducible apply gA_O | (with_reducible apply gA_nj; omega) | with_reducible rfl | exact gA_eq _ _ _ _), by repeat (first | with_reducible exact gA_eq _ _ _ _ | (with_reducible apply gA_ne; decide) | with_reducible apply gA_I | with_reducible apply gA_O | (with_reducible apply gA_nj; omega) | with_reducible rfl | exact gA_eq _ _ _ _), by repeat (first | with_reducible exact gA_eq _ _ _ _ | (with_reducible apply gA_ne; decide) | with_reducible apply gA_I | with_reducible apply gA_O | (with_reducible apply gA_nj; omega) | with_reducible rfl | exact gA_eq _ _ _ _), fun j hj => rfl, fun j hj => rfl⟩)
  rw [show ((stA 62 D 0 (stA 61 D 0 (stA 60 D 0 (stA 58 D 0 (stA 57 D 4 (stA 56 D 0 (stA 55 D R (stA 54 D (b2 wr) (stA 53 D P (stA 52 D 1 s))))))))))).1 22 = A.plc from hI.2.2.2.2.2.2.2.1, wPlc_id] at h
  exact h
set_option maxRecDepth 10000 in
theorem r_begin {d r : Nat} {h h0 : mH} {s : rS} {A : Ab} {d0 p ru : Int32} {wr : Bool} {Q : mP} (hR : Rf r h0 s h) (hI : RInv s A) (hB : McB A.mcs)  (q : ∀ h' s', Rf r h0 s' h' → RInv s' (sp_begin A d0 p wr ru).2 → Q (some (.int (sp_begin A d0 p wr ru).1)) h') : mWP (d + 3) 237 [.ref r, .int d0, .int p, .int (bI wr), .int ru] h Q := by
  have hG := hI.1
  have hG2 := hG.2.1
  refine z_in [some (.ref r), some (.int d0), some (.int p), some (.int (bI wr)), some (.int ru)] (by rfl) rfl rfl rfl ?_
  refine z_iload 1 rfl rfl rfl ?_
  refine z_push 2 (nI 0) rfl rfl rfl ?_
  refine z_push 3 (nI 3) rfl rfl rfl ?_
  refine z_cs3 6 rfl rfl rfl (Nat.le_refl _) (Nat.le_refl _) ?_
  refine r_in ?_
  rw [jIn_l (by omega) (by omega)]
  first | refine z_beq 9 rfl rfl (fun hc6 => ?_) (fun hc6 => ?_)
  · refine z_aload 18 rfl rfl rfl ?_
    refine z_push 19 (-1) rfl rfl rfl ?_
    refine z_cv1 22 rfl rfl hR.1 rfl (Nat.le_refl _) (Nat.le_refl _) ?_
    refine r_tell hR (fun h9 => absurd h9 (by decide)) (fun _ h hR => ?_)
    refine z_ireti rfl (Nat.le_refl _) (Nat.le_refl _) ?_
    have e9 : sp_begin A d0 p wr ru = (-1, A.tell) := if_neg (fun h9 => by
      first | (rw [decide_eq_false_iff_not] at hc6; exact hc6 (by have := h9.1; omega)) | (rw [decide_eq_false_iff_not] at hc14; exact hc14 h9.2))
    rw [e9] at q
    exact q h _ hR hI.tell
  · rw [decide_eq_true_eq] at hc6
    obtain ⟨D, hD, rfl, hd1, hd2⟩ := ix_of (x := d0) (n := 4) (by omega)
    refine z_aload 10 rfl rfl rfl ?_
    refine z_iload 11 rfl rfl rfl ?_
    refine z_cv1 14 rfl rfl hR.1 rfl (Nat.le_refl _) (Nat.le_refl _) ?_
    refine r_isPage hR hG.1 hG.2.1 ?_
    first | refine z_bne 17 rfl rfl (fun hc14 => ?_) (fun hc14 => ?_)
    · rw [decide_eq_true_eq] at hc14
      obtain ⟨P, hP, rfl, hp1, hp2⟩ := ix_of hc14
      obtain ⟨hg1, hg2, hT⟩ := hG.2.2 P hP
      refine z_aload 24 rfl rfl rfl ?_
      refine y_ga 27 hR rfl rfl rfl ?_
      refine z_iload 28 rfl rfl rfl ?_
      refine y_bb (f := 2) 29 _ hR rfl rfl rfl rfl (by omega) (by repeat (first | with_reducible exact hg2 | with_reducible exact gA_eq _ _ _ _ | (with_reducible apply gA_ne; decide) | with_reducible apply gA_I | with_reducible apply gA_O | (with_reducible apply gA_nj; omega) | with_reducible rfl)) ?_
      first | refine z_bne 32 rfl rfl (fun hc29 => ?_) (fun hc29 => ?_)
      · refine z_iload 41 rfl rfl rfl ?_
        refine z_push 42 (nI 0) rfl rfl rfl ?_
        refine z_iload 43 rfl rfl rfl ?_
        first | refine z_beq 46 rfl rfl (fun hc43 => ?_) (fun hc43 => ?_)
        · refine z_push 51 (nI 3) rfl rfl rfl ?_
          refine z_cs3 54 rfl rfl rfl (Nat.le_refl _) (Nat.le_refl _) ?_
          refine r_in ?_
          rw [jIn_l (by omega) (by omega)]
          first | refine z_bne 57 rfl rfl (fun hc54 => ?_) (fun hc54 => ?_)
          · rw [decide_eq_true_eq] at hc54
            obtain ⟨R, hRl, rfl, hr1, hr2⟩ := ix_of (x := ru) (n := 5) (by omega)
            refine z_aload 64 rfl rfl rfl ?_
            refine y_ga 67 hR rfl rfl rfl ?_
            refine z_iload 68 rfl rfl rfl ?_
            refine z_push 69 (nI 1) rfl rfl rfl ?_
            refine y_bs (f := 52) 70 hR rfl rfl rfl rfl (by omega) (by decide) ?_
            intro h hR
            refine z_aload 71 rfl rfl rfl ?_
            refine y_ga 74 hR rfl rfl rfl ?_
            refine z_iload 75 rfl rfl rfl ?_
            refine z_iload 76 rfl rfl rfl ?_
            refine y_as (f := 53) 77 hR rfl rfl rfl rfl (by omega) ?_
            intro h hR
            refine z_aload 78 rfl rfl rfl ?_
            refine y_ga 81 hR rfl rfl rfl ?_
            refine z_iload 82 rfl rfl rfl ?_
            refine z_iload 83 rfl rfl rfl ?_
            refine y_sb (f := 54) 84 hR rfl rfl rfl rfl (by omega) ?_
            intro h hR
            refine z_aload 85 rfl rfl rfl ?_
            refine y_ga 88 hR rfl rfl rfl ?_
            refine z_iload 89 rfl rfl rfl ?_
            refine z_iload 91 rfl rfl rfl ?_
            refine y_as (f := 55) 92 hR rfl rfl rfl rfl (by omega) ?_
            intro h hR
            refine z_aload 93 rfl rfl rfl ?_
            refine y_ga 96 hR rfl rfl rfl ?_
            refine z_iload 97 rfl rfl rfl ?_
            refine z_push 98 (nI 0) rfl rfl rfl ?_
            refine y_as (f := 56) 99 hR rfl rfl rfl rfl (by omega) ?_
            intro h hR
            refine z_aload 100 rfl rfl rfl ?_
            refine y_ga 103 hR rfl rfl rfl ?_
            refine z_iload 104 rfl rfl rfl ?_
            refine z_push 105 (nI 4) rfl rfl rfl ?_
            refine y_as (f := 57) 106 hR rfl rfl rfl rfl (by omega) ?_
            intro h hR
            refine z_aload 107 rfl rfl rfl ?_
            refine y_ga 110 hR rfl rfl rfl ?_
            refine z_iload 111 rfl rfl rfl ?_
            refine z_push 112 (nI 0) rfl rfl rfl ?_
            refine y_as (f := 58) 113 hR rfl rfl rfl rfl (by omega) ?_
            intro h hR
            refine z_aload 114 rfl rfl rfl ?_
            refine y_ga 117 hR rfl rfl rfl ?_
            refine z_iload 118 rfl rfl rfl ?_
            refine z_push 119 (nI 0) rfl rfl rfl ?_
            refine y_as (f := 60) 120 hR rfl rfl rfl rfl (by omega) ?_
            intro h hR
            refine z_aload 121 rfl rfl rfl ?_
            refine y_ga 124 hR rfl rfl rfl ?_
            refine z_iload 125 rfl rfl rfl ?_
            refine z_push 126 (nI 0) rfl rfl rfl ?_
            refine y_as (f := 61) 127 hR rfl rfl rfl rfl (by omega) ?_
            intro h hR
            refine z_aload 128 rfl rfl rfl ?_
            refine y_ga 131 hR rfl rfl rfl ?_
            refine z_iload 132 rfl rfl rfl ?_
            refine z_push 133 (nI 0) rfl rfl rfl ?_
            refine y_as (f := 62) 134 hR rfl rfl rfl rfl (by omega) ?_
            intro h hR
            refine z_push 135 (nI 0) rfl rfl rfl ?_
            refine z_ireti rfl (Nat.le_refl _) (Nat.le_refl _) ?_
            have e9 : sp_begin A (nI D) (nI P) wr (nI R) = (nI 0, A.wMcs (setM A.mcs D (P, wr, R, 0, 4, [], 0, 0, []))) := by
              rw [sp_begin, if_pos ⟨by omega, hc14⟩, hp2, if_pos hc29, if_pos ?_, hd2, hr2]
              rw [hc43]
              first | (rw [if_pos rfl]; omega) | (rw [if_neg (by decide)]; omega)
            rw [e9] at q
            exact q h _ hR (hI.beg hB)
          · refine z_aload 58 rfl rfl rfl ?_
            refine z_push 59 (-1) rfl rfl rfl ?_
            refine z_cv1 62 rfl rfl hR.1 rfl (Nat.le_refl _) (Nat.le_refl _) ?_
            refine r_tell hR (fun h9 => absurd h9 (by decide)) (fun _ h hR => ?_)
            refine z_ireti rfl (Nat.le_refl _) (Nat.le_refl _) ?_
            rw [decide_eq_false_iff_not] at hc54
            have e9 : sp_begin A (nI D) (nI P) wr ru = (-1, A.tell) := by
              rw [sp_begin, if_pos ⟨by omega, hc14⟩, hp2, if_pos hc29, if_neg ?_]
              rw [hc43]
              intro h9
              first | (rw [if_pos rfl] at h9; omega) | (rw [if_neg (by decide)] at h9; omega)
            rw [e9] at q
            exact q h _ hR hI.tell
        · refine z_push 47 (nI 4) rfl rfl rfl ?_
          refine z_goto rfl ?_
          refine z_cs3 54 rfl rfl rfl (Nat.le_refl _) (Nat.le_refl _) ?_
          refine r_in ?_
          rw [jIn_l (by omega) (by omega)]
          first | refine z_bne 57 rfl rfl (fun hc54 => ?_) (fun hc54 => ?_)
          · rw [decide_eq_true_eq] at hc54
            obtain ⟨R, hRl, rfl, hr1, hr2⟩ := ix_of (x := ru) (n := 5) (by omega)
            refine z_aload 64 rfl rfl rfl ?_
            refine y_ga 67 hR rfl rfl rfl ?_
            refine z_iload 68 rfl rfl rfl ?_
            refine z_push 69 (nI 1) rfl rfl rfl ?_
            refine y_bs (f := 52) 70 hR rfl rfl rfl rfl (by omega) (by decide) ?_
            intro h hR
            refine z_aload 71 rfl rfl rfl ?_
            refine y_ga 74 hR rfl rfl rfl ?_
            refine z_iload 75 rfl rfl rfl ?_
            refine z_iload 76 rfl rfl rfl ?_
            refine y_as (f := 53) 77 hR rfl rfl rfl rfl (by omega) ?_
            intro h hR
            refine z_aload 78 rfl rfl rfl ?_
            refine y_ga 81 hR rfl rfl rfl ?_
            refine z_iload 82 rfl rfl rfl ?_
            refine z_iload 83 rfl rfl rfl ?_
            refine y_sb (f := 54) 84 hR rfl rfl rfl rfl (by omega) ?_
            intro h hR
            refine z_aload 85 rfl rfl rfl ?_
            refine y_ga 88 hR rfl rfl rfl ?_
            refine z_iload 89 rfl rfl rfl ?_
            refine z_iload 91 rfl rfl rfl ?_
            refine y_as (f := 55) 92 hR rfl rfl rfl rfl (by omega) ?_
            intro h hR
            refine z_aload 93 rfl rfl rfl ?_
            refine y_ga 96 hR rfl rfl rfl ?_
            refine z_iload 97 rfl rfl rfl ?_
            refine z_push 98 (nI 0) rfl rfl rfl ?_
            refine y_as (f := 56) 99 hR rfl rfl rfl rfl (by omega) ?_
            intro h hR
            refine z_aload 100 rfl rfl rfl ?_
            refine y_ga 103 hR rfl rfl rfl ?_
            refine z_iload 104 rfl rfl rfl ?_
            refine z_push 105 (nI 4) rfl rfl rfl ?_
            refine y_as (f := 57) 106 hR rfl rfl rfl rfl (by omega) ?_
            intro h hR
            refine z_aload 107 rfl rfl rfl ?_
            refine y_ga 110 hR rfl rfl rfl ?_
            refine z_iload 111 rfl rfl rfl ?_
            refine z_push 112 (nI 0) rfl rfl rfl ?_
            refine y_as (f := 58) 113 hR rfl rfl rfl rfl (by omega) ?_
            intro h hR
            refine z_aload 114 rfl rfl rfl ?_
            refine y_ga 117 hR rfl rfl rfl ?_
            refine z_iload 118 rfl rfl rfl ?_
            refine z_push 119 (nI 0) rfl rfl rfl ?_
            refine y_as (f := 60) 120 hR rfl rfl rfl rfl (by omega) ?_
            intro h hR
            refine z_aload 121 rfl rfl rfl ?_
            refine y_ga 124 hR rfl rfl rfl ?_
            refine z_iload 125 rfl rfl rfl ?_
            refine z_push 126 (nI 0) rfl rfl rfl ?_
            refine y_as (f := 61) 127 hR rfl rfl rfl rfl (by omega) ?_
            intro h hR
            refine z_aload 128 rfl rfl rfl ?_
            refine y_ga 131 hR rfl rfl rfl ?_
            refine z_iload 132 rfl rfl rfl ?_
            refine z_push 133 (nI 0) rfl rfl rfl ?_
            refine y_as (f := 62) 134 hR rfl rfl rfl rfl (by omega) ?_
            intro h hR
            refine z_push 135 (nI 0) rfl rfl rfl ?_
            refine z_ireti rfl (Nat.le_refl _) (Nat.le_refl _) ?_
            have e9 : sp_begin A (nI D) (nI P) wr (nI R) = (nI 0, A.wMcs (setM A.mcs D (P, wr, R, 0, 4, [], 0, 0, []))) := by
              rw [sp_begin, if_pos ⟨by omega, hc14⟩, hp2, if_pos hc29, if_pos ?_, hd2, hr2]
              rw [hc43]
              first | (rw [if_pos rfl]; omega) | (rw [if_neg (by decide)]; omega)
            rw [e9] at q
            exact q h _ hR (hI.beg hB)
          · refine z_aload 58 rfl rfl rfl ?_
            refine z_push 59 (-1) rfl rfl rfl ?_
            refine z_cv1 62 rfl rfl hR.1 rfl (Nat.le_refl _) (Nat.le_refl _) ?_
            refine r_tell hR (fun h9 => absurd h9 (by decide)) (fun _ h hR => ?_)
            refine z_ireti rfl (Nat.le_refl _) (Nat.le_refl _) ?_
            rw [decide_eq_false_iff_not] at hc54
            have e9 : sp_begin A (nI D) (nI P) wr ru = (-1, A.tell) := by
              rw [sp_begin, if_pos ⟨by omega, hc14⟩, hp2, if_pos hc29, if_neg ?_]
              rw [hc43]
              intro h9
              first | (rw [if_pos rfl] at h9; omega) | (rw [if_neg (by decide)] at h9; omega)
            rw [e9] at q
            exact q h _ hR hI.tell
      · refine z_aload 33 rfl rfl rfl ?_
        refine z_push 35 (-5) rfl rfl rfl ?_
        refine z_cv1 38 rfl rfl hR.1 rfl (Nat.le_refl _) (Nat.le_refl _) ?_
        refine r_tell hR (fun h9 => absurd h9 (by decide)) (fun _ h hR => ?_)
        refine z_ireti rfl (Nat.le_refl _) (Nat.le_refl _) ?_
        have e9 : sp_begin A (nI D) (nI P) wr ru = (-5, A.tell) := by rw [sp_begin, if_pos ⟨by omega, hc14⟩, hp2, if_neg (by rw [hc29]; decide)]
        rw [e9] at q
        exact q h _ hR hI.tell
    · refine z_aload 18 rfl rfl rfl ?_
      refine z_push 19 (-1) rfl rfl rfl ?_
      refine z_cv1 22 rfl rfl hR.1 rfl (Nat.le_refl _) (Nat.le_refl _) ?_
      refine r_tell hR (fun h9 => absurd h9 (by decide)) (fun _ h hR => ?_)
      refine z_ireti rfl (Nat.le_refl _) (Nat.le_refl _) ?_
      have e9 : sp_begin A (nI D) p wr ru = (-1, A.tell) := if_neg (fun h9 => by
        first | (rw [decide_eq_false_iff_not] at hc6; exact hc6 (by have := h9.1; omega)) | (rw [decide_eq_false_iff_not] at hc14; exact hc14 h9.2))
      rw [e9] at q
      exact q h _ hR hI.tell
