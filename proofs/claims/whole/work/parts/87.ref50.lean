/-! the reference: fallback -/
theorem ffd_nn {P : Nat → Bool} : ∀ {m i : Nat}, ffd P m i = none → ∀ k, i ≤ k → k < i + m → P k = false
  | 0, i, _, k, h1, h2 => by omega
  | m + 1, i, h, k, h1, h2 => by
    unfold ffd at h
    split at h
    · cases h
    · rename_i hp
      by_cases e : k = i
      · subst e; simpa using hp
      · exact ffd_nn h k (by omega) (by omega)
theorem ffd_ex {P : Nat → Bool} {k : Nat} : ∀ {m i : Nat}, i ≤ k → k < i + m → P k = true → ∃ j, ffd P m i = some j
  | 0, i, h1, h2, _ => by omega
  | m + 1, i, h1, h2, hp => by
    unfold ffd
    split
    · exact ⟨i, rfl⟩
    · rename_i hn
      by_cases e : k = i
      · subst e; exact absurd hp hn
      · exact ffd_ex (by omega) (by omega) hp
theorem FbU_of {F : List Fb} (h : ∀ i j, i < F.length → j < F.length → fbP F i = fbP F j → i = j) : FbU F := by
  intro k hk
  obtain ⟨j, hj⟩ := ffd_ex (P := fbQ F (fbP F k)) (m := F.length) (i := 0) (k := k) (by omega) (by omega) (decide_eq_true rfl)
  have h1 : fbI F (fbP F k) = some j := hj
  have h2 := fbI_p h1
  have h3 := fbI_b h1
  rw [h1, h j k h3 hk h2]
theorem FbU.inj {F : List Fb} (h : FbU F) {i j : Nat} (hi : i < F.length) (hj : j < F.length) (e : fbP F i = fbP F j) : i = j := by
  have h1 := h i hi
  rw [e, h j hj] at h1
  cases h1; rfl
theorem fbI_nn {F : List Fb} {x k : Nat} (h : fbI F x = none) (hk : k < F.length) : fbP F k ≠ x := by
  have := ffd_nn h k (by omega) (by omega)
  exact of_decide_eq_false this
theorem FbU.app {F : List Fb} {pt : Nat} {ps : List Nat} (hU : FbU F) (h : fbI F pt = none) : FbU (F ++ [(pt, ps)]) := by
  have e1 : ∀ k, k < F.length → fbP (F ++ [(pt, ps)]) k = fbP F k := fun k hk => by unfold fbP; rw [fb_app.1 hk]
  have e2 : fbP (F ++ [(pt, ps)]) F.length = pt := by unfold fbP; rw [fb_app.2 rfl]
  refine FbU_of (fun i j hi hj e => ?_)
  rw [List.length_append] at hi hj
  have hi' : i < F.length + 1 := hi
  have hj' : j < F.length + 1 := hj
  by_cases h1 : i = F.length
  · by_cases h2 : j = F.length
    · omega
    · rw [h1, e2, e1 j (by omega)] at e; exact absurd e.symm (fbI_nn h (by omega))
  · by_cases h2 : j = F.length
    · rw [h2, e2, e1 i (by omega)] at e; exact absurd e (fbI_nn h (by omega))
    · rw [e1 i (by omega), e1 j (by omega)] at e; exact hU.inj (by omega) (by omega) e
theorem FbU.set {F : List Fb} {pt f : Nat} {ps : List Nat} (hU : FbU F) (h : fbI F pt = some f) : FbU (F.set f (pt, ps)) := by
  have hf := fbI_b h
  have hp := fbI_p h
  have e1 : ∀ k, fbP (F.set f (pt, ps)) k = fbP F k := fun k => by
    unfold fbP; rw [fb_set hf]; split
    · rename_i e; subst e; exact hp.symm
    · rfl
  refine FbU_of (fun i j hi hj e => ?_)
  rw [List.length_set] at hi hj
  rw [e1, e1] at e
  exact hU.inj hi hj e
theorem FbU.rem {F : List Fb} {f : Nat} (hU : FbU F) (hf : f < F.length) : FbU (fbR9 F f) := by
  have e1 : ∀ k, k < F.length - 1 → fbP (fbR9 F f) k = fbP F (if k = f then F.length - 1 else k) := fun k hk => by
    unfold fbP; rw [fb_rem hf hk]; split <;> rfl
  refine FbU_of (fun i j hi hj e => ?_)
  rw [fb_rlen] at hi hj
  rw [e1 i hi, e1 j hj] at e
  have h9 := hU.inj (by split <;> omega) (by split <;> omega) e
  split at h9 <;> split at h9 <;> omega
theorem FbW.app {F : List Fb} {pt : Nat} {ps : List Nat} (hW : FbW F) (hp : nPt pt = true) (h1 : 1 ≤ ps.length) (h4 : ps.length ≤ 4) (hps : ∀ x, x ∈ ps → nPt x = true) : FbW (F ++ [(pt, ps)]) := by
  intro k hk
  rw [List.length_append] at hk
  have hk' : k < F.length + 1 := hk
  unfold fbP fbL
  by_cases e : k = F.length
  · rw [fb_app.2 e]; exact ⟨hp, h1, h4, hps⟩
  · rw [fb_app.1 (by omega)]; exact hW k (by omega)
theorem FbW.set {F : List Fb} {pt f : Nat} {ps : List Nat} (hW : FbW F) (hf : f < F.length) (hp : nPt pt = true) (h1 : 1 ≤ ps.length) (h4 : ps.length ≤ 4) (hps : ∀ x, x ∈ ps → nPt x = true) : FbW (F.set f (pt, ps)) := by
  intro k hk
  rw [List.length_set] at hk
  unfold fbP fbL
  rw [fb_set hf]
  split
  · exact ⟨hp, h1, h4, hps⟩
  · exact hW k hk
theorem FbW.rem {F : List Fb} {f : Nat} (hW : FbW F) (hf : f < F.length) : FbW (fbR9 F f) := by
  intro k hk
  rw [fb_rlen] at hk
  unfold fbP fbL
  rw [fb_rem hf hk]
  split
  · exact hW (F.length - 1) (by omega)
  · exact hW k (by omega)
theorem unA_pt {us : List Nat} {a : Nat} (hb : ∀ j, us.getD j 0 < 65536) (h : (unA us a).1 ≠ 0) : nPt (unA us a).2 = true := by
  have h1 := hb a
  have h2 := hb (a + 1)
  unfold unA at h ⊢
  unfold nPt
  split
  · rename_i hc
    simp only [Bool.and_eq_true, decide_eq_true_eq, Bool.not_eq_true', decide_eq_false_iff_not]
    omega
  · rename_i hc
    rw [if_neg hc] at h
    split
    · rename_i hd; rw [if_pos hd] at h; exact absurd rfl h
    · simp only [Bool.and_eq_true, decide_eq_true_eq, Bool.not_eq_true', decide_eq_false_iff_not]
      omega
theorem ptA_pt {us : List Nat} (hb : ∀ j, us.getD j 0 < 65536) : ∀ (k a : Nat) (acc ps : List Nat), (∀ x, x ∈ acc → nPt x = true) → ptA us k a acc = some ps → ∀ x, x ∈ ps → nPt x = true
  | 0, a, acc, ps, ha, h => by unfold ptA at h; cases h; exact ha
  | k + 1, a, acc, ps, ha, h => by
    unfold ptA at h
    split at h
    · cases h; exact ha
    · split at h
      · cases h
      · rename_i hn
        refine ptA_pt hb k _ _ ps (fun x hx => ?_) h
        rcases List.mem_append.mp hx with h9 | h9
        · exact ha x h9
        · rw [List.mem_singleton] at h9; subst h9; exact unA_pt hb hn
/-- the store while a fallback is put in -/
def InsI (s X : rS) (pt to n' : Nat) (ps : List Nat) (i : Nat) : Prop := X.1 25 = n' ∧ (∀ c, c ∉ [25, 49, 50, 51] → X.1 c = s.1 c) ∧ (∀ f, f ∉ [26, 27, 28, 49, 50, 51] → X.2.2 f = s.2.2 f) ∧ (∀ j, X.2.2 26 j = if j = to then pt else s.2.2 26 j) ∧ (∀ j, X.2.2 27 j = if j = to then ps.length else s.2.2 27 j) ∧ (∀ j, X.2.2 28 j = if 4 * to ≤ j ∧ j < 4 * to + i then ps.getD (j - 4 * to) 0 else s.2.2 28 j) ∧ (∀ k, k < 4 → X.2.2 49 (10 + k) = s.2.2 28 (4 * to + k)) ∧ ∀ j, j < ps.length → X.2.2 49 j = ps.getD j 0
theorem InsI.fin {s X : rS} {pt to n' : Nat} {ps : List Nat} (h : InsI s X pt to n' ps ps.length) : InsT s X pt to n' ps := ⟨h.1, h.2.1, h.2.2.1, h.2.2.2.1, h.2.2.2.2.1, h.2.2.2.2.2.1, h.2.2.2.2.2.2.1⟩
theorem InsI.st {s X : rS} {pt to n' i : Nat} {ps : List Nat} (h : InsI s X pt to n' ps i) : InsI s (stA 28 (4 * to + i) (ps.getD i 0) X) pt to n' ps (i + 1) := by
  obtain ⟨a1, a2, a3, a4, a5, a6, a7, a8⟩ := h
  refine ⟨a1, a2, fun f hf => ?_, fun j => ?_, fun j => ?_, fun j => ?_, fun k hk => ?_, fun j hj => ?_⟩
  · rw [gAf (fun e => hf (by subst e; decide))]; exact a3 f hf
  · rw [gAf (by decide)]; exact a4 j
  · rw [gAf (by decide)]; exact a5 j
  · by_cases e : j = 4 * to + i
    · subst e; rw [gA_eq, if_pos (by omega), Nat.add_sub_cancel_left]
    · rw [gA_nj e rfl, a6]
      by_cases e2 : 4 * to ≤ j ∧ j < 4 * to + i
      · rw [if_pos e2, if_pos (by omega)]
      · rw [if_neg e2, if_neg (by omega)]
  · rw [gAf (by decide)]; exact a7 k hk
  · rw [gAf (by decide)]; exact a8 j hj
theorem mem49 {c : Nat} (h : c ∉ [25, 49, 50, 51]) : c ∉ [49] := by simp only [List.mem_cons, List.not_mem_nil, or_false, not_or] at h ⊢; omega
theorem mem49b {c : Nat} (h : c ∉ [26, 27, 28, 49, 50, 51]) : c ∉ [49] := by simp only [List.mem_cons, List.not_mem_nil, or_false, not_or] at h ⊢; omega
theorem InsI.z1 {s X : rS} {pt to n' : Nat} {ps : List Nat} (hO : On [49] s X) (h1 : ∀ k, k < 4 → X.2.2 49 (10 + k) = s.2.2 28 (4 * to + k)) (h2 : ∀ j, j < ps.length → X.2.2 49 j = ps.getD j 0) : InsI s (stA 27 to ps.length (stA 26 to pt (stI 25 n' X))) pt to n' ps 0 := by
  refine ⟨by show (stI 25 n' X).1 25 = n'; exact gI_eq _ _ _, fun c hc => ?_, fun f hf => ?_, fun j => ?_, fun j => ?_, fun j => ?_, fun k hk => ?_, fun j hj => ?_⟩
  · show (stI 25 n' X).1 c = _
    exact gI_ne (fun e => hc (by subst e; decide)) (hO.1 c (mem49 hc)).1
  · rw [gAf (fun e => hf (by subst e; decide)), gAf (fun e => hf (by subst e; decide))]; exact (hO.1 f (mem49b hf)).2
  · rw [gAf (by decide)]
    by_cases e : j = to
    · subst e; rw [gA_eq, if_pos rfl]
    · rw [gA_nj e rfl, if_neg e]; show X.2.2 26 j = _; rw [(hO.1 26 (by decide)).2]
  · by_cases e : j = to
    · subst e; rw [gA_eq, if_pos rfl]
    · rw [gA_nj e rfl, gAf (by decide), if_neg e]; show X.2.2 27 j = _; rw [(hO.1 27 (by decide)).2]
  · rw [gAf (by decide), gAf (by decide), if_neg (by omega)]; show X.2.2 28 j = _; rw [(hO.1 28 (by decide)).2]
  · rw [gAf (by decide), gAf (by decide)]; exact h1 k hk
  · rw [gAf (by decide), gAf (by decide)]; exact h2 j hj
theorem InsI.z0 {s X : rS} {pt to n' : Nat} {ps : List Nat} (h25 : s.1 25 = n') (hO : On [49] s X) (h1 : ∀ k, k < 4 → X.2.2 49 (10 + k) = s.2.2 28 (4 * to + k)) (h2 : ∀ j, j < ps.length → X.2.2 49 j = ps.getD j 0) : InsI s (stA 27 to ps.length (stA 26 to pt X)) pt to n' ps 0 := by
  refine ⟨(hO.1 25 (by decide)).1.trans h25, fun c hc => (hO.1 c (mem49 hc)).1, fun f hf => ?_, fun j => ?_, fun j => ?_, fun j => ?_, fun k hk => ?_, fun j hj => ?_⟩
  · rw [gAf (fun e => hf (by subst e; decide)), gAf (fun e => hf (by subst e; decide))]; exact (hO.1 f (mem49b hf)).2
  · rw [gAf (by decide)]
    by_cases e : j = to
    · subst e; rw [gA_eq, if_pos rfl]
    · rw [gA_nj e rfl, if_neg e, (hO.1 26 (by decide)).2]
  · by_cases e : j = to
    · subst e; rw [gA_eq, if_pos rfl]
    · rw [gA_nj e rfl, gAf (by decide), if_neg e, (hO.1 27 (by decide)).2]
  · rw [gAf (by decide), gAf (by decide), if_neg (by omega), (hO.1 28 (by decide)).2]
  · rw [gAf (by decide), gAf (by decide)]; exact h1 k hk
  · rw [gAf (by decide), gAf (by decide)]; exact h2 j hj
/-- the store while a fallback is taken out -/
def RmT (s Y : rS) (f n i : Nat) : Prop := Y.1 25 = n - 1 ∧ (∀ c, c ∉ [25, 49, 50, 51] → Y.1 c = s.1 c) ∧ (∀ f, f ∉ [26, 27, 28, 49, 50, 51] → Y.2.2 f = s.2.2 f) ∧ (∀ j, Y.2.2 26 j = if j = f then s.2.2 26 (n - 1) else s.2.2 26 j) ∧ (∀ j, Y.2.2 27 j = if j = f then s.2.2 27 (n - 1) else s.2.2 27 j) ∧ ∀ j, Y.2.2 28 j = if 4 * f ≤ j ∧ j < 4 * f + i then s.2.2 28 (4 * (n - 1) + (j - 4 * f)) else s.2.2 28 j
theorem RmT.z {s X : rS} {f n : Nat} (hO : On [49] s X) : RmT s (stA 27 f (s.2.2 27 (n - 1)) (stA 26 f (s.2.2 26 (n - 1)) (stI 25 (n - 1) X))) f n 0 := by
  refine ⟨by show (stI 25 (n - 1) X).1 25 = n - 1; exact gI_eq _ _ _, fun c hc => ?_, fun f hf => ?_, fun j => ?_, fun j => ?_, fun j => ?_⟩
  · show (stI 25 (n - 1) X).1 c = _
    exact gI_ne (fun e => hc (by subst e; decide)) (hO.1 c (mem49 hc)).1
  · rw [gAf (fun e => hf (by subst e; decide)), gAf (fun e => hf (by subst e; decide))]; exact (hO.1 f (mem49b hf)).2
  · rw [gAf (by decide)]
    by_cases e : j = f
    · subst e; rw [gA_eq, if_pos rfl]
    · rw [gA_nj e rfl, if_neg e]; show X.2.2 26 j = _; rw [(hO.1 26 (by decide)).2]
  · by_cases e : j = f
    · subst e; rw [gA_eq, if_pos rfl]
    · rw [gA_nj e rfl, gAf (by decide), if_neg e]; show X.2.2 27 j = _; rw [(hO.1 27 (by decide)).2]
  · rw [gAf (by decide), gAf (by decide), if_neg (by omega)]; show X.2.2 28 j = _; rw [(hO.1 28 (by decide)).2]
theorem RmT.st {s Y : rS} {f n i : Nat} (h : RmT s Y f n i) : RmT s (stA 28 (4 * f + i) (s.2.2 28 (4 * (n - 1) + i)) Y) f n (i + 1) := by
  obtain ⟨a1, a2, a3, a4, a5, a6⟩ := h
  refine ⟨a1, a2, fun f hf => ?_, fun j => ?_, fun j => ?_, fun j => ?_⟩
  · rw [gAf (fun e => hf (by subst e; decide))]; exact a3 f hf
  · rw [gAf (by decide)]; exact a4 j
  · rw [gAf (by decide)]; exact a5 j
  · by_cases e : j = 4 * f + i
    · subst e; rw [gA_eq, if_pos (by omega), Nat.add_sub_cancel_left]
    · rw [gA_nj e rfl, a6]
      by_cases e2 : 4 * f ≤ j ∧ j < 4 * f + i
      · rw [if_pos e2, if_pos (by omega)]
      · rw [if_neg e2, if_neg (by omega)]
theorem RmT.rd {s Y : rS} {f n i : Nat} (h : RmT s Y f n i) (hi : i < 4) (hf : f < n) : Y.2.2 28 (4 * (n - 1) + i) = s.2.2 28 (4 * (n - 1) + i) := by
  rw [h.2.2.2.2.2, if_neg (by omega)]
theorem RmT.inv {s Y : rS} {A : Ab} {f : Nat} (hI : RInv s A) (hW : FbW A.fbs) (hf : f < A.fbs.length) (h : RmT s Y f A.fbs.length 4) : RInv Y (A.wFbs (fbR9 A.fbs f)) := by
  obtain ⟨a1, a2, a3, a4, a5, a6⟩ := h
  have hF := hI.2.2.2.2.2.1
  have h9 := hI.fbw (s' := Y) (F := fbR9 A.fbs f) (us := A.uns) (fun c hc hn => ⟨a2 c (mem_n6 hc hn).1, a3 c (mem_n6 hc hn).2.1⟩) (a2 22 (by decide)) ?_ ?_
  · exact h9
  · have hu := hI.2.2.1
    simp only [RUn, a2 16 (by decide), a3 17 (by decide)]; exact hu
  · have hl := hF.2.1
    refine ⟨by rw [a1, fb_rlen], by rw [fb_rlen]; omega, fun k hk => ?_⟩
    rw [fb_rlen] at hk
    have h8 := hF.2.2 k (by omega)
    have h7 := hF.2.2 (A.fbs.length - 1) (by omega)
    have w8 := (hW k (by omega)).2.2.1
    have w7 := (hW (A.fbs.length - 1) (by omega)).2.2.1
    unfold fbP fbL at h7 h8 w7 w8 ⊢
    rw [fb_rem hf hk, a4, a5]
    by_cases e : k = f
    · subst e
      rw [if_pos rfl, if_pos rfl, if_pos rfl]
      refine ⟨h7.1, h7.2.1, fun j hj => ?_⟩
      rw [a6, if_pos (by omega), Nat.add_sub_cancel_left]
      exact h7.2.2 j hj
    · rw [if_neg e, if_neg e, if_neg e]
      refine ⟨h8.1, h8.2.1, fun j hj => ?_⟩
      rw [a6, if_neg (by omega)]
      exact h8.2.2 j hj
