/-! the reference: fallback, what is pure -/
theorem pigeon : ∀ (n : Nat) (c : Nat → Nat), (∀ i, i ≤ n → c i < n) → ∃ i j, i < j ∧ j ≤ n ∧ c i = c j
  | 0, c, h => absurd (h 0 (Nat.le_refl _)) (Nat.not_lt_zero _)
  | n + 1, c, h => by
    by_cases e : ∃ i, i ≤ n ∧ c i = c (n + 1)
    · obtain ⟨i, hi, he⟩ := e
      exact ⟨i, n + 1, by omega, Nat.le_refl _, he⟩
    · have hne : ∀ i, i ≤ n → c i ≠ c (n + 1) := fun i hi he => e ⟨i, hi, he⟩
      have hl := h (n + 1) (Nat.le_refl _)
      obtain ⟨i, j, hij, hj, he⟩ := pigeon n (fun i => if c (n + 1) < c i then c i - 1 else c i) (fun i hi => by
        have h1 := h i (by omega)
        have h2 := hne i hi
        show (if c (n + 1) < c i then c i - 1 else c i) < n
        split <;> omega)
      refine ⟨i, j, hij, by omega, ?_⟩
      have h1 := hne i (by omega)
      have h2 := hne j hj
      have he' : (if c (n + 1) < c i then c i - 1 else c i) = (if c (n + 1) < c j then c j - 1 else c j) := he
      split at he' <;> split at he' <;> omega
/-- each point has one fallback -/
def FbU (F : List Fb) : Prop := ∀ k, k < F.length → fbI F (fbP F k) = some k
theorem fbI_p {F : List Fb} {x f : Nat} (h : fbI F x = some f) : fbP F f = x := by
  have := ffd_p h
  exact of_decide_eq_true this
theorem Fdp_no {F : List Fb} {x : Nat} (h : fbI F x = none) : ∀ n, Fdp F n x
  | 0 => h
  | n + 1 => fun f hf => by rw [h] at hf; cases hf
theorem Cy_no {F : List Fb} (hU : FbU F) : ∀ (n k : Nat), k < F.length → (∀ x, x ∈ fbL F k → Fdp F n x) → ¬ Cy F k := by
  intro n
  induction n using Nat.strongRecOn with
  | _ n ih =>
    intro k hk hD hc
    obtain ⟨k', hr, hk', hx⟩ := hc
    have h9 := hr (fun j => ∃ m, m ≤ n ∧ ∀ x, x ∈ fbL F j → Fdp F m x) ⟨n, Nat.le_refl _, hD⟩ (fun a g x ha hal hx hg => by
      obtain ⟨m, hm, hDm⟩ := ha
      cases m with
      | zero => have h8 : fbI F x = none := hDm x hx; rw [h8] at hg; cases hg
      | succ m => exact ⟨m, by omega, Fdp_step (hDm x hx) hg⟩)
    obtain ⟨m, hm, hDm⟩ := h9
    cases m with
    | zero => have h8 : fbI F (fbP F k) = none := hDm _ hx; rw [hU k hk] at h8; cases h8
    | succ m => exact ih m (by omega) k hk (Fdp_step (hDm _ hx) (hU k hk)) ⟨k', hr, hk', hx⟩
theorem Fdp_chain {F : List Fb} : ∀ (n x : Nat), ¬ Fdp F n x → ∃ c : Nat → Nat, fbI F x = some (c 0) ∧ (∀ i, i ≤ n → c i < F.length) ∧ ∀ i, i < n → ∃ y, y ∈ fbL F (c i) ∧ fbI F y = some (c (i + 1))
  | 0, x, h => by
    rcases hf : fbI F x with _ | f
    · exact absurd hf h
    · exact ⟨fun _ => f, rfl, fun i _ => fbI_b hf, fun i hi => absurd hi (Nat.not_lt_zero _)⟩
  | n + 1, x, h => by
    rcases hf : fbI F x with _ | f
    · exact absurd (Fdp_no hf _) h
    · have h1 : ∃ y, y ∈ fbL F f ∧ ¬ Fdp F n y := by
        refine Classical.byContradiction (fun h9 => h (fun g hg y hy => ?_))
        rw [hf] at hg; cases hg
        exact Classical.byContradiction (fun h8 => h9 ⟨y, hy, h8⟩)
      obtain ⟨y, hy, hn⟩ := h1
      obtain ⟨c, h0, hb, hs⟩ := Fdp_chain n y hn
      refine ⟨fun i => match i with | 0 => f | i + 1 => c i, rfl, fun i hi => ?_, fun i hi => ?_⟩
      · cases i with
        | zero => exact fbI_b hf
        | succ i => exact hb i (by omega)
      · cases i with
        | zero => exact ⟨y, hy, h0⟩
        | succ i => exact hs i (by omega)
theorem Fdp_of {F : List Fb} (hl : F.length ≤ 40) (hc : ∀ k, k < F.length → ¬ Cy F k) (x : Nat) : Fdp F 40 x := by
  refine Classical.byContradiction (fun h => ?_)
  obtain ⟨c, h0, hb, hs⟩ := Fdp_chain 40 x h
  obtain ⟨i, j, hij, hj, he⟩ := pigeon 40 c (fun i hi => by have := hb i hi; omega)
  have hr : ∀ m, i + m < 40 → Rch F (c i) (c (i + m)) := by
    intro m
    induction m with
    | zero => intro _; exact Rch.z
    | succ m ih =>
      intro hm
      obtain ⟨y, hy, hg⟩ := hs (i + m) (by omega)
      exact (ih (by omega)).s (hb _ (by omega)) hy hg
  obtain ⟨y, hy, hg⟩ := hs (j - 1) (by omega)
  rw [show j - 1 + 1 = j by omega, ← he] at hg
  have h1 := hr (j - 1 - i) (by omega)
  rw [show i + (j - 1 - i) = j - 1 by omega] at h1
  refine hc (c i) (hb i (by omega)) ⟨c (j - 1), h1, hb _ (by omega), ?_⟩
  rw [fbI_p hg]; exact hy
def fdB (F : List Fb) : Nat → Nat → Bool
  | 0, x => (fbI F x).isNone
  | n + 1, x => match fbI F x with
    | none => true
    | some f => (fbL F f).all (fdB F n)
theorem fdB_iff {F : List Fb} : ∀ (n x : Nat), fdB F n x = true ↔ Fdp F n x
  | 0, x => by simp only [fdB, Fdp, Option.isNone_iff_eq_none]
  | n + 1, x => by
    simp only [fdB, Fdp]
    rcases hf : fbI F x with _ | f
    · simp
    · simp only [List.all_eq_true, Option.some.injEq]
      constructor
      · intro h g hg y hy; subst hg; exact (fdB_iff n y).mp (h y hy)
      · intro h y hy; exact (fdB_iff n y).mpr (h f rfl y hy)
/-- no fallback comes back to itself -/
def okD (F : List Fb) : Bool := (List.range F.length).all (fun k => fdB F 40 (fbP F k))
def okL (F : List Fb) : Bool := (List.range F.length).all (fun k => decide (fbW9 F k ≤ 16))
theorem okD_Fdp {F : List Fb} (h : okD F = true) (x : Nat) : Fdp F 40 x := by
  rcases hf : fbI F x with _ | f
  · exact Fdp_no hf _
  · have h1 := List.all_eq_true.mp h f (List.mem_range.mpr (fbI_b hf))
    rw [fbI_p hf] at h1
    exact (fdB_iff 40 x).mp h1
theorem okD_Cy {F : List Fb} (hU : FbU F) (hl : F.length ≤ 40) : okD F = true ↔ ∀ k, k < F.length → ¬ Cy F k := by
  constructor
  · intro h k hk
    exact Cy_no hU 39 k hk (Fdp_step (okD_Fdp h (fbP F k)) (hU k hk))
  · intro h
    refine List.all_eq_true.mpr (fun k _ => (fdB_iff 40 _).mpr (Fdp_of hl h _))
theorem okL_iff {F : List Fb} : okL F = true ↔ ∀ k, k < F.length → fbW9 F k ≤ 16 := by
  constructor
  · intro h k hk; exact of_decide_eq_true (List.all_eq_true.mp h k (List.mem_range.mpr hk))
  · intro h; exact List.all_eq_true.mpr (fun k hk => decide_eq_true (h k (List.mem_range.mp hk)))
theorem okL_N {F : List Fb} (hD : okD F = true) (hL : okL F = true) (x : Nat) : fbN F 40 x ≤ 16 := by
  rcases hf : fbI F x with _ | f
  · rw [fbN_no hf]; decide
  · have h1 := okL_iff.mp hL f (fbI_b hf)
    rw [fbN_s (n := 39) hf, sumN_congr (fun y hy => (fbN_fuel 39 40 y (Fdp_step (okD_Fdp hD x) hf y hy) (by decide)).symm)]
    exact h1
/-- the points of a row of units; none: it has a lone half -/
def ptA (us : List Nat) : Nat → Nat → List Nat → Option (List Nat)
  | 0, _, acc => some acc
  | k + 1, a, acc => if us.length ≤ a then some acc else if (unA us a).1 = 0 then none else ptA us k (a + (unA us a).1) (acc ++ [(unA us a).2])
def ptsU (us : List Nat) : Option (List Nat) := ptA us (us.length + 1) 0 []
def fbS9 (F : List Fb) (pt : Nat) (ps : List Nat) : List Fb := match fbI F pt with
  | none => F ++ [(pt, ps)]
  | some f => F.set f (pt, ps)
def fbR9 (F : List Fb) (f : Nat) : List Fb := (F.set f (F.getD (F.length - 1) (0, []))).take (F.length - 1)
def sp_fallback (A : Ab) (p : Int32) : Int32 × Ab :=
  if jPoint p = true then
    match ptsU A.uns with
    | none => (-8, A.tell)
    | some ps => if ps.length ≤ 4 then
        if ps.length = 0 then (match fbI A.fbs p.toInt.toNat with
          | none => (nI A.fbs.length, A)
          | some f => (nI (A.fbs.length - 1), A.wFbs (fbR9 A.fbs f)))
        else if fbI A.fbs p.toInt.toNat = none ∧ A.fbs.length = 40 then (-6, A.tell)
        else if okD (fbS9 A.fbs p.toInt.toNat ps) = true then
          if okL (fbS9 A.fbs p.toInt.toNat ps) = true then (nI (fbS9 A.fbs p.toInt.toNat ps).length, (A.wFbs (fbS9 A.fbs p.toInt.toNat ps)).wUns [])
          else (-12, A.tell)
        else (-11, A.tell)
      else (-8, A.tell)
  else (-1, A.tell)
theorem fb_app {F : List Fb} {x : Fb} {k : Nat} : (k < F.length → (F ++ [x]).getD k (0, []) = F.getD k (0, [])) ∧ (k = F.length → (F ++ [x]).getD k (0, []) = x) := by
  constructor
  · intro h; rw [List.getD_eq_getElem?_getD, List.getElem?_append_left h, ← List.getD_eq_getElem?_getD]
  · intro h; subst h; rw [List.getD_eq_getElem?_getD, List.getElem?_append_right (Nat.le_refl _), Nat.sub_self]; rfl
theorem fb_set {F : List Fb} {x : Fb} {f k : Nat} (hf : f < F.length) : (F.set f x).getD k (0, []) = if k = f then x else F.getD k (0, []) := by
  by_cases e : k = f
  · subst e; rw [if_pos rfl, List.getD_eq_getElem?_getD, List.getElem?_set_self hf]; rfl
  · rw [if_neg e, List.getD_eq_getElem?_getD, List.getElem?_set_ne (fun h => e h.symm), ← List.getD_eq_getElem?_getD]
theorem fb_rem {F : List Fb} {f k : Nat} (hf : f < F.length) (hk : k < F.length - 1) : (fbR9 F f).getD k (0, []) = if k = f then F.getD (F.length - 1) (0, []) else F.getD k (0, []) := by
  rw [fbR9, List.getD_eq_getElem?_getD, List.getElem?_take_of_lt hk, ← List.getD_eq_getElem?_getD, fb_set hf]
theorem fb_rlen {F : List Fb} {f : Nat} : (fbR9 F f).length = F.length - 1 := by
  rw [fbR9, List.length_take, List.length_set]; omega
/-- the store after a fallback was put in its place -/
def InsT (s X : rS) (pt to n' : Nat) (ps : List Nat) : Prop := X.1 25 = n' ∧ (∀ c, c ∉ [25, 49, 50, 51] → X.1 c = s.1 c) ∧ (∀ f, f ∉ [26, 27, 28, 49, 50, 51] → X.2.2 f = s.2.2 f) ∧ (∀ j, X.2.2 26 j = if j = to then pt else s.2.2 26 j) ∧ (∀ j, X.2.2 27 j = if j = to then ps.length else s.2.2 27 j) ∧ (∀ j, X.2.2 28 j = if 4 * to ≤ j ∧ j < 4 * to + ps.length then ps.getD (j - 4 * to) 0 else s.2.2 28 j) ∧ ∀ k, k < 4 → X.2.2 49 (10 + k) = s.2.2 28 (4 * to + k)
theorem InsT.on {s X Y : rS} {pt to n' : Nat} {ps l : List Nat} (h : InsT s X pt to n' ps) (ho : On l X Y) (hl : ∀ c, c ∈ l → c = 50 ∨ c = 51) : InsT s Y pt to n' ps := by
  obtain ⟨a1, a2, a3, a4, a5, a6, a7⟩ := h
  have n : ∀ c, c ≠ 50 → c ≠ 51 → Y.2.2 c = X.2.2 c := fun c h1 h2 => (ho.1 c (fun h9 => by rcases hl c h9 with h8 | h8 <;> omega)).2
  have n1 : ∀ c, Y.1 c = X.1 c ∨ c = 50 ∨ c = 51 := fun c => by
    by_cases h9 : c ∈ l
    · exact Or.inr (hl c h9)
    · exact Or.inl (ho.1 c h9).1
  refine ⟨?_, fun c hc => ?_, fun f hf => ?_, fun j => ?_, fun j => ?_, fun j => ?_, fun k hk => ?_⟩
  · rcases n1 25 with h9 | h9
    · rw [h9]; exact a1
    · omega
  · rcases n1 c with h9 | h9
    · rw [h9]; exact a2 c hc
    · exact absurd (by rcases h9 with h9 | h9 <;> subst h9 <;> decide) hc
  · simp only [List.mem_cons, List.not_mem_nil, or_false, not_or] at hf
    rw [n f hf.2.2.2.2.1 hf.2.2.2.2.2]; exact a3 f (by simp only [List.mem_cons, List.not_mem_nil, or_false, not_or]; exact hf)
  · rw [n 26 (by decide) (by decide)]; exact a4 j
  · rw [n 27 (by decide) (by decide)]; exact a5 j
  · rw [n 28 (by decide) (by decide)]; exact a6 j
  · rw [n 49 (by decide) (by decide)]; exact a7 k hk
theorem InsT.app {s X : rS} {F : List Fb} {pt : Nat} {ps : List Nat} (h : InsT s X pt F.length (F.length + 1) ps) (hF : RFb s F) (hW : FbW F) (hl : F.length < 40) : RFb X (F ++ [(pt, ps)]) := by
  obtain ⟨a1, a2, a3, a4, a5, a6, a7⟩ := h
  refine ⟨by rw [a1, List.length_append]; rfl, by rw [List.length_append]; exact hl, fun k hk => ?_⟩
  rw [List.length_append] at hk
  have hk' : k < F.length + 1 := hk
  by_cases e : k = F.length
  · subst e
    have e9 := (fb_app (F := F) (x := (pt, ps)) (k := F.length)).2 rfl
    unfold fbP fbL
    rw [e9]
    refine ⟨by rw [a4, if_pos rfl], by rw [a5, if_pos rfl], fun j hj => ?_⟩
    have hj' : j < ps.length := hj
    rw [a6, if_pos (by omega), Nat.add_sub_cancel_left]
  · have e9 := (fb_app (F := F) (x := (pt, ps)) (k := k)).1 (by omega)
    have h9 := hF.2.2 k (by omega)
    have h8 := (hW k (by omega)).2.2.1
    unfold fbP fbL at h9 ⊢
    rw [e9]
    refine ⟨by rw [a4, if_neg e]; exact h9.1, by rw [a5, if_neg e]; exact h9.2.1, fun j hj => ?_⟩
    have hj' : j < (fbL F k).length := hj
    rw [a6, if_neg (by omega)]
    exact h9.2.2 j hj
theorem InsT.set {s X : rS} {F : List Fb} {pt f : Nat} {ps : List Nat} (h : InsT s X pt f F.length ps) (hF : RFb s F) (hW : FbW F) (hf : f < F.length) (hp : ps.length ≤ 4) : RFb X (F.set f (pt, ps)) := by
  obtain ⟨a1, a2, a3, a4, a5, a6, a7⟩ := h
  refine ⟨by rw [a1, List.length_set], by rw [List.length_set]; exact hF.2.1, fun k hk => ?_⟩
  rw [List.length_set] at hk
  have h9 := hF.2.2 k hk
  have h8 := (hW k hk).2.2.1
  by_cases e : k = f
  · unfold fbP fbL
    rw [fb_set hf, if_pos e]
    subst e
    refine ⟨by rw [a4, if_pos rfl], by rw [a5, if_pos rfl], fun j hj => ?_⟩
    have hj' : j < ps.length := hj
    rw [a6, if_pos (by omega), Nat.add_sub_cancel_left]
  · unfold fbP fbL at h9 ⊢
    rw [fb_set hf, if_neg e]
    refine ⟨by rw [a4, if_neg e]; exact h9.1, by rw [a5, if_neg e]; exact h9.2.1, fun j hj => ?_⟩
    have hj' : j < (fbL F k).length := hj
    rw [a6, if_neg (by omega)]
    exact h9.2.2 j hj
/-- the store as it is put back -/
def RevT (s Y : rS) (pt to n wm i : Nat) : Prop := Y.1 25 = n ∧ (∀ c, c ∉ [25, 49, 50, 51] → Y.1 c = s.1 c) ∧ (∀ f, f ∉ [26, 27, 28, 49, 50, 51] → Y.2.2 f = s.2.2 f) ∧ (∀ j, Y.2.2 26 j = if j = to then pt else s.2.2 26 j) ∧ (∀ j, Y.2.2 27 j = if j = to then wm else s.2.2 27 j) ∧ (∀ j, (j < 4 * to + i ∨ 4 * to + 4 ≤ j) → Y.2.2 28 j = s.2.2 28 j) ∧ ∀ k, k < 4 → Y.2.2 49 (10 + k) = s.2.2 28 (4 * to + k)
theorem InsT.rev0 {s X : rS} {pt to n : Nat} {wm : Nat} {ps : List Nat} (h : InsT s X pt to n ps) (hp : ps.length ≤ 4) : RevT s (stA 27 to wm X) pt to n wm 0 := by
  obtain ⟨a1, a2, a3, a4, a5, a6, a7⟩ := h
  refine ⟨a1, a2, fun f hf => ?_, fun j => ?_, fun j => ?_, fun j hj => ?_, fun k hk => ?_⟩
  · rw [gAf (fun e => hf (by subst e; decide))]; exact a3 f hf
  · rw [gAf (by decide)]; exact a4 j
  · by_cases e : j = to
    · subst e; rw [gA_eq, if_pos rfl]
    · rw [gA_nj e rfl, a5, if_neg e, if_neg e]
  · rw [gAf (by decide), a6, if_neg (by omega)]
  · rw [gAf (by decide)]; exact a7 k hk
theorem InsT.rev1 {s X : rS} {pt to n n' : Nat} {wm : Nat} {ps : List Nat} (h : InsT s X pt to n' ps) (hp : ps.length ≤ 4) : RevT s (stA 27 to wm (stI 25 n X)) pt to n wm 0 := by
  obtain ⟨a1, a2, a3, a4, a5, a6, a7⟩ := h
  refine ⟨by show (stI 25 n X).1 25 = n; exact gI_eq _ _ _, fun c hc => ?_, fun f hf => ?_, fun j => ?_, fun j => ?_, fun j hj => ?_, fun k hk => ?_⟩
  · show (stI 25 n X).1 c = _
    exact gI_ne (fun e => hc (by subst e; decide)) (a2 c hc)
  · rw [gAf (fun e => hf (by subst e; decide))]; exact a3 f hf
  · rw [gAf (by decide)]; exact a4 j
  · by_cases e : j = to
    · subst e; rw [gA_eq, if_pos rfl]
    · rw [gA_nj e rfl, if_neg e]; show X.2.2 27 j = _; rw [a5, if_neg e]
  · rw [gAf (by decide)]; show X.2.2 28 j = _; rw [a6, if_neg (by omega)]
  · rw [gAf (by decide)]; exact a7 k hk
theorem RevT.st {s Y : rS} {pt to n wm i : Nat} (h : RevT s Y pt to n wm i) : RevT s (stA 28 (4 * to + i) (s.2.2 28 (4 * to + i)) Y) pt to n wm (i + 1) := by
  obtain ⟨a1, a2, a3, a4, a5, a6, a7⟩ := h
  refine ⟨a1, a2, fun f hf => ?_, fun j => ?_, fun j => ?_, fun j hj => ?_, fun k hk => ?_⟩
  · rw [gAf (fun e => hf (by subst e; decide))]; exact a3 f hf
  · rw [gAf (by decide)]; exact a4 j
  · rw [gAf (by decide)]; exact a5 j
  · by_cases e : j = 4 * to + i
    · subst e; rw [gA_eq]
    · rw [gA_nj e rfl]; exact a6 j (by omega)
  · rw [gAf (by decide)]; exact a7 k hk
theorem RInv.fbw {s s' : rS} {A : Ab} {F : List Fb} {us : List Nat} (hI : RInv s A) (h1 : ∀ c, rPers c = true → c ∉ [16, 25, 26, 27, 28] → s'.1 c = s.1 c ∧ s'.2.2 c = s.2.2 c) (h22 : s'.1 22 = s.1 22) (hu : RUn s' us) (hF : RFb s' F) : RInv s' ((A.wFbs F).wUns us) := by
  obtain ⟨a1, a2, a3, a4, a5, a6, a7, a8, a9, a10, a11⟩ := hI
  refine ⟨?_, ?_, hu, ?_, ?_, hF, fun d hd => ⟨fun e => ?_, fun m e => ?_⟩, h22.trans a8, ?_, (h1 24 rfl (by decide)).1.trans a10, (h1 48 rfl (by decide)).1.trans a11⟩
  · refine ⟨(h1 0 rfl (by decide)).1.trans a1.1, a1.2.1, fun p hp => ⟨?_, ?_, ?_⟩⟩
    · rw [(h1 1 rfl (by decide)).2]; exact (a1.2.2 p hp).1
    · rw [(h1 2 rfl (by decide)).2]; exact (a1.2.2 p hp).2.1
    · have hT := (a1.2.2 p hp).2.2
      simp only [TbR, (h1 3 rfl (by decide)).2, (h1 4 rfl (by decide)).2, (h1 5 rfl (by decide)).2, (h1 6 rfl (by decide)).2, (h1 7 rfl (by decide)).2, (h1 8 rfl (by decide)).2, (h1 9 rfl (by decide)).2, (h1 10 rfl (by decide)).2, (h1 11 rfl (by decide)).2, (h1 12 rfl (by decide)).2, (h1 13 rfl (by decide)).2]
      exact hT
  · simp only [RBy, (h1 14 rfl (by decide)).1, (h1 15 rfl (by decide)).2]; exact a2
  · simp only [RRe, (h1 18 rfl (by decide)).1, (h1 19 rfl (by decide)).1, (h1 20 rfl (by decide)).2]; exact a4
  · simp only [RSg, (h1 21 rfl (by decide)).2]; exact a5
  · rw [(h1 52 rfl (by decide)).2]; exact (a7 d hd).1 e
  · have h9 := (a7 d hd).2 m e
    simp only [RM1, (h1 52 rfl (by decide)).2, (h1 53 rfl (by decide)).2, (h1 54 rfl (by decide)).2, (h1 55 rfl (by decide)).2, (h1 56 rfl (by decide)).2, (h1 57 rfl (by decide)).2, (h1 58 rfl (by decide)).2, (h1 59 rfl (by decide)).2, (h1 60 rfl (by decide)).2, (h1 61 rfl (by decide)).2, (h1 62 rfl (by decide)).2, (h1 63 rfl (by decide)).2]
    exact h9
  · simp only [RBk, (h1 23 rfl (by decide)).2]; exact a9
theorem rP_ne {c : Nat} (h : rPers c = true) : c ≠ 49 ∧ c ≠ 50 ∧ c ≠ 51 := by
  refine ⟨?_, ?_, ?_⟩ <;> (intro e; subst e; exact absurd h (by decide))
theorem mem_n6 {c : Nat} (h : rPers c = true) (hc : c ∉ [16, 25, 26, 27, 28]) : c ∉ [25, 49, 50, 51] ∧ c ∉ [26, 27, 28, 49, 50, 51] ∧ c ≠ 16 := by
  have h1 := rP_ne h
  simp only [List.mem_cons, List.not_mem_nil, or_false, not_or] at hc ⊢
  omega
theorem RevT.inv {s Y : rS} {A : Ab} {pt to wm : Nat} (hI : RInv s A) (h : RevT s Y pt to A.fbs.length wm 4) (hto : (to = A.fbs.length) ∨ (to < A.fbs.length ∧ pt = fbP A.fbs to ∧ wm = (fbL A.fbs to).length)) : RInv Y A := by
  obtain ⟨a1, a2, a3, a4, a5, a6, a7⟩ := h
  have hF := hI.2.2.2.2.2.1
  have h9 := hI.fbw (s' := Y) (F := A.fbs) (us := A.uns) (fun c hc hn => ⟨a2 c (mem_n6 hc hn).1, a3 c (mem_n6 hc hn).2.1⟩) (a2 22 (by decide)) ?_ ?_
  · exact h9
  · have hu := hI.2.2.1
    simp only [RUn, a2 16 (by decide), a3 17 (by decide)]; exact hu
  · refine ⟨a1, hF.2.1, fun k hk => ?_⟩
    have h8 := hF.2.2 k hk
    refine ⟨?_, ?_, fun j hj => ?_⟩
    · rw [a4]; split
      · rename_i e; subst e; rcases hto with h7 | h7
        · omega
        · exact h7.2.1
      · exact h8.1
    · rw [a5]; split
      · rename_i e; subst e; rcases hto with h7 | h7
        · omega
        · exact h7.2.2
      · exact h8.2.1
    · rw [a6 _ (by omega)]; exact h8.2.2 j hj
theorem InsT.inv {s X : rS} {A : Ab} {pt to n' : Nat} {ps : List Nat} {F : List Fb} (hI : RInv s A) (h : InsT s X pt to n' ps) (hF : RFb X F) : RInv (stI 16 0 X) ((A.wFbs F).wUns []) := by
  obtain ⟨a1, a2, a3, a4, a5, a6, a7⟩ := h
  refine hI.fbw (fun c hc hn => ⟨?_, a3 c (mem_n6 hc hn).2.1⟩) ?_ ⟨gI_eq _ _ _, Nat.zero_le _, fun j hj => absurd hj (Nat.not_lt_zero j)⟩ ?_
  · exact gI_ne (mem_n6 hc hn).2.2 (a2 c (mem_n6 hc hn).1)
  · exact gI_ne (by decide) (a2 22 (by decide))
  · obtain ⟨b1, b2, b3⟩ := hF
    exact ⟨gI_ne (by decide) b1, b2, b3⟩
