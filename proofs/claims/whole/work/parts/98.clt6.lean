/-! the class: Writer.spell -/
def ndF (F : List Fb) (K : Nat) (E : List En) : Nat → Nat → Nat
  | 0, _ => 1
  | n + 1, x => if (fnd K E x).isSome = true then 1 else match fbI F x with
    | none => 1
    | some f => 1 + sumN (ndF F K E n) (fbL F f)
theorem sumN_le {f g : Nat → Nat} {c : Nat} : ∀ {l : List Nat}, (∀ x, x ∈ l → f x ≤ c * g x) → sumN f l ≤ c * sumN g l
  | [], _ => Nat.zero_le _
  | x :: l, h => by
    have h1 := h x (List.mem_cons_self ..)
    have h2 := sumN_le (fun y hy => h y (List.mem_cons_of_mem _ hy))
    simp only [sumN, Nat.mul_add]
    omega
theorem nd_le {F : List Fb} {K : Nat} {E : List En} (hF : FbW F) : ∀ (n x : Nat), ndF F K E n x ≤ (n + 1) * fbN F n x
  | 0, x => by simp [ndF, fbN]
  | n + 1, x => by
    have hp := fbN_pos hF (n + 1) x
    have h1 : (n + 1 + 1) * 1 ≤ (n + 1 + 1) * fbN F (n + 1) x := Nat.mul_le_mul_left _ hp
    unfold ndF
    split
    · omega
    · split
      · omega
      · rename_i f hf
        have h2 := sumN_le (l := fbL F f) (fun y _ => nd_le (K := K) (E := E) hF n y)
        rw [fbN_s hf] at hp ⊢
        rw [Nat.add_mul (n + 1) 1]
        omega
theorem nd_fuel {F : List Fb} {K : Nat} {E : List En} : ∀ (n m x : Nat), Fdp F n x → n ≤ m → ndF F K E m x = ndF F K E n x
  | 0, 0, x, _, _ => rfl
  | 0, m + 1, x, h, _ => by
    have h' : fbI F x = none := h
    simp only [ndF, h', ite_self]
  | n + 1, 0, x, _, h => absurd h (by omega)
  | n + 1, m + 1, x, h, hm => by
    simp only [ndF]
    rcases hf : fbI F x with _ | f
    · rfl
    · simp only []
      rw [sumN_congr (fun y hy => nd_fuel n m y (h f hf y hy) (by omega))]
theorem fls_fuel {F : List Fb} {K : Nat} {E : List En} : ∀ (n m x : Nat), Fdp F n x → n ≤ m → flS F K E m x = flS F K E n x
  | 0, 0, x, _, _ => rfl
  | 0, m + 1, x, h, _ => by
    have h' : fbI F x = none := h
    simp only [flS, h', Bool.or_false]
  | n + 1, 0, x, _, h => absurd h (by omega)
  | n + 1, m + 1, x, h, hm => by
    simp only [flS]
    rcases hf : fbI F x with _ | f
    · rfl
    · simp only []
      congr 1
      rw [Bool.eq_iff_iff, List.all_eq_true, List.all_eq_true]
      exact ⟨fun h9 y hy => by rw [← fls_fuel n m y (h f hf y hy) (by omega)]; exact h9 y hy, fun h9 y hy => by rw [fls_fuel n m y (h f hf y hy) (by omega)]; exact h9 y hy⟩
/-- a row of points written one behind the other -/
def faL (g : Nat → Nat → List Nat × Nat) : List Nat → Nat → List Nat × Nat
  | [], st => ([], st)
  | x :: l, st => ((g x st).1 ++ (faL g l (g x st).2).1, (faL g l (g x st).2).2)
theorem faX_L {g : Nat → Nat → List Nat × Nat} {l : List Nat} : ∀ (m k st : Nat), k + m = l.length → faX g l m k st = faL g (l.drop k) st
  | 0, k, st, h => by rw [List.drop_eq_nil_of_le (by omega)]; rfl
  | m + 1, k, st, h => by rw [drop_c9 (show k < l.length by omega), faX, faL, faX_L m (k + 1) _ (by omega)]
theorem faL_congr {g g' : Nat → Nat → List Nat × Nat} : ∀ {l : List Nat} (st : Nat), (∀ x, x ∈ l → ∀ st, g x st = g' x st) → faL g l st = faL g' l st
  | [], _, _ => rfl
  | x :: l, st, h => by simp only [faL]; rw [h x (List.mem_cons_self ..), faL_congr _ (fun y hy => h y (List.mem_cons_of_mem _ hy))]
theorem faL_app {g : Nat → Nat → List Nat × Nat} {l' : List Nat} : ∀ (l : List Nat) (st : Nat), faL g (l ++ l') st = ((faL g l st).1 ++ (faL g l' (faL g l st).2).1, (faL g l' (faL g l st).2).2)
  | [], _ => by simp [faL]
  | x :: l, st => by simp only [List.cons_append, faL]; rw [faL_app l]; simp [List.append_assoc]
theorem fa_s {F : List Fb} {K : Nat} {E : List En} {H : List Sh} {n x f st : Nat} (hn : fnd K E x = none) (hf : fbI F x = some f) : fa F K E H (n + 1) x st = faL (fa F K E H n) (fbL F f) st := by
  rw [fa, hn]
  simp only [hf]
  rw [faX_L _ 0 st (by omega), List.drop_zero]
theorem fa_fuel {F : List Fb} {K : Nat} {E : List En} {H : List Sh} : ∀ (n m x : Nat), Fdp F n x → n ≤ m → ∀ st, fa F K E H m x st = fa F K E H n x st
  | 0, 0, x, _, _, _ => rfl
  | 0, m + 1, x, h, _, st => by
    have h' : fbI F x = none := h
    rcases hn : fnd K E x with _ | y
    · simp only [fa, hn, h']
    · simp only [fa, hn]
  | n + 1, 0, x, _, h, _ => absurd h (by omega)
  | n + 1, m + 1, x, h, hm, st => by
    rcases hn : fnd K E x with _ | y
    · rcases hf : fbI F x with _ | f
      · simp only [fa, hn, hf]
      · rw [fa_s hn hf, fa_s hn hf, faL_congr st (fun y hy st => fa_fuel n m y (h f hf y hy) (by omega) st)]
    · simp only [fa, hn]
theorem Fdp_s1 {F : List Fb} : ∀ (n x : Nat), Fdp F n x → Fdp F (n + 1) x
  | 0, x, h => fun f hf => by rw [show fbI F x = none from h] at hf; cases hf
  | n + 1, x, h => fun f hf y hy => Fdp_s1 n y (h f hf y hy)
theorem Fdp_up {F : List Fb} {x : Nat} (h : Fdp F 39 x) : Fdp F 40 x := Fdp_s1 39 x h
/-- points are spelt, the first on top -/
def spl (F : List Fb) (K : Nat) (E : List En) (H : List Sh) : Nat → List Nat → Nat → List Nat → Option (List Nat × Nat)
  | 0, _, _, _ => none
  | _ + 1, [], st, acc => some (acc, st)
  | m + 1, x :: ps, st, acc => match fnd K E x with
    | some y => spl F K E H m ps (pbW K H st y.1 y.2.1 y.2.2).2 (acc ++ (pbW K H st y.1 y.2.1 y.2.2).1)
    | none => match fbI F x with
      | none => none
      | some f => spl F K E H m (fbL F f ++ ps) st acc
theorem sumN_app {f : Nat → Nat} : ∀ (l m : List Nat), sumN f (l ++ m) = sumN f l + sumN f m
  | [], m => by simp [sumN]
  | x :: l, m => by simp only [List.cons_append, sumN]; rw [sumN_app l m]; omega
theorem spl_ok {F : List Fb} {K : Nat} {E : List En} {H : List Sh} : ∀ (m : Nat) (ps : List Nat) (st : Nat) (acc : List Nat), (∀ x, x ∈ ps → Fdp F 40 x) → sumN (ndF F K E 40) ps < m → spl F K E H m ps st acc = if ps.all (flS F K E 40) = true then some (acc ++ (faL (fa F K E H 40) ps st).1, (faL (fa F K E H 40) ps st).2) else none
  | 0, ps, st, acc, _, h => absurd h (Nat.not_lt_zero _)
  | m + 1, [], st, acc, _, _ => by simp [spl, faL]
  | m + 1, x :: ps, st, acc, hd, h => by
    have hx := hd x (List.mem_cons_self ..)
    have hps : ∀ y, y ∈ ps → Fdp F 40 y := fun y hy => hd y (List.mem_cons_of_mem _ hy)
    simp only [sumN] at h
    rcases hn : fnd K E x with _ | y
    · rcases hf : fbI F x with _ | f
      · have e1 : flS F K E 40 x = false := by simp [flS, hn, hf]
        simp only [spl, hn, hf, List.all_cons, e1, Bool.false_and, Bool.false_eq_true, if_false]
      · have hD := Fdp_step hx hf
        have e1 : ndF F K E 40 x = 1 + sumN (ndF F K E 40) (fbL F f) := by
          rw [show ndF F K E 40 x = 1 + sumN (ndF F K E 39) (fbL F f) from by rw [ndF]; simp only [hn, hf]; rfl, sumN_congr (fun y hy => (nd_fuel 39 40 y (hD y hy) (by decide)).symm)]
        have e2 : flS F K E 40 x = (fbL F f).all (flS F K E 40) := by
          rw [show flS F K E 40 x = (fbL F f).all (flS F K E 39) from by rw [flS]; simp only [hn, hf]; rfl]
          rw [Bool.eq_iff_iff, List.all_eq_true, List.all_eq_true]
          exact ⟨fun h9 y hy => by rw [fls_fuel 39 40 y (hD y hy) (by decide)]; exact h9 y hy, fun h9 y hy => by rw [← fls_fuel 39 40 y (hD y hy) (by decide)]; exact h9 y hy⟩
        have e3 : fa F K E H 40 x st = faL (fa F K E H 40) (fbL F f) st := by
          rw [fa_s (n := 39) hn hf]
          exact faL_congr st (fun y hy st => (fa_fuel 39 40 y (hD y hy) (by decide) st).symm)
        have ih := spl_ok (K := K) (E := E) (H := H) m (fbL F f ++ ps) st acc (fun y hy => by
          rcases List.mem_append.mp hy with h9 | h9
          · have h8 := hD y h9
            exact Fdp_up h8
          · exact hps y h9) (by rw [sumN_app]; omega)
        rw [show spl F K E H (m + 1) (x :: ps) st acc = spl F K E H m (fbL F f ++ ps) st acc from by rw [spl, hn]; simp only [hf], ih]
        rw [List.all_append, List.all_cons, e2, faL_app]
        rw [show faL (fa F K E H 40) (x :: ps) st = ((fa F K E H 40 x st).1 ++ (faL (fa F K E H 40) ps (fa F K E H 40 x st).2).1, (faL (fa F K E H 40) ps (fa F K E H 40 x st).2).2) from rfl, e3]
    · have e1 : flS F K E 40 x = true := by simp [flS, hn]
      have e2 : fa F K E H 40 x st = pbW K H st y.1 y.2.1 y.2.2 := by simp only [fa, hn]
      have ih := spl_ok (K := K) (E := E) (H := H) m ps (pbW K H st y.1 y.2.1 y.2.2).2 (acc ++ (pbW K H st y.1 y.2.1 y.2.2).1) hps (by
        have : 1 ≤ ndF F K E 40 x := by rw [ndF]; simp [hn]
        omega)
      rw [show spl F K E H (m + 1) (x :: ps) st acc = spl F K E H m ps (pbW K H st y.1 y.2.1 y.2.2).2 (acc ++ (pbW K H st y.1 y.2.1 y.2.2).1) from by rw [spl, hn], ih]
      rw [List.all_cons, e1, Bool.true_and]
      rw [show faL (fa F K E H 40) (x :: ps) st = ((fa F K E H 40 x st).1 ++ (faL (fa F K E H 40) ps (fa F K E H 40 x st).2).1, (faL (fa F K E H 40) ps (fa F K E H 40 x st).2).2) from rfl, e2, List.append_assoc]
