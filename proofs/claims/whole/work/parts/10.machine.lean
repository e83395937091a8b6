/-! the mini machine's steps -/
abbrev mL : Type := List (Option Value)
/-- pc, locals, stack, heap, cells and slots made so far -/
abbrev mS : Type := Nat × mL × List Value × mH × Nat × Nat
/-- a step: the next state; a call (method, arguments; pc, locals, rest, cells, slots behind it); a return -/
abbrev mO : Type := mS ⊕ ((Nat × List Value × Nat × mL × List Value × Nat × Nat) ⊕ Option Value)
def mBop (c : Nat) (x y : Int32) : Int32 := match c with
  | 0 => x + y
  | 1 => x - y
  | 2 => x * y
  | 3 => x &&& y
  | 4 => x ||| y
  | 5 => x ^^^ y
  | 6 => x <<< (y &&& 31)
  | 7 => x >>> (y &&& 31)
  | _ => (x.toUInt32 >>> (y.toUInt32 &&& Int32.toUInt32 31)).toInt32
def mLop (c : Nat) (x y : Int64) : Int64 := match c with
  | 0 => x + y
  | 2 => x * y
  | 3 => x &&& y
  | _ => x ||| y
def mLsh (c : Nat) (x : Int64) (y : Int32) : Int64 := match c with
  | 0 => x <<< (y.toInt64 &&& 63)
  | 1 => x >>> (y.toInt64 &&& 63)
  | _ => (x.toUInt64 >>> (y.toInt64.toUInt64 &&& Int64.toUInt64 63)).toInt64
def mCnd (c : Nat) (x y : Int32) : Bool := match c with
  | 0 => decide (x = y)
  | 1 => decide (¬ x = y)
  | 2 => decide (x < y)
  | 3 => decide (y ≤ x)
  | 4 => decide (y < x)
  | _ => decide (x ≤ y)
def mFree (L : mL) (b : Nat) : Bool := match b with
  | 0 => true
  | k + 1 => match L[k]? with
    | some (some v) => Nat.beq v.category 1
    | _ => true
def mCat (r : List Value) : Nat := (r.map fun v => v.category).sum
def mBud (ts : List Nat) (nc ns bc bs : Nat) : Bool := decide (nc + ts.getD 1 0 ≤ bc) && decide (ns + ts.getD 2 0 ≤ bs)
def mDf (ci n : Nat) : List Value := (List.range n).map fun j => defaultValue (mm_ty ci j)
def mFit (ci k : Nat) (v : Value) : Bool := decide (narrow (mm_ty ci k) v = v) && fits (mm_ty ci k) v
def mSem (nx : Nat) (a : Int) (b c : Nat) (ts : List Nat) (L : mL) (st : List Value) (h : mH) (nc ns bc bs : Nat) (op : Nat) : Option mO := match op with
  | 0 => some (.inl (nx, L, .int (Int32.ofInt a) :: st, h, nc, ns))
  | 1 => some (.inl (nx, L, .long (Int64.ofInt a) :: st, h, nc, ns))
  | 2 => match L[b]? with
    | some (some (.int x)) => some (.inl (nx, L, .int x :: st, h, nc, ns))
    | _ => none
  | 3 => match L[b]? with
    | some (some (.ref x)) => some (.inl (nx, L, .ref x :: st, h, nc, ns))
    | some (some .null) => some (.inl (nx, L, .null :: st, h, nc, ns))
    | _ => none
  | 4 => match L[b]? with
    | some (some (.long x)) => some (.inl (nx, L, .long x :: st, h, nc, ns))
    | _ => none
  | 5 => match st with
    | .int x :: r => if b < L.length ∧ mFree L b = true then some (.inl (nx, L.set b (some (.int x)), r, h, nc, ns)) else none
    | _ => none
  | 6 => match st with
    | .ref x :: r => if b < L.length ∧ mFree L b = true then some (.inl (nx, L.set b (some (.ref x)), r, h, nc, ns)) else none
    | .null :: r => if b < L.length ∧ mFree L b = true then some (.inl (nx, L.set b (some .null), r, h, nc, ns)) else none
    | _ => none
  | 7 => match st with
    | .long x :: r => if b + 1 < L.length ∧ mFree L b = true then some (.inl (nx, (L.set b (some (.long x))).set (b + 1) none, r, h, nc, ns)) else none
    | _ => none
  | 8 => match L[b]? with
    | some (some (.int x)) => if mFree L b = true then some (.inl (nx, L.set b (some (.int (x + Int32.ofInt a))), st, h, nc, ns)) else none
    | _ => none
  | 9 => match st with
    | .int y :: .int x :: r => some (.inl (nx, L, .int (mBop c x y) :: r, h, nc, ns))
    | _ => none
  | 10 => match st with
    | .int y :: .int x :: r => if y = 0 then none else some (.inl (nx, L, .int (x / y) :: r, h, nc, ns))
    | _ => none
  | 11 => match st with
    | .int y :: .int x :: r => if y = 0 then none else some (.inl (nx, L, .int (x - x / y * y) :: r, h, nc, ns))
    | _ => none
  | 12 => match st with
    | .long y :: .long x :: r => some (.inl (nx, L, .long (mLop c x y) :: r, h, nc, ns))
    | _ => none
  | 13 => match st with
    | .long y :: .long x :: r => if y = 0 then none else some (.inl (nx, L, .long (x - x / y * y) :: r, h, nc, ns))
    | _ => none
  | 14 => match st with
    | .int y :: .long x :: r => some (.inl (nx, L, .long (mLsh c x y) :: r, h, nc, ns))
    | _ => none
  | 15 => match st with
    | .int x :: r => some (.inl (nx, L, .long x.toInt64 :: r, h, nc, ns))
    | _ => none
  | 16 => match st with
    | .long x :: r => some (.inl (nx, L, .int x.toInt32 :: r, h, nc, ns))
    | _ => none
  | 17 => match st with
    | .int x :: r => some (.inl (nx, L, .int x :: .int x :: r, h, nc, ns))
    | .ref x :: r => some (.inl (nx, L, .ref x :: .ref x :: r, h, nc, ns))
    | _ => none
  | 18 => match st with
    | .int _ :: r => some (.inl (nx, L, r, h, nc, ns))
    | _ => none
  | 19 => match st with
    | .int x :: .ref y :: r => some (.inl (nx, L, .int x :: .ref y :: .int x :: .ref y :: r, h, nc, ns))
    | _ => none
  | 20 => match st with
    | .int x :: r => some (.inl (if mCnd c x 0 = true then b else nx, L, r, h, nc, ns))
    | _ => none
  | 21 => match st with
    | .int y :: .int x :: r => some (.inl (if mCnd c x y = true then b else nx, L, r, h, nc, ns))
    | _ => none
  | 22 => some (.inl (b, L, st, h, nc, ns))
  | 23 => match st with
    | .ref _ :: r => some (.inl (b, L, r, h, nc, ns))
    | .null :: r => some (.inl (nx, L, r, h, nc, ns))
    | _ => none
  | 24 => match st with
    | .long y :: .long x :: r => some (.inl (nx, L, .int (lg_cmp x y) :: r, h, nc, ns))
    | _ => none
  | 25 => some (.inl (nx, L, .null :: st, h, nc, ns))
  | 26 => match st with
    | .int x :: r => some (.inl (if x.toInt < a ∨ a + ts.length ≤ x.toInt then b else ts.getD (x.toInt - a).toNat 0, L, r, h, nc, ns))
    | _ => none
  | 30 => match st with
    | .ref x :: r => match h.2 x with
      | .inr (.inr (ci, fs)) => if ci = b then match fs[c]? with
          | some v => some (.inl (nx, L, v :: r, h, nc, ns))
          | none => none
        else none
      | _ => none
    | _ => none
  | 31 => match st with
    | v :: .ref x :: r => match h.2 x with
      | .inr (.inr (ci, fs)) => if ci = b ∧ c < fs.length ∧ mFit b c v = true then some (.inl (nx, L, r, mSet h x (.inr (.inr (ci, fs.set c v))), nc, ns)) else none
      | _ => none
    | _ => none
  | 33 => match st with
    | .int i :: .ref x :: r => match h.2 x with
      | .inl (t, n, f) => if (t = 0 ∨ t = 9) ∧ ¬ (i < 0 ∨ n ≤ i.toNatClampNeg) then some (.inl (nx, L, .int (f i.toNatClampNeg) :: r, h, nc, ns)) else none
      | _ => none
    | _ => none
  | 34 => match st with
    | .int i :: .ref x :: r => match h.2 x with
      | .inl (t, n, f) => if t = 1 ∧ ¬ (i < 0 ∨ n ≤ i.toNatClampNeg) then some (.inl (nx, L, .int (f i.toNatClampNeg) :: r, h, nc, ns)) else none
      | _ => none
    | _ => none
  | 35 => match st with
    | .int i :: .ref x :: r => match h.2 x with
      | .inr (.inl (t, n, g)) => if (t = 2 ∨ t = 3) ∧ ¬ (i < 0 ∨ n ≤ i.toNatClampNeg) then some (.inl (nx, L, va_rf (g i.toNatClampNeg) :: r, h, nc, ns)) else none
      | _ => none
    | _ => none
  | 36 => match st with
    | .int v :: .int i :: .ref x :: r => match h.2 x with
      | .inl (t, n, f) => if t = 0 ∧ ¬ (i < 0 ∨ n ≤ i.toNatClampNeg) then some (.inl (nx, L, r, mSet h x (.inl (t, n, upd f i.toNatClampNeg v)), nc, ns)) else none
      | _ => none
    | _ => none
  | 37 => match st with
    | .int v :: .int i :: .ref x :: r => match h.2 x with
      | .inl (t, n, f) => if t = 1 ∧ ¬ (i < 0 ∨ n ≤ i.toNatClampNeg) ∧ (v = 0 ∨ v = 1) then some (.inl (nx, L, r, mSet h x (.inl (t, n, upd f i.toNatClampNeg v)), nc, ns)) else none
      | _ => none
    | _ => none
  | 38 => match st with
    | .ref v :: .int i :: .ref x :: r => match h.2 x, h.2 v with
      | .inr (.inl (t, n, g)), .inr (.inr (ci, _)) => if ((t = 2 ∧ ci = 4) ∨ (t = 3 ∧ ci = 3)) ∧ ¬ (i < 0 ∨ n ≤ i.toNatClampNeg) then some (.inl (nx, L, r, mSet h x (.inr (.inl (t, n, va_up g i.toNatClampNeg (some v)))), nc, ns)) else none
      | _, _ => none
    | _ => none
  | 39 => match st with
    | .ref x :: r => match h.2 x with
      | .inl (t, n, _) => if t = 0 ∨ t = 1 ∨ t = 9 then some (.inl (nx, L, .int (Int32.ofNat n) :: r, h, nc, ns)) else none
      | .inr (.inl (t, n, _)) => if t = 2 ∨ t = 3 then some (.inl (nx, L, .int (Int32.ofNat n) :: r, h, nc, ns)) else none
      | _ => none
    | _ => none
  | 40 => match st with
    | .int n :: r => if ¬ n < 0 ∧ n.toNatClampNeg ≤ 100000 ∧ nc + 1 ≤ bc ∧ ns + n.toNatClampNeg ≤ bs then some (.inl (nx, L, .ref h.1 :: r, mNew h (.inl (c, n.toNatClampNeg, fun _ => 0)), nc + 1, ns + n.toNatClampNeg)) else none
    | _ => none
  | 41 => match st with
    | .int n :: r => if ¬ n < 0 ∧ n.toNatClampNeg ≤ 100000 ∧ nc + 1 ≤ bc ∧ ns + n.toNatClampNeg ≤ bs then some (.inl (nx, L, .ref h.1 :: r, mNew h (.inr (.inl (c, n.toNatClampNeg, fun _ => none))), nc + 1, ns + n.toNatClampNeg)) else none
    | _ => none
  | 42 => if nc + 1 ≤ bc ∧ ns + c ≤ bs then some (.inl (nx, L, .ref h.1 :: st, mNew h (.inr (.inr (b, mDf b c))), nc + 1, ns + c)) else none
  | 50 => match st.drop c with
    | .ref x :: r => match h.2 x with
      | .inr (.inr (ci, _)) => if ci = ts.getD 0 0 ∧ c ≤ st.length ∧ mCat r ≤ 8 ∧ mBud ts nc ns bc bs = true then some (.inr (.inl (b, .ref x :: (st.take c).reverse, nx, L, r, nc + ts.getD 1 0, ns + ts.getD 2 0))) else none
      | _ => none
    | _ => none
  | 51 => if c ≤ st.length ∧ mCat (st.drop c) ≤ 8 ∧ mBud ts nc ns bc bs = true then some (.inr (.inl (b, (st.take c).reverse, nx, L, st.drop c, nc + ts.getD 1 0, ns + ts.getD 2 0))) else none
  | 52 => match st.drop c with
    | .ref x :: r => if c ≤ st.length ∧ mCat r ≤ 8 ∧ mBud ts nc ns bc bs = true then some (.inr (.inl (b, .ref x :: (st.take c).reverse, nx, L, r, nc + ts.getD 1 0, ns + ts.getD 2 0))) else none
    | _ => none
  | 53 => match st with
    | .ref _ :: r => if mCat r ≤ 8 then some (.inl (nx, L, r, h, nc, ns)) else none
    | _ => none
  | 54 => match st with
    | .int y :: .int x :: r => if mCat r ≤ 8 ∧ nc ≤ bc ∧ ns ≤ bs then some (.inl (nx, L, .int (if x < y then y else x) :: r, h, nc, ns)) else none
    | _ => none
  | 55 => match st with
    | .int y :: .int x :: r => if mCat r ≤ 8 ∧ nc ≤ bc ∧ ns ≤ bs then some (.inl (nx, L, .int (if y < x then y else x) :: r, h, nc, ns)) else none
    | _ => none
  | 56 => match st with
    | .int n :: .int dp :: .ref y :: .int sp :: .ref x :: r => match h.2 x, h.2 y with
      | .inl (t, n0, f), .inl (t', n1, g) => if mCat r ≤ 8 ∧ t = 0 ∧ t' = 0 ∧ ¬ sp < 0 ∧ ¬ dp < 0 ∧ ¬ n < 0 ∧ sp.toNatClampNeg + n.toNatClampNeg ≤ n0 ∧ dp.toNatClampNeg + n.toNatClampNeg ≤ n1 then some (.inl (nx, L, r, mSet h y (.inl (0, n1, va_cpy f g sp.toNatClampNeg dp.toNatClampNeg n.toNatClampNeg)), nc, ns)) else none
      | _, _ => none
    | _ => none
  | 70 => match st with
    | [.int v] => if nc ≤ bc ∧ ns ≤ bs ∧ (b = 0 ∨ v = 0 ∨ v = 1) then some (.inr (.inr (some (.int v)))) else none
    | _ => none
  | 71 => match st with
    | [.long v] => if nc ≤ bc ∧ ns ≤ bs then some (.inr (.inr (some (.long v)))) else none
    | _ => none
  | 72 => match st with
    | [] => if nc ≤ bc ∧ ns ≤ bs then some (.inr (.inr none)) else none
    | _ => none
  | _ => none
def mNext (t : mK) (bc bs : Nat) (s : mS) : Option mO := match mAt t s.1 with
  | none => none
  | some (len, op, a, b, c, ts) => mSem (s.1 + len) a b c ts s.2.1 s.2.2.1 s.2.2.2.1 s.2.2.2.2.1 s.2.2.2.2.2 bc bs op
abbrev mP : Type := Option Value → mH → Prop
abbrev mA : Type := Nat → List Value → mH → mP → Prop
def mStep (call : mA) (t : mK) (bc bs : Nat) (X : mS → Prop) (Q : mP) (s : mS) : Prop := match mNext t bc bs s with
  | none => False
  | some (.inl s') => X s'
  | some (.inr (.inl (k, As, pc', L', r, nc', ns'))) => call k As s.2.2.2.1 (fun v h' => X (pc', L', v.toList ++ r, h', nc', ns'))
  | some (.inr (.inr v)) => Q v s.2.2.2.1
def mWk (call : mA) (t : mK) (bc bs : Nat) (Q : mP) (s : mS) : Prop := ∀ X : mS → Prop, (∀ s, mStep call t bc bs X Q s → X s) → X s
def mMono (call : mA) : Prop := ∀ (k : Nat) (As : List Value) (h : mH) (Q Q' : mP), (∀ v h', Q v h' → Q' v h') → call k As h Q → call k As h Q'
theorem mStep_mono {call : mA} (hc : mMono call) {t : mK} {bc bs : Nat} {X Y : mS → Prop} {Q : mP} {s : mS} (h : ∀ s, X s → Y s) (hs : mStep call t bc bs X Q s) : mStep call t bc bs Y Q s := by
  unfold mStep at hs ⊢
  split
  · simp_all
  · rename_i s' e
    rw [e] at hs
    exact h _ hs
  · rename_i k As pc' L' r nc' ns' e
    rw [e] at hs
    exact hc _ _ _ _ _ (fun v h' hx => h _ hx) hs
  · rename_i v e
    rw [e] at hs
    exact hs
theorem mWk_step {call : mA} (hc : mMono call) {t : mK} {bc bs : Nat} {Q : mP} {s : mS} (h : mStep call t bc bs (mWk call t bc bs Q) Q s) : mWk call t bc bs Q s := by
  intro X hX
  exact hX _ (mStep_mono hc (fun s hs => hs X hX) h)
theorem mStep_post {call : mA} {t : mK} {bc bs : Nat} {X : mS → Prop} {Q Q' : mP} {s : mS} (h : ∀ v h', Q v h' → Q' v h') (hs : mStep call t bc bs X Q s) : mStep call t bc bs X Q' s := by
  unfold mStep at hs ⊢
  split
  · simp_all
  · rename_i s' e
    rw [e] at hs
    exact hs
  · rename_i k As pc' L' r nc' ns' e
    rw [e] at hs
    exact hs
  · rename_i v e
    rw [e] at hs
    exact h _ _ hs
theorem mWk_post {call : mA} {t : mK} {bc bs : Nat} {Q Q' : mP} {s : mS} (h : ∀ v h', Q v h' → Q' v h') (hs : mWk call t bc bs Q s) : mWk call t bc bs Q' s := fun X hX => hs X (fun s hs => hX s (mStep_post h hs))
def mSp : List Value → mL
  | [] => []
  | v :: r => if v.category = 2 then some v :: none :: mSp r else some v :: mSp r
/-- the locals at a method's entry -/
def mEnt (n : Nat) (As : List Value) : mL := mSp As ++ List.replicate (n - (mSp As).length) none
def mWP : Nat → mA
  | 0 => fun _ _ _ _ => False
  | d + 1 => fun k As h Q => match mT[k]? with
    | none => False
    | some (_, _, n, _, _, na, _, mc, ms, t, _) => As.length = na ∧ (mSp As).length ≤ n ∧ mWk (mWP d) t mc ms Q (0, mEnt n As, [], h, 0, 0)
theorem mWP_mono : ∀ d, mMono (mWP d)
  | 0 => fun _ _ _ _ _ _ h => h
  | d + 1 => by
    intro k As h Q Q' hq hw
    unfold mWP at hw ⊢
    split
    · simp_all
    · rename_i e
      rw [e] at hw
      exact ⟨hw.1, hw.2.1, mWk_post hq hw.2.2⟩
