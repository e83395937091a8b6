/-! rules of the mini machine, one an instruction -/
def mZ (d : Nat) (t : mK) (bc bs : Nat) (Q : mP) (pc : Nat) (L : mL) (st : List Value) (h : mH) (nc ns : Nat) : Prop := mWk (mWP d) t bc bs Q (pc, L, st, h, nc, ns)
section ZR
variable {d : Nat} {t : mK} {bc bs : Nat} {Q : mP} {pc len b c : Nat} {a : Int} {ts : List Nat} {L L' : mL} {st st' r : List Value} {h h' : mH} {nc ns nc' ns' pc' : Nat}
theorem z_go {op : Nat} (hi : mAt t pc = some (len, op, a, b, c, ts)) (hs : mSem (pc + len) a b c ts L st h nc ns bc bs op = some (.inl (pc', L', st', h', nc', ns'))) (k : mZ d t bc bs Q pc' L' st' h' nc' ns') : mZ d t bc bs Q pc L st h nc ns := by
  refine mWk_step (mWP_mono d) ?_
  unfold mStep mNext
  simp only [hi, hs]
  exact k
theorem z_push (pc' : Nat) (v : Int32) (hi : mAt t pc = some (len, 0, a, b, c, ts)) (hp : pc + len = pc') (hv : Int32.ofInt a = v) (k : mZ d t bc bs Q pc' L (.int v :: st) h nc ns) : mZ d t bc bs Q pc L st h nc ns := by
  subst hp hv
  exact z_go hi rfl k
theorem z_pushl (pc' : Nat) (v : Int64) (hi : mAt t pc = some (len, 1, a, b, c, ts)) (hp : pc + len = pc') (hv : Int64.ofInt a = v) (k : mZ d t bc bs Q pc' L (.long v :: st) h nc ns) : mZ d t bc bs Q pc L st h nc ns := by
  subst hp hv
  exact z_go hi rfl k
theorem z_iload {x : Int32} (pc' : Nat) (hi : mAt t pc = some (len, 2, a, b, c, ts)) (hp : pc + len = pc') (hl : L[b]? = some (some (.int x))) (k : mZ d t bc bs Q pc' L (.int x :: st) h nc ns) : mZ d t bc bs Q pc L st h nc ns := by
  subst hp
  exact z_go hi (by simp only [mSem, hl]) k
theorem z_aload {x : Nat} (pc' : Nat) (hi : mAt t pc = some (len, 3, a, b, c, ts)) (hp : pc + len = pc') (hl : L[b]? = some (some (.ref x))) (k : mZ d t bc bs Q pc' L (.ref x :: st) h nc ns) : mZ d t bc bs Q pc L st h nc ns := by
  subst hp
  exact z_go hi (by simp only [mSem, hl]) k
theorem z_lload {x : Int64} (pc' : Nat) (hi : mAt t pc = some (len, 4, a, b, c, ts)) (hp : pc + len = pc') (hl : L[b]? = some (some (.long x))) (k : mZ d t bc bs Q pc' L (.long x :: st) h nc ns) : mZ d t bc bs Q pc L st h nc ns := by
  subst hp
  exact z_go hi (by simp only [mSem, hl]) k
theorem z_istore {x : Int32} (pc' : Nat) (hi : mAt t pc = some (len, 5, a, b, c, ts)) (hp : pc + len = pc') (hb : Nat.blt b L.length = true) (hf : mFree L b = true) (k : mZ d t bc bs Q pc' (L.set b (some (.int x))) st h nc ns) : mZ d t bc bs Q pc L (.int x :: st) h nc ns := by
  subst hp
  exact z_go hi (by simp only [mSem]; rw [if_pos ⟨Nat.blt_eq.mp hb, hf⟩]) k
theorem z_astore {x : Nat} (pc' : Nat) (hi : mAt t pc = some (len, 6, a, b, c, ts)) (hp : pc + len = pc') (hb : Nat.blt b L.length = true) (hf : mFree L b = true) (k : mZ d t bc bs Q pc' (L.set b (some (.ref x))) st h nc ns) : mZ d t bc bs Q pc L (.ref x :: st) h nc ns := by
  subst hp
  exact z_go hi (by simp only [mSem]; rw [if_pos ⟨Nat.blt_eq.mp hb, hf⟩]) k
theorem z_lstore {x : Int64} (pc' : Nat) (hi : mAt t pc = some (len, 7, a, b, c, ts)) (hp : pc + len = pc') (hb : Nat.blt (b + 1) L.length = true) (hf : mFree L b = true) (k : mZ d t bc bs Q pc' ((L.set b (some (.long x))).set (b + 1) none) st h nc ns) : mZ d t bc bs Q pc L (.long x :: st) h nc ns := by
  subst hp
  exact z_go hi (by simp only [mSem]; rw [if_pos ⟨Nat.blt_eq.mp hb, hf⟩]) k
theorem z_iinc {x : Int32} (pc' : Nat) (v : Int32) (hi : mAt t pc = some (len, 8, a, b, c, ts)) (hp : pc + len = pc') (hl : L[b]? = some (some (.int x))) (hf : mFree L b = true) (hv : x + Int32.ofInt a = v) (k : mZ d t bc bs Q pc' (L.set b (some (.int v))) st h nc ns) : mZ d t bc bs Q pc L st h nc ns := by
  subst hp hv
  exact z_go hi (by simp only [mSem, hl]; rw [if_pos hf]) k
theorem z_bop {x y : Int32} (pc' : Nat) (v : Int32) (hi : mAt t pc = some (len, 9, a, b, c, ts)) (hp : pc + len = pc') (hv : mBop c x y = v) (k : mZ d t bc bs Q pc' L (.int v :: st) h nc ns) : mZ d t bc bs Q pc L (.int y :: .int x :: st) h nc ns := by
  subst hp hv
  exact z_go hi (by simp only [mSem]) k
theorem z_idiv {x y : Int32} (pc' : Nat) (v : Int32) (hi : mAt t pc = some (len, 10, a, b, c, ts)) (hp : pc + len = pc') (hy : ¬ y = 0) (hv : x / y = v) (k : mZ d t bc bs Q pc' L (.int v :: st) h nc ns) : mZ d t bc bs Q pc L (.int y :: .int x :: st) h nc ns := by
  subst hp hv
  exact z_go hi (by simp only [mSem]; rw [if_neg hy]) k
theorem z_irem {x y : Int32} (pc' : Nat) (v : Int32) (hi : mAt t pc = some (len, 11, a, b, c, ts)) (hp : pc + len = pc') (hy : ¬ y = 0) (hv : x - x / y * y = v) (k : mZ d t bc bs Q pc' L (.int v :: st) h nc ns) : mZ d t bc bs Q pc L (.int y :: .int x :: st) h nc ns := by
  subst hp hv
  exact z_go hi (by simp only [mSem]; rw [if_neg hy]) k
theorem z_lop {x y : Int64} (pc' : Nat) (v : Int64) (hi : mAt t pc = some (len, 12, a, b, c, ts)) (hp : pc + len = pc') (hv : mLop c x y = v) (k : mZ d t bc bs Q pc' L (.long v :: st) h nc ns) : mZ d t bc bs Q pc L (.long y :: .long x :: st) h nc ns := by
  subst hp hv
  exact z_go hi (by simp only [mSem]) k
theorem z_lrem {x y : Int64} (pc' : Nat) (v : Int64) (hi : mAt t pc = some (len, 13, a, b, c, ts)) (hp : pc + len = pc') (hy : ¬ y = 0) (hv : x - x / y * y = v) (k : mZ d t bc bs Q pc' L (.long v :: st) h nc ns) : mZ d t bc bs Q pc L (.long y :: .long x :: st) h nc ns := by
  subst hp hv
  exact z_go hi (by simp only [mSem]; rw [if_neg hy]) k
theorem z_lsh {x : Int64} {y : Int32} (pc' : Nat) (v : Int64) (hi : mAt t pc = some (len, 14, a, b, c, ts)) (hp : pc + len = pc') (hv : mLsh c x y = v) (k : mZ d t bc bs Q pc' L (.long v :: st) h nc ns) : mZ d t bc bs Q pc L (.int y :: .long x :: st) h nc ns := by
  subst hp hv
  exact z_go hi (by simp only [mSem]) k
theorem z_i2l {x : Int32} (pc' : Nat) (hi : mAt t pc = some (len, 15, a, b, c, ts)) (hp : pc + len = pc') (k : mZ d t bc bs Q pc' L (.long x.toInt64 :: st) h nc ns) : mZ d t bc bs Q pc L (.int x :: st) h nc ns := by
  subst hp
  exact z_go hi (by simp only [mSem]) k
theorem z_l2i {x : Int64} (pc' : Nat) (hi : mAt t pc = some (len, 16, a, b, c, ts)) (hp : pc + len = pc') (k : mZ d t bc bs Q pc' L (.int x.toInt32 :: st) h nc ns) : mZ d t bc bs Q pc L (.long x :: st) h nc ns := by
  subst hp
  exact z_go hi (by simp only [mSem]) k
theorem z_dupi {x : Int32} (pc' : Nat) (hi : mAt t pc = some (len, 17, a, b, c, ts)) (hp : pc + len = pc') (k : mZ d t bc bs Q pc' L (.int x :: .int x :: st) h nc ns) : mZ d t bc bs Q pc L (.int x :: st) h nc ns := by
  subst hp
  exact z_go hi (by simp only [mSem]) k
theorem z_dup {x : Nat} (pc' : Nat) (hi : mAt t pc = some (len, 17, a, b, c, ts)) (hp : pc + len = pc') (k : mZ d t bc bs Q pc' L (.ref x :: .ref x :: st) h nc ns) : mZ d t bc bs Q pc L (.ref x :: st) h nc ns := by
  subst hp
  exact z_go hi (by simp only [mSem]) k
theorem z_pop {x : Int32} (pc' : Nat) (hi : mAt t pc = some (len, 18, a, b, c, ts)) (hp : pc + len = pc') (k : mZ d t bc bs Q pc' L st h nc ns) : mZ d t bc bs Q pc L (.int x :: st) h nc ns := by
  subst hp
  exact z_go hi (by simp only [mSem]) k
theorem z_dup2 {x : Int32} {y : Nat} (pc' : Nat) (hi : mAt t pc = some (len, 19, a, b, c, ts)) (hp : pc + len = pc') (k : mZ d t bc bs Q pc' L (.int x :: .ref y :: .int x :: .ref y :: st) h nc ns) : mZ d t bc bs Q pc L (.int x :: .ref y :: st) h nc ns := by
  subst hp
  exact z_go hi (by simp only [mSem]) k
theorem z_if {x : Int32} (pc' : Nat) (hi : mAt t pc = some (len, 20, a, b, c, ts)) (hp : pc + len = pc') (kt : mCnd c x 0 = true → mZ d t bc bs Q b L st h nc ns) (kf : mCnd c x 0 = false → mZ d t bc bs Q pc' L st h nc ns) : mZ d t bc bs Q pc L (.int x :: st) h nc ns := by
  subst hp
  cases hc : mCnd c x 0 with
  | true => exact z_go hi (by simp only [mSem]; rw [if_pos hc]) (kt hc)
  | false => exact z_go hi (by simp only [mSem]; rw [if_neg (by rw [hc]; decide)]) (kf hc)
theorem z_icmp {x y : Int32} (pc' : Nat) (hi : mAt t pc = some (len, 21, a, b, c, ts)) (hp : pc + len = pc') (kt : mCnd c x y = true → mZ d t bc bs Q b L st h nc ns) (kf : mCnd c x y = false → mZ d t bc bs Q pc' L st h nc ns) : mZ d t bc bs Q pc L (.int y :: .int x :: st) h nc ns := by
  subst hp
  cases hc : mCnd c x y with
  | true => exact z_go hi (by simp only [mSem]; rw [if_pos hc]) (kt hc)
  | false => exact z_go hi (by simp only [mSem]; rw [if_neg (by rw [hc]; decide)]) (kf hc)
theorem z_goto (hi : mAt t pc = some (len, 22, a, b, c, ts)) (k : mZ d t bc bs Q b L st h nc ns) : mZ d t bc bs Q pc L st h nc ns := z_go hi rfl k
theorem z_nn {x : Nat} (hi : mAt t pc = some (len, 23, a, b, c, ts)) (k : mZ d t bc bs Q b L st h nc ns) : mZ d t bc bs Q pc L (.ref x :: st) h nc ns := z_go hi (by simp only [mSem]) k
theorem z_nnN (pc' : Nat) (hi : mAt t pc = some (len, 23, a, b, c, ts)) (hp : pc + len = pc') (k : mZ d t bc bs Q pc' L st h nc ns) : mZ d t bc bs Q pc L (.null :: st) h nc ns := by
  subst hp
  exact z_go hi (by simp only [mSem]) k
theorem z_lcmp {x y : Int64} (pc' : Nat) (hi : mAt t pc = some (len, 24, a, b, c, ts)) (hp : pc + len = pc') (k : mZ d t bc bs Q pc' L (.int (lg_cmp x y) :: st) h nc ns) : mZ d t bc bs Q pc L (.long y :: .long x :: st) h nc ns := by
  subst hp
  exact z_go hi (by simp only [mSem]) k
theorem z_null (pc' : Nat) (hi : mAt t pc = some (len, 25, a, b, c, ts)) (hp : pc + len = pc') (k : mZ d t bc bs Q pc' L (.null :: st) h nc ns) : mZ d t bc bs Q pc L st h nc ns := by
  subst hp
  exact z_go hi rfl k
theorem z_swIn {x : Int32} (pc' : Nat) (hi : mAt t pc = some (len, 26, a, b, c, ts)) (j : Nat) (hx : x.toInt = a + (j : Int)) (hj : ts[j]? = some pc') (k : mZ d t bc bs Q pc' L st h nc ns) : mZ d t bc bs Q pc L (.int x :: st) h nc ns := by
  have h1 : j < ts.length := (List.getElem?_eq_some_iff.mp hj).1
  refine z_go (pc' := pc') (L' := L) (st' := st) (h' := h) (nc' := nc) (ns' := ns) hi ?_ k
  simp only [mSem]
  rw [if_neg (by omega), show (x.toInt - a).toNat = j by omega, List.getD_eq_getElem?_getD, hj]
  rfl
theorem z_swOut {x : Int32} (hi : mAt t pc = some (len, 26, a, b, c, ts)) (hx : x.toInt < a ∨ a + (ts.length : Int) ≤ x.toInt) (k : mZ d t bc bs Q b L st h nc ns) : mZ d t bc bs Q pc L (.int x :: st) h nc ns := by
  refine z_go (pc' := b) (L' := L) (st' := st) (h' := h) (nc' := nc) (ns' := ns) hi ?_ k
  simp only [mSem]
  rw [if_pos hx]
theorem z_get {x : Nat} {fs : List Value} {v : Value} (pc' : Nat) (hi : mAt t pc = some (len, 30, a, b, c, ts)) (hp : pc + len = pc') (hx : h.2 x = .inr (.inr (b, fs))) (hv : fs[c]? = some v) (k : mZ d t bc bs Q pc' L (v :: st) h nc ns) : mZ d t bc bs Q pc L (.ref x :: st) h nc ns := by
  subst hp
  exact z_go hi (by simp only [mSem, hx, hv, if_true]) k
theorem z_put {x : Nat} {fs : List Value} {v : Value} (pc' : Nat) (hi : mAt t pc = some (len, 31, a, b, c, ts)) (hp : pc + len = pc') (hx : h.2 x = .inr (.inr (b, fs))) (hl : Nat.blt c fs.length = true) (hf : mFit b c v = true) (k : mZ d t bc bs Q pc' L st (mSet h x (.inr (.inr (b, fs.set c v)))) nc ns) : mZ d t bc bs Q pc L (v :: .ref x :: st) h nc ns := by
  subst hp
  exact z_go hi (by simp only [mSem, hx]; rw [if_pos ⟨trivial, Nat.blt_eq.mp hl, hf⟩]) k
theorem z_ald {x n : Nat} {f : Nat → Int32} {i : Int32} {j : Nat} (pc' : Nat) (hi : mAt t pc = some (len, 33, a, b, c, ts)) (hp : pc + len = pc') (hx : h.2 x = .inl (0, n, f)) (hij : i = nI j) (hj : j < n) (hn : n < 2 ^ 31) (k : mZ d t bc bs Q pc' L (.int (f j) :: st) h nc ns) : mZ d t bc bs Q pc L (.int i :: .ref x :: st) h nc ns := by
  subst hp hij
  have h1 : (nI j).toNatClampNeg = j := nI_clamp (Nat.lt_trans hj hn)
  refine z_go hi (by simp only [mSem, hx]; rw [if_pos ⟨Or.inl trivial, nI_in hj hn⟩, h1]) k
theorem z_sld {x n : Nat} {f : Nat → Int32} {i : Int32} {j : Nat} (pc' : Nat) (hi : mAt t pc = some (len, 33, a, b, c, ts)) (hp : pc + len = pc') (hx : h.2 x = .inl (9, n, f)) (hij : i = nI j) (hj : j < n) (hn : n < 2 ^ 31) (k : mZ d t bc bs Q pc' L (.int (f j) :: st) h nc ns) : mZ d t bc bs Q pc L (.int i :: .ref x :: st) h nc ns := by
  subst hp hij
  have h1 : (nI j).toNatClampNeg = j := nI_clamp (Nat.lt_trans hj hn)
  refine z_go hi (by simp only [mSem, hx]; rw [if_pos ⟨Or.inr trivial, nI_in hj hn⟩, h1]) k
theorem z_bld {x n : Nat} {f : Nat → Int32} {i : Int32} {j : Nat} (pc' : Nat) (hi : mAt t pc = some (len, 34, a, b, c, ts)) (hp : pc + len = pc') (hx : h.2 x = .inl (1, n, f)) (hij : i = nI j) (hj : j < n) (hn : n < 2 ^ 31) (k : mZ d t bc bs Q pc' L (.int (f j) :: st) h nc ns) : mZ d t bc bs Q pc L (.int i :: .ref x :: st) h nc ns := by
  subst hp hij
  have h1 : (nI j).toNatClampNeg = j := nI_clamp (Nat.lt_trans hj hn)
  refine z_go hi (by simp only [mSem, hx]; rw [if_pos ⟨trivial, nI_in hj hn⟩, h1]) k
theorem z_qld {x n g : Nat} {f : Nat → Option Nat} {i : Int32} {j y : Nat} (pc' : Nat) (hi : mAt t pc = some (len, 35, a, b, c, ts)) (hp : pc + len = pc') (hx : h.2 x = .inr (.inl (g, n, f))) (hg : g = 2 ∨ g = 3) (hij : i = nI j) (hj : j < n) (hn : n < 2 ^ 31) (hf : f j = some y) (k : mZ d t bc bs Q pc' L (.ref y :: st) h nc ns) : mZ d t bc bs Q pc L (.int i :: .ref x :: st) h nc ns := by
  subst hp hij
  have h1 : (nI j).toNatClampNeg = j := nI_clamp (Nat.lt_trans hj hn)
  refine z_go hi (by simp only [mSem, hx]; rw [if_pos ⟨hg, nI_in hj hn⟩, h1, hf]; rfl) k
theorem z_ast {x n : Nat} {f : Nat → Int32} {i v : Int32} {j : Nat} (pc' : Nat) (hi : mAt t pc = some (len, 36, a, b, c, ts)) (hp : pc + len = pc') (hx : h.2 x = .inl (0, n, f)) (hij : i = nI j) (hj : j < n) (hn : n < 2 ^ 31) (k : mZ d t bc bs Q pc' L st (mSet h x (.inl (0, n, upd f j v))) nc ns) : mZ d t bc bs Q pc L (.int v :: .int i :: .ref x :: st) h nc ns := by
  subst hp hij
  have h1 : (nI j).toNatClampNeg = j := nI_clamp (Nat.lt_trans hj hn)
  refine z_go hi (by simp only [mSem, hx]; rw [if_pos ⟨trivial, nI_in hj hn⟩, h1]) k
theorem z_bst {x n : Nat} {f : Nat → Int32} {i v : Int32} {j : Nat} (pc' : Nat) (hi : mAt t pc = some (len, 37, a, b, c, ts)) (hp : pc + len = pc') (hx : h.2 x = .inl (1, n, f)) (hij : i = nI j) (hj : j < n) (hn : n < 2 ^ 31) (hv : v = 0 ∨ v = 1) (k : mZ d t bc bs Q pc' L st (mSet h x (.inl (1, n, upd f j v))) nc ns) : mZ d t bc bs Q pc L (.int v :: .int i :: .ref x :: st) h nc ns := by
  subst hp hij
  have h1 : (nI j).toNatClampNeg = j := nI_clamp (Nat.lt_trans hj hn)
  refine z_go hi (by simp only [mSem, hx]; rw [if_pos ⟨trivial, nI_in hj hn, hv⟩, h1]) k
theorem z_qst {x n g ci y : Nat} {fs : List Value} {f : Nat → Option Nat} {i : Int32} {j : Nat} (pc' : Nat) (hi : mAt t pc = some (len, 38, a, b, c, ts)) (hp : pc + len = pc') (hx : h.2 x = .inr (.inl (g, n, f))) (hy : h.2 y = .inr (.inr (ci, fs))) (hg : (g = 2 ∧ ci = 4) ∨ (g = 3 ∧ ci = 3)) (hij : i = nI j) (hj : j < n) (hn : n < 2 ^ 31) (k : mZ d t bc bs Q pc' L st (mSet h x (.inr (.inl (g, n, va_up f j (some y))))) nc ns) : mZ d t bc bs Q pc L (.ref y :: .int i :: .ref x :: st) h nc ns := by
  subst hp hij
  have h1 : (nI j).toNatClampNeg = j := nI_clamp (Nat.lt_trans hj hn)
  refine z_go hi (by simp only [mSem, hx, hy]; rw [if_pos ⟨hg, nI_in hj hn⟩, h1]) k
theorem z_alen {x n g : Nat} {f : Nat → Int32} (pc' : Nat) (hi : mAt t pc = some (len, 39, a, b, c, ts)) (hp : pc + len = pc') (hx : h.2 x = .inl (g, n, f)) (hg : g = 0 ∨ g = 1 ∨ g = 9) (k : mZ d t bc bs Q pc' L (.int (nI n) :: st) h nc ns) : mZ d t bc bs Q pc L (.ref x :: st) h nc ns := by
  subst hp
  exact z_go hi (by simp only [mSem, hx]; rw [if_pos hg]; rfl) k
theorem z_newa {n : Int32} {j : Nat} (pc' : Nat) (hi : mAt t pc = some (len, 40, a, b, c, ts)) (hp : pc + len = pc') (hij : n = nI j) (hj : j ≤ 100000) (hc : nc + 1 ≤ bc) (hs : ns + j ≤ bs) (k : mZ d t bc bs Q pc' L (.ref h.1 :: st) (mNew h (.inl (c, j, fun _ => 0))) (nc + 1) (ns + j)) : mZ d t bc bs Q pc L (.int n :: st) h nc ns := by
  subst hp hij
  have h1 : (nI j).toNatClampNeg = j := nI_clamp (by omega)
  refine z_go hi (by simp only [mSem, h1]; rw [if_pos ⟨nI_pos (by omega), hj, hc, hs⟩]) k
theorem z_newq {n : Int32} {j : Nat} (pc' : Nat) (hi : mAt t pc = some (len, 41, a, b, c, ts)) (hp : pc + len = pc') (hij : n = nI j) (hj : j ≤ 100000) (hc : nc + 1 ≤ bc) (hs : ns + j ≤ bs) (k : mZ d t bc bs Q pc' L (.ref h.1 :: st) (mNew h (.inr (.inl (c, j, fun _ => none)))) (nc + 1) (ns + j)) : mZ d t bc bs Q pc L (.int n :: st) h nc ns := by
  subst hp hij
  have h1 : (nI j).toNatClampNeg = j := nI_clamp (by omega)
  refine z_go hi (by simp only [mSem, h1]; rw [if_pos ⟨nI_pos (by omega), hj, hc, hs⟩]) k
theorem z_new (pc' : Nat) (hi : mAt t pc = some (len, 42, a, b, c, ts)) (hp : pc + len = pc') (hc : nc + 1 ≤ bc) (hs : ns + c ≤ bs) (k : mZ d t bc bs Q pc' L (.ref h.1 :: st) (mNew h (.inr (.inr (b, mDf b c)))) (nc + 1) (ns + c)) : mZ d t bc bs Q pc L st h nc ns := by
  subst hp
  exact z_go hi (by simp only [mSem]; rw [if_pos ⟨hc, hs⟩]) k
theorem z_call {op k : Nat} {As : List Value} (hi : mAt t pc = some (len, op, a, b, c, ts)) (hs : mSem (pc + len) a b c ts L st h nc ns bc bs op = some (.inr (.inl (k, As, pc', L', r, nc', ns')))) (kk : mWP d k As h (fun v h' => mZ d t bc bs Q pc' L' (v.toList ++ r) h' nc' ns')) : mZ d t bc bs Q pc L st h nc ns := by
  refine mWk_step (mWP_mono d) ?_
  unfold mStep mNext
  simp only [hi, hs]
  exact kk
theorem z_cv {x : Nat} {fs : List Value} {ci mc ms : Nat} (pc' : Nat) (As : List Value) (hi : mAt t pc = some (len, 50, a, b, c, [ci, mc, ms])) (hp : pc + len = pc') (ha : (st.take c).reverse = As) (hd : st.drop c = .ref x :: r) (hx : h.2 x = .inr (.inr (ci, fs))) (hl : Nat.ble c st.length = true) (hr : Nat.ble (mCat r) 8 = true) (hc : nc + mc ≤ bc) (hs : ns + ms ≤ bs) (kk : mWP d b (.ref x :: As) h (fun v h' => mZ d t bc bs Q pc' L (v.toList ++ r) h' (nc + mc) (ns + ms))) : mZ d t bc bs Q pc L st h nc ns := by
  subst hp ha
  refine z_call hi ?_ kk
  simp only [mSem, hd, hx]
  rw [if_pos ⟨rfl, Nat.ble_eq.mp hl, Nat.ble_eq.mp hr, by simp only [mBud, List.getD, List.getElem?_cons_succ, List.getElem?_cons_zero, Option.getD_some, Bool.and_eq_true]; exact ⟨decide_eq_true hc, decide_eq_true hs⟩⟩]
  rfl
theorem z_cs {ci mc ms : Nat} (pc' : Nat) (As : List Value) (hi : mAt t pc = some (len, 51, a, b, c, [ci, mc, ms])) (hp : pc + len = pc') (ha : (st.take c).reverse = As) (hd : st.drop c = r) (hl : Nat.ble c st.length = true) (hr : Nat.ble (mCat r) 8 = true) (hc : nc + mc ≤ bc) (hs : ns + ms ≤ bs) (kk : mWP d b As h (fun v h' => mZ d t bc bs Q pc' L (v.toList ++ r) h' (nc + mc) (ns + ms))) : mZ d t bc bs Q pc L st h nc ns := by
  subst hp ha hd
  refine z_call hi ?_ kk
  simp only [mSem]
  rw [if_pos ⟨Nat.ble_eq.mp hl, Nat.ble_eq.mp hr, by simp only [mBud, List.getD, List.getElem?_cons_succ, List.getElem?_cons_zero, Option.getD_some, Bool.and_eq_true]; exact ⟨decide_eq_true hc, decide_eq_true hs⟩⟩]
  rfl
theorem z_ci {x : Nat} {ci mc ms : Nat} (pc' : Nat) (As : List Value) (hi : mAt t pc = some (len, 52, a, b, c, [ci, mc, ms])) (hp : pc + len = pc') (ha : (st.take c).reverse = As) (hd : st.drop c = .ref x :: r) (hl : Nat.ble c st.length = true) (hr : Nat.ble (mCat r) 8 = true) (hc : nc + mc ≤ bc) (hs : ns + ms ≤ bs) (kk : mWP d b (.ref x :: As) h (fun v h' => mZ d t bc bs Q pc' L (v.toList ++ r) h' (nc + mc) (ns + ms))) : mZ d t bc bs Q pc L st h nc ns := by
  subst hp ha
  refine z_call hi ?_ kk
  simp only [mSem, hd]
  rw [if_pos ⟨Nat.ble_eq.mp hl, Nat.ble_eq.mp hr, by simp only [mBud, List.getD, List.getElem?_cons_succ, List.getElem?_cons_zero, Option.getD_some, Bool.and_eq_true]; exact ⟨decide_eq_true hc, decide_eq_true hs⟩⟩]
  rfl
theorem z_oi {x : Nat} (pc' : Nat) (hi : mAt t pc = some (len, 53, a, b, c, ts)) (hp : pc + len = pc') (hr : Nat.ble (mCat st) 8 = true) (k : mZ d t bc bs Q pc' L st h nc ns) : mZ d t bc bs Q pc L (.ref x :: st) h nc ns := by
  subst hp
  exact z_go hi (by simp only [mSem]; rw [if_pos (Nat.ble_eq.mp hr)]) k
theorem z_max {x y : Int32} (pc' : Nat) (v : Int32) (hi : mAt t pc = some (len, 54, a, b, c, ts)) (hp : pc + len = pc') (hr : Nat.ble (mCat st) 8 = true) (hc : nc ≤ bc) (hs : ns ≤ bs) (hv : (if x < y then y else x) = v) (k : mZ d t bc bs Q pc' L (.int v :: st) h nc ns) : mZ d t bc bs Q pc L (.int y :: .int x :: st) h nc ns := by
  subst hp hv
  exact z_go hi (by simp only [mSem]; rw [if_pos ⟨Nat.ble_eq.mp hr, hc, hs⟩]) k
theorem z_min {x y : Int32} (pc' : Nat) (v : Int32) (hi : mAt t pc = some (len, 55, a, b, c, ts)) (hp : pc + len = pc') (hr : Nat.ble (mCat st) 8 = true) (hc : nc ≤ bc) (hs : ns ≤ bs) (hv : (if y < x then y else x) = v) (k : mZ d t bc bs Q pc' L (.int v :: st) h nc ns) : mZ d t bc bs Q pc L (.int y :: .int x :: st) h nc ns := by
  subst hp hv
  exact z_go hi (by simp only [mSem]; rw [if_pos ⟨Nat.ble_eq.mp hr, hc, hs⟩]) k
theorem z_copy {x y n0 n1 j k1 k2 : Nat} {f g : Nat → Int32} {n dp sp : Int32} (pc' : Nat) (hi : mAt t pc = some (len, 56, a, b, c, ts)) (hp : pc + len = pc') (hr : Nat.ble (mCat st) 8 = true) (hx : h.2 x = .inl (0, n0, f)) (hy : h.2 y = .inl (0, n1, g)) (e1 : sp = nI k1) (e2 : dp = nI k2) (e3 : n = nI j) (b1 : k1 + j ≤ n0) (b2 : k2 + j ≤ n1) (hn0 : n0 < 2 ^ 31) (hn1 : n1 < 2 ^ 31) (k : mZ d t bc bs Q pc' L st (mSet h y (.inl (0, n1, va_cpy f g k1 k2 j))) nc ns) : mZ d t bc bs Q pc L (.int n :: .int dp :: .ref y :: .int sp :: .ref x :: st) h nc ns := by
  subst hp e1 e2 e3
  have c1 : (nI k1).toNatClampNeg = k1 := nI_clamp (by omega)
  have c2 : (nI k2).toNatClampNeg = k2 := nI_clamp (by omega)
  have c3 : (nI j).toNatClampNeg = j := nI_clamp (by omega)
  refine z_go hi ?_ k
  simp only [mSem, hx, hy, c1, c2, c3]
  rw [if_pos ⟨Nat.ble_eq.mp hr, trivial, trivial, nI_pos (by omega), nI_pos (by omega), nI_pos (by omega), b1, b2⟩]
theorem z_ret {op : Nat} {v : Option Value} (hi : mAt t pc = some (len, op, a, b, c, ts)) (hs : mSem (pc + len) a b c ts L st h nc ns bc bs op = some (.inr (.inr v))) (hq : Q v h) : mZ d t bc bs Q pc L st h nc ns := by
  refine mWk_step (mWP_mono d) ?_
  unfold mStep mNext
  simp only [hi, hs]
  exact hq
theorem z_ireti {v : Int32} (hi : mAt t pc = some (len, 70, a, 0, c, ts)) (hc : nc ≤ bc) (hs : ns ≤ bs) (hq : Q (some (.int v)) h) : mZ d t bc bs Q pc L [.int v] h nc ns := z_ret hi (by simp only [mSem]; rw [if_pos ⟨hc, hs, Or.inl trivial⟩]) hq
theorem z_iretb {v : Int32} (hi : mAt t pc = some (len, 70, a, 1, c, ts)) (hc : nc ≤ bc) (hs : ns ≤ bs) (hv : v = 0 ∨ v = 1) (hq : Q (some (.int v)) h) : mZ d t bc bs Q pc L [.int v] h nc ns := z_ret hi (by simp only [mSem]; rw [if_pos ⟨hc, hs, Or.inr hv⟩]) hq
theorem z_lret {v : Int64} (hi : mAt t pc = some (len, 71, a, b, c, ts)) (hc : nc ≤ bc) (hs : ns ≤ bs) (hq : Q (some (.long v)) h) : mZ d t bc bs Q pc L [.long v] h nc ns := z_ret hi (by simp only [mSem]; rw [if_pos ⟨hc, hs⟩]) hq
theorem z_vret (hi : mAt t pc = some (len, 72, a, b, c, ts)) (hc : nc ≤ bc) (hs : ns ≤ bs) (hq : Q none h) : mZ d t bc bs Q pc L [] h nc ns := z_ret hi (by simp only [mSem]; rw [if_pos ⟨hc, hs⟩]) hq
end ZR
theorem z_in {d k : Nat} {As : List Value} {h : mH} {Q : mP} {y : MethodName} {by' : ByteArray} {n : Nat} {rt : Option FieldType} {ow na kd mc ms : Nat} {t : mK} {rest : Nat × Nat × Nat} (L : mL) (hr : mT[k]? = some (y, by', n, rt, ow, na, kd, mc, ms, t, rest)) (h1 : Nat.beq As.length na = true) (h2 : Nat.ble (mSp As).length n = true) (hL : mEnt n As = L) (kk : mZ d t mc ms Q 0 L [] h 0 0) : mWP (d + 1) k As h Q := by
  subst hL
  unfold mWP
  rw [hr]
  exact ⟨Nat.eq_of_beq_eq_true h1, Nat.ble_eq.mp h2, kk⟩
