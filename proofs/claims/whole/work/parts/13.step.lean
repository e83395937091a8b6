/-! each step of the mini machine is the machine's own -/
theorem va_P1 {D : va_G} {cl : List vw_C} {q : Nat × va_E} {H : Heap} (h : va_at D cl q H) : va_P D cl [q] H := by
  intro k x hx
  match k, hx with
  | 0, hx => cases hx; exact h
  | k + 1, hx => simp at hx
theorem mv_rf (base b : Nat) (o : Option Nat) : mv base b (va_rf o) = va_rf (o.map (rho base b)) := by cases o <;> rfl
theorem mTg_ok {pc : Nat} {off : Int} {t : Nat} (h : mTg pc off = some t) : (pc : Int) + off = (t : Int) := by
  unfold mTg at h
  split at h
  · cases h
    omega
  · cases h
theorem mTgs_ok {pc : Nat} : ∀ {os : List Int} {ts : List Nat}, mTgs pc os = some ts → ts.length = os.length ∧ ∀ (j : Nat) (off : Int), os[j]? = some off → (pc : Int) + off = ((ts.getD j 0 : Nat) : Int)
  | [], ts, h => by
    simp only [mTgs] at h
    cases h
    exact ⟨rfl, fun j off hj => by simp at hj⟩
  | o :: r, ts, h => by
    simp only [mTgs] at h
    split at h
    · rename_i t ts' h1 h2
      cases h
      obtain ⟨e1, e2⟩ := mTgs_ok h2
      refine ⟨by simp [e1], fun j off hj => ?_⟩
      match j, hj with
      | 0, hj => simp at hj; subst hj; simpa using mTg_ok h1
      | j + 1, hj => simp at hj; simpa using e2 j off hj
    · cases h
theorem mFind_ok {α : Type} {l : List (Nat × Nat × α)} {own idx : Nat} {x : α} (h : (l.find? fun e => e.1 == own && e.2.1 == idx).map (fun e => e.2.2) = some x) : (own, idx, x) ∈ l := by
  obtain ⟨e, h1, h2⟩ := Option.map_eq_some_iff.mp h
  have h3 := List.find?_some h1
  have h4 := List.mem_of_find?_eq_some h1
  simp at h3
  obtain ⟨a, b, c⟩ := e
  simp at h2 h3
  rw [← h2, ← h3.1, ← h3.2]
  exact h4
theorem mFind2 {α β : Type} {l : List (Nat × Nat × α × β)} {own idx : Nat} {x : α} (h : (l.find? fun e => e.1 == own && e.2.1 == idx).map (fun e => e.2.2.1) = some x) : ∃ y, (own, idx, x, y) ∈ l := by
  obtain ⟨e, h1, h2⟩ := Option.map_eq_some_iff.mp h
  have h3 := List.find?_some h1
  have h4 := List.mem_of_find?_eq_some h1
  simp at h3
  obtain ⟨a, b, c, d⟩ := e
  simp at h2 h3
  refine ⟨d, ?_⟩
  rw [← h2, ← h3.1, ← h3.2]
  exact h4
theorem mfF_ok {own idx : Nat} {x : Nat × Nat × Nat} (h : mfF own idx = some x) : ∃ q : vw_C, mm_cl[x.1]? = some q ∧ x.2.1 < q.2.2 ∧ (q.2.1 x.2.1).1 = mm_cn x.1 ∧ Cond.fieldLink (mm_cn own) idx (q.2.1 x.2.1).1 (q.2.1 x.2.1).2.1 (q.2.1 x.2.1).2.2.1 ∈ mTb := by
  exact mx_F_w _ (mFind_ok h)
theorem mfC_ok {own idx : Nat} {v : Int} (h : mfC own idx = some v) : Cond.constant (mm_cn own) idx (Int32.ofInt v) ∈ mTb := by
  obtain ⟨y, hy⟩ := mFind2 h
  exact mx_C_w _ hy
theorem mfL_ok {own idx : Nat} {v : Int} (h : mfL own idx = some v) : Cond.constantLong (mm_cn own) idx (Int64.ofInt v) ∈ mTb := by
  obtain ⟨y, hy⟩ := mFind2 h
  exact mx_L_w _ hy
theorem mfK_ok {own idx k : Nat} (h : mfK own idx = some k) : Cond.classLink (mm_cn own) idx (mm_cn k) ∈ mTb := by
  obtain ⟨y, hy⟩ := mFind2 h
  exact mx_K_w _ hy
theorem mfM_ok {own idx k : Nat} (h : mfM own idx = some k) : Cond.methodLink (mm_cn own) idx (mNm k) ∈ mTb ∧ (k < 262 ∨ (1000 ≤ k ∧ k < 1004)) := by
  obtain ⟨y, hy⟩ := mFind2 h
  exact mx_M_w _ hy
theorem mfN_ok {own idx k : Nat} (h : mfN own idx = some k) : ∃ y, (own, idx, k, y) ∈ mx_N := mFind2 h
def mEv (D : va_G) (ca : Nat → ClassId) (base b Ls : Nat) (xs : Nat → Int32) (own : Nat) (ini : Bool) (bytes : ByteArray) (n bc bs d : Nat) (p : Program) (R : Room) (s : State) (m : MethodId) (args : Array Value) (meth : Method) (c : Code) : Prop :=
  p.tables.exec = Jvm.exec ∧ c.code = bytes ∧ c.maxLocals = n ∧ s.vm.findClass (mm_cn own) = some m.cls ∧ (∀ w ∈ mTb, w.before args s = true) ∧ (ini = true → meth.name = "<init>") ∧ mWo D ca base b s ∧ va_X b Ls xs s s.heap ∧ base ≤ s.heap.size ∧ R.cells = bc ∧ R.slots = bs ∧ d + 1 ≤ R.frames ∧ 60 * d + 100 ≤ R.locals
def mGo (D : va_G) (ca : Nat → ClassId) (base b Ls : Nat) (xs : Nat → Int32) (n : Nat) (p : Program) (l : Launch) (e : Env) (R : Room) (s : State) (m : MethodId) (args : Array Value) (below : List Frame) (meth : Method) (c : Code) (Qf : State → Prop) (z : mS) : Prop :=
  ∀ (H : Heap) (locs : List Loc) (ls : Array Slot), mLs base b n ls z.2.1 → mRep D ca base b Ls xs z.2.2.2.1 H → va_S (fun q => base ≤ q) s.heap H locs → W p l e R s m args below meth c H locs z.2.2.2.2.1 z.2.2.2.2.2 Qf (F0 m z.1 ls (z.2.2.1.map (mv base b)))
theorem mw_arrI : Cond.arrayClass .int ∈ mTb := mb_1 (List.mem_of_getElem? (i := 53) rfl) rfl
theorem mw_arrZ : Cond.arrayClass .boolean ∈ mTb := mb_1 (List.mem_of_getElem? (i := 150) rfl) rfl
theorem mw_oi : Cond.instanceMethod Lib.objectInit ∈ mTb := mb_1 (List.mem_of_getElem? (i := 23) rfl) rfl
theorem mw_oc : Cond.code Lib.objectInit ⟨#[0xb1]⟩ 1 none ∈ mTb := mb_1 (List.mem_of_getElem? (i := 24) rfl) rfl
theorem mw_mi : Cond.initialized "java/lang/Math" ∈ mTb := mb_1 (List.mem_of_getElem? (i := 3) rfl) rfl
theorem mw_maxs : Cond.static Lib.Math.max.name ∈ mTb := mb_1 (List.mem_of_getElem? (i := 34) rfl) rfl
theorem mw_maxc : Cond.code Lib.Math.max.name Lib.Math.max.code 2 (some .int) ∈ mTb := mb_1 (List.mem_of_getElem? (i := 35) rfl) rfl
theorem mw_mins : Cond.static Lib.Math.min.name ∈ mTb := mb_3 (List.mem_of_getElem? (i := 56) rfl) rfl
theorem mw_minc : Cond.code Lib.Math.min.name Lib.Math.min.code 2 (some .int) ∈ mTb := mb_3 (List.mem_of_getElem? (i := 57) rfl) rfl
theorem mw_acn : Cond.native arraycopyName ∈ mTb := mb_3 (List.mem_of_getElem? (i := 215) rfl) rfl
theorem mw_acs : Cond.static arraycopyName ∈ mTb := mb_3 (List.mem_of_getElem? (i := 214) rfl) rfl
theorem mw_aci : Cond.initialized "java/lang/System" ∈ mTb := mb_1 (List.mem_of_getElem? (i := 16) rfl) rfl
theorem mm_cn_cl {ci : Nat} {q : vw_C} (h : mm_cl[ci]? = some q) : mm_cn ci = q.1 := by
  match ci, h with
  | 0, h => cases h; rfl
  | 1, h => cases h; rfl
  | 2, h => cases h; rfl
  | 3, h => cases h; rfl
  | 4, h => cases h; rfl
  | 5, h => cases h; rfl
  | 6, h => cases h; rfl
  | 7, h => cases h; rfl
  | 8, h => cases h; rfl
  | 9, h => cases h; rfl
  | 10, h => cases h; rfl
  | 11, h => cases h; rfl
  | 12, h => cases h; rfl
  | k + 13, h => simp [mm_cl] at h
theorem mm_initd {ci : Nat} {q : vw_C} (h : mm_cl[ci]? = some q) : Cond.initialized q.1 ∈ mTb := by
  match ci, h with
  | 0, h => cases h; exact mb_1 (List.mem_of_getElem? (i := 7) rfl) rfl
  | 1, h => cases h; exact mb_1 (List.mem_of_getElem? (i := 15) rfl) rfl
  | 2, h => cases h; exact mb_1 (List.mem_of_getElem? (i := 10) rfl) rfl
  | 3, h => cases h; exact mb_1 (List.mem_of_getElem? (i := 12) rfl) rfl
  | 4, h => cases h; exact mb_1 (List.mem_of_getElem? (i := 5) rfl) rfl
  | 5, h => cases h; exact mb_1 (List.mem_of_getElem? (i := 9) rfl) rfl
  | 6, h => cases h; exact mb_1 (List.mem_of_getElem? (i := 6) rfl) rfl
  | 7, h => cases h; exact mb_1 (List.mem_of_getElem? (i := 2) rfl) rfl
  | 8, h => cases h; exact mb_1 (List.mem_of_getElem? (i := 4) rfl) rfl
  | 9, h => cases h; exact mb_1 (List.mem_of_getElem? (i := 8) rfl) rfl
  | 10, h => cases h; exact mb_1 (List.mem_of_getElem? (i := 11) rfl) rfl
  | 11, h => cases h; exact mb_1 (List.mem_of_getElem? (i := 1) rfl) rfl
  | 12, h => cases h; exact mb_1 (List.mem_of_getElem? (i := 13) rfl) rfl
  | k + 13, h => simp [mm_cl] at h
theorem mm_ne1 {ci k : Nat} {q : vw_C} (h : mm_cl[ci]? = some q) (hk : k < q.2.2) : ci ≠ 1 := by
  rintro rfl
  cases h
  exact absurd hk (Nat.not_lt_zero k)
theorem mm_cm_cn {ci : Nat} {q : vw_C} (h : mm_cm[ci]? = some q) (h1 : ci ≠ 1) : mm_cn ci = q.1 := by
  match ci, h with
  | 0, h => cases h; rfl
  | 1, h => exact absurd rfl h1
  | k + 2, h => exact mm_cn_cl (ci := k + 2) h
theorem mm_no1 : ∀ e ∈ mx_K, e.2.2.1 ≠ 1 := by decide +kernel
theorem mm_instant {ci own j : Nat} {q : vw_C} (h : mm_cl[ci]? = some q) (hk : mfK own j = some ci) : Cond.instantiable q.1 q.2.2 ∈ mTb := by
  match ci, h with
  | 0, h => cases h; exact mb_1 (List.mem_of_getElem? (i := 118) rfl) rfl
  | 1, h => obtain ⟨y, hy⟩ := mFind2 hk; exact absurd rfl (mm_no1 _ hy)
  | 2, h => cases h; exact mb_1 (List.mem_of_getElem? (i := 229) rfl) rfl
  | 3, h => cases h; exact mb_2 (List.mem_of_getElem? (i := 72) rfl) rfl
  | 4, h => cases h; exact mb_1 (List.mem_of_getElem? (i := 90) rfl) rfl
  | 5, h => cases h; exact mb_1 (List.mem_of_getElem? (i := 223) rfl) rfl
  | 6, h => cases h; exact mb_1 (List.mem_of_getElem? (i := 96) rfl) rfl
  | 7, h => cases h; exact mb_1 (List.mem_of_getElem? (i := 28) rfl) rfl
  | 8, h => cases h; exact mb_1 (List.mem_of_getElem? (i := 57) rfl) rfl
  | 9, h => cases h; exact mb_1 (List.mem_of_getElem? (i := 152) rfl) rfl
  | 10, h => cases h; exact mb_2 (List.mem_of_getElem? (i := 43) rfl) rfl
  | 11, h => cases h; exact mb_1 (List.mem_of_getElem? (i := 18) rfl) rfl
  | 12, h => cases h; exact mb_5 (List.mem_of_getElem? (i := 159) rfl) rfl
  | k + 13, h => simp [mm_cl] at h
theorem mDf_at (base b ci : Nat) {N k : Nat} (hk : k < N) : defaultValue (mm_ty ci k) = vp_V ((mDf ci N).map (mv base b)) k := by
  unfold vp_V mDf
  rw [List.getD_eq_getElem?_getD, List.getElem?_map, List.getElem?_map, List.getElem?_range hk]
  show _ = mv base b (defaultValue (mm_ty ci k))
  cases mm_ty ci k <;> rfl
theorem mCat_mv (base b : Nat) (r : List Value) : ((r.map (mv base b)).map fun v => v.category).sum = mCat r := by
  unfold mCat
  rw [List.map_map]
  congr 1
  apply List.map_congr_left
  intro v _
  exact mv_cat base b v
theorem mCallV_not {k nx : Nat} {mi : mI} {L : mL} {st : List Value} {h : mH} {nc ns bc bs : Nat} {z : mS} (ht : mCallV k = some mi) : ¬ mSem nx mi.2.1 mi.2.2.1 mi.2.2.2.1 mi.2.2.2.2 L st h nc ns bc bs mi.1 = some (.inl z) := by
  unfold mCallV at ht
  split at ht
  · split at ht
    · cases ht
      simp only [mSem]
      intro hs
      split at hs
      · split at hs
        · split at hs <;> cases hs
        · cases hs
      · cases hs
    · cases ht
  · cases ht
theorem mCallS_not {k nx : Nat} {mi : mI} {L : mL} {st : List Value} {h : mH} {nc ns bc bs : Nat} {z : mS} (ht : mCallS k = some mi) : ¬ mSem nx mi.2.1 mi.2.2.1 mi.2.2.2.1 mi.2.2.2.2 L st h nc ns bc bs mi.1 = some (.inl z) := by
  unfold mCallS at ht
  split at ht
  · split at ht
    · cases ht
      simp only [mSem]
      intro hs
      split at hs <;> cases hs
    · cases ht
  · cases ht
theorem mCallI_not {k nx : Nat} {mi : mI} {L : mL} {st : List Value} {h : mH} {nc ns bc bs : Nat} {z : mS} (ht : mCallI k = some mi) : ¬ mSem nx mi.2.1 mi.2.2.1 mi.2.2.2.1 mi.2.2.2.2 L st h nc ns bc bs mi.1 = some (.inl z) := by
  unfold mCallI at ht
  split at ht
  · split at ht
    · cases ht
      simp only [mSem]
      intro hs
      split at hs
      · split at hs <;> cases hs
      · cases hs
    · cases ht
  · cases ht
section MCOPY
variable {p : Program} {l : Launch} {e : Env} {R : Room} {s : State} {m : MethodId} {args : Array Value} {below : List Frame} {meth : Method} {c : Code} {H : Heap} {locs : List Loc} {cells slots : Nat} {Q : State → Prop}
theorem mw_nn (z : Int32) (hz : ¬ z < 0) : z.toInt = (z.toNatClampNeg : Int) := by
  have h0 : (0 : Int) ≤ z.toInt := by
    have := Int32.not_lt.mp hz
    simpa using Int32.le_iff_toInt_le.mp this
  show z.toInt = ((z.toInt.toNat : Nat) : Int)
  omega
theorem mw_copy {cc : ByteArray} {pc : Nat} {ls : Array Slot} {rest : List Value} {D : va_G} {ca : Nat → ClassId} {a a0 : Nat} (hexec : p.tables.exec = Jvm.exec) (hb : c.code = cc) (hml : c.maxLocals = ls.size) {own : String} {index : Nat} (hown : s.vm.findClass own = some m.cls) (hlink : (Cond.methodLink own index arraycopyName).before args s = true) (hnat : (Cond.native arraycopyName).before args s = true) (hstat : (Cond.static arraycopyName).before args s = true) (hini : (Cond.initialized "java/lang/System").before args s = true)
    (hK : va_K D mm_cm (mTys ca) s) {n0 n1 : Nat} {f g : Nat → Int32} (hc0 : H[a0]? = some (vp_cell (ca 0) (n0, .inl f))) (hc1 : H[a]? = some (vp_cell (ca 0) (n1, .inl g)))
    {sp dp n : Int32} (h1 : ¬ sp < 0) (h2 : ¬ dp < 0) (h3 : ¬ n < 0) (h4 : sp.toNatClampNeg + n.toNatClampNeg ≤ n0) (h5 : dp.toNatClampNeg + n.toNatClampNeg ≤ n1)
    (hframes : 1 ≤ R.frames) (hlocals : (rest.map fun v => v.category).sum + (nativeFrameWords "java/lang/System" "arraycopy" 5 + 11) ≤ R.locals) (hdg : decode cc pc = .ok (.invokestatic index, 3))
    (kk : ∀ (H1 : Heap) (L1 : List Loc), H1.size = H.size → (∀ q : Nat, q ≠ a → H1[q]? = H[q]?) → H1[a]? = some (vp_cell (ca 0) (n1, .inl (va_cpy f g sp.toNatClampNeg dp.toNatClampNeg n.toNatClampNeg))) → (∀ q ∈ L1, q.base = a) → W p l e R s m args below meth c H1 (locs ++ L1) cells slots Q (F0 m (pc + 3) ls rest)) : W p l e R s m args below meth c H locs cells slots Q (F0 m pc ls (.int n :: .int dp :: .ref a :: .int sp :: .ref a0 :: rest)) := by
  intro T hT X
  obtain ⟨-, k0, hk0, cm0, hkk0⟩ := (hK.2 0 _ rfl).1 n0 (fun j => .int (f j))
  obtain ⟨-, k1, hk1, cm1, hkk1⟩ := (hK.2 0 _ rfl).1 n1 (fun j => .int (g j))
  obtain ⟨vm', X', step⟩ := X.arraycopy hexec hown hlink hnat hstat hini (src := a0) (dst := a) (cs := vp_cell (ca 0) (n0, .inl f)) (cd := vp_cell (ca 0) (n1, .inl g)) (srcPos := sp) (destPos := dp) (n := n) (by rw [hT]; exact hc0) (by rw [hT]; exact hc1)
    (fun _ h => by cases h) (fun _ h => by cases h) (fun h => by cases h) (fun h => by cases h) hk0 hk1 hkk0 hkk1 (by simp [refKind]) h1 h2 h3
    (by rw [mw_nn sp h1, mw_nn n h3]; show ¬ _ > ((arrV (ca 0) n0 (fun j => .int (f j))).slots.size : Int); rw [arrV_size]; omega)
    (by rw [mw_nn dp h2, mw_nn n h3]; show ¬ _ > ((arrV (ca 0) n1 (fun j => .int (g j))).slots.size : Int); rw [arrV_size]; omega)
    (fun vm₁ _ i hi => by
      have e9 : (vp_cell (ca 0) (n0, .inl f)).slots.getD (sp.toNatClampNeg + i) .null = .int (f (sp.toNatClampNeg + i)) := by
        show (arrV (ca 0) n0 (fun j => .int (f j))).slots.getD _ _ = _
        rw [Array.getD_eq_getD_getElem?, arrV_read _ _ (by omega)]
        rfl
      exact ⟨by rw [e9]; rfl, by rw [e9]; exact trivial⟩)
    (g := F0 m pc ls (.int n :: .int dp :: .ref a :: .int sp :: .ref a0 :: rest)) rfl (by rw [hml]) (rest := rest) rfl (by rw [hb]; exact hdg) hframes (by show 2 * 0 + _ + _ ≤ _; omega)
  have e1 : copied (vp_cell (ca 0) (n0, .inl f)) (vp_cell (ca 0) (n1, .inl g)) sp dp n = vp_cell (ca 0) (n1, .inl (va_cpy f g sp.toNatClampNeg dp.toNatClampNeg n.toNatClampNeg)) := va_copied (fun z => .int z) (ca 0) (ca 0) f g h4
  rw [e1] at X' step
  have hl : a < H.size := (Array.getElem?_eq_some_iff.mp hc1).1
  obtain ⟨t, a1, b1⟩ := kk (H.setIfInBounds a (vp_cell (ca 0) (n1, .inl (va_cpy f g sp.toNatClampNeg dp.toNatClampNeg n.toNatClampNeg)))) _ (by simp) (fun q hq => by simp [Array.getElem?_setIfInBounds, Ne.symm hq]) (by simp [Array.getElem?_setIfInBounds, hl]) (fun q hq => by
      obtain ⟨z, -, hz⟩ := List.mem_map.mp hq
      rw [← hz]) _ (by rw [← hT]; rfl) X'
  exact ⟨t, step t a1, b1⟩
end MCOPY
set_option maxHeartbeats 4000000 in
theorem mInl {D : va_G} {ca : Nat → ClassId} {base b Ls : Nat} {xs : Nat → Int32} {own : Nat} {ini : Bool} {bz : Nat} {bytes : ByteArray} {n bc bs d : Nat} {p : Program} {l : Launch} {e : Env} {R : Room} {s : State} {m : MethodId} {args : Array Value} {below : List Frame} {meth : Method} {c : Code} {Qf : State → Prop}
    (E : mEv D ca base b Ls xs own ini bytes n bc bs d p R s m args meth c) {pc len : Nat} {i : Instr} {mi : mI} {L : mL} {st : List Value} {h : mH} {nc ns : Nat} {z : mS}
    (hd : decode bytes pc = .ok (i, len)) (hlen : len = mLen len i) (ht : mTr own pc ini bz i = some mi) (hs : mSem (pc + len) mi.2.1 mi.2.2.1 mi.2.2.2.1 mi.2.2.2.2 L st h nc ns bc bs mi.1 = some (.inl z))
    (hX : mGo D ca base b Ls xs n p l e R s m args below meth c Qf z) : mGo D ca base b Ls xs n p l e R s m args below meth c Qf (pc, L, st, h, nc, ns) := by
  obtain ⟨hx, hb, hml, hown, hts, hini, hWo, hXs, hbs, hRc, hRs, hRf, hRl⟩ := E
  have hK := hWo.1
  intro H locs ls hl hR hS
  cases i
  case iconst n =>
    cases ht
    obtain rfl : len = 1 := hlen
    cases hs
    exact lv_iconst hx hb hd rfl (hX H locs ls hl hR hS)
  case bipush n =>
    simp only [mTr] at ht
    split at ht
    · rename_i hc
      cases ht
      obtain rfl : len = 2 := hlen
      cases hs
      exact lv_bipush hx hb hd hc (hX H locs ls hl hR hS)
    · cases ht
  case sipush n =>
    simp only [mTr] at ht
    split at ht
    · rename_i hc
      cases ht
      obtain rfl : len = 3 := hlen
      cases hs
      exact lv_sipush hx hb hd hc (hX H locs ls hl hR hS)
    · cases ht
  case ldc j =>
    obtain ⟨v, hv, rfl⟩ := Option.map_eq_some_iff.mp ht
    obtain rfl : len = 2 := hlen
    cases hs
    exact lv_ldc hx hb hown (hts _ (mfC_ok hv)) hd (hX H locs ls hl hR hS)
  case ldc_w j =>
    obtain ⟨v, hv, rfl⟩ := Option.map_eq_some_iff.mp ht
    obtain rfl : len = 3 := hlen
    cases hs
    exact lv_ldcw hx hb hown (hts _ (mfC_ok hv)) hd (hX H locs ls hl hR hS)
  case ldc2_w j =>
    obtain ⟨v, hv, rfl⟩ := Option.map_eq_some_iff.mp ht
    obtain rfl : len = 3 := hlen
    cases hs
    exact lv_ldc2 hx hb hown (hts _ (mfL_ok hv)) hd (hX H locs ls hl hR hS)
  case lconst k =>
    cases ht
    obtain rfl : len = 1 := hlen
    cases hs
    exact lv_lconst hx hb hd (by match k with | 0 => rfl | 1 => rfl) (hX H locs ls hl hR hS)
  case iload j =>
    cases ht
    obtain rfl : len = 2 := hlen
    simp only [mSem] at hs
    split at hs
    · rename_i x ex
      cases hs
      exact lv_iload hx hb hd (hl.2.2.2 _ _ ex) (hX H locs ls hl hR hS)
    · cases hs
  case iload_n j =>
    cases ht
    obtain rfl : len = 1 := hlen
    simp only [mSem] at hs
    split at hs
    · rename_i x ex
      cases hs
      exact lv_iload_n hx hb hd rfl (hl.2.2.2 _ _ ex) (hX H locs ls hl hR hS)
    · cases hs
  case lload j =>
    cases ht
    obtain rfl : len = 2 := hlen
    simp only [mSem] at hs
    split at hs
    · rename_i x ex
      cases hs
      exact lv_lload hx hb hd (hl.2.2.2 _ _ ex) (hX H locs ls hl hR hS)
    · cases hs
  case lload_n j =>
    cases ht
    obtain rfl : len = 1 := hlen
    simp only [mSem] at hs
    split at hs
    · rename_i x ex
      cases hs
      exact lv_lload_n hx hb hd rfl (hl.2.2.2 _ _ ex) (hX H locs ls hl hR hS)
    · cases hs
  case aload j =>
    cases ht
    obtain rfl : len = 2 := hlen
    simp only [mSem] at hs
    split at hs
    · rename_i x ex
      cases hs
      exact lv_aload hx hb hd (hl.2.2.2 _ _ ex) (hX H locs ls hl hR hS)
    · rename_i ex
      cases hs
      exact lv_aloadN hx hb hd (hl.2.2.2 _ _ ex) (hX H locs ls hl hR hS)
    · cases hs
  case aload_n j =>
    cases ht
    obtain rfl : len = 1 := hlen
    simp only [mSem] at hs
    split at hs
    · rename_i x ex
      cases hs
      exact lv_aload_n hx hb hd rfl (hl.2.2.2 _ _ ex) (hX H locs ls hl hR hS)
    · rename_i ex
      cases hs
      exact lv_aload_nN hx hb hd rfl (hl.2.2.2 _ _ ex) (hX H locs ls hl hR hS)
    · cases hs
  case istore j =>
    cases ht
    obtain rfl : len = 2 := hlen
    simp only [mSem] at hs
    split at hs
    · split at hs
      · rename_i hc
        cases hs
        exact lv_istore hx hb hd hl.has (by rw [← hl.2.1]; exact hc.1) rfl (fun ls' h' => hX H locs ls' (mLs_set1 hl hc.1 hc.2 h') hR hS)
      · cases hs
    · cases hs
  case istore_n j =>
    cases ht
    obtain rfl : len = 1 := hlen
    simp only [mSem] at hs
    split at hs
    · split at hs
      · rename_i hc
        cases hs
        exact lv_istore_n hx hb hd rfl hl.has (by rw [← hl.2.1]; exact hc.1) rfl (fun ls' h' => hX H locs ls' (mLs_set1 hl hc.1 hc.2 h') hR hS)
      · cases hs
    · cases hs
  case lstore j =>
    cases ht
    obtain rfl : len = 2 := hlen
    simp only [mSem] at hs
    split at hs
    · split at hs
      · rename_i hc
        cases hs
        exact lv_lstore hx hb hd hl.has (by rw [← hl.2.1]; exact hc.1) rfl (fun ls' h' => hX H locs ls' (mLs_set2 hl hc.1 hc.2 h') hR hS)
      · cases hs
    · cases hs
  case lstore_n j =>
    cases ht
    obtain rfl : len = 1 := hlen
    simp only [mSem] at hs
    split at hs
    · split at hs
      · rename_i hc
        cases hs
        exact lv_lstore_n hx hb hd rfl hl.has (by rw [← hl.2.1]; exact hc.1) rfl (fun ls' h' => hX H locs ls' (mLs_set2 hl hc.1 hc.2 h') hR hS)
      · cases hs
    · cases hs
  case astore j =>
    cases ht
    obtain rfl : len = 2 := hlen
    simp only [mSem] at hs
    split at hs
    · split at hs
      · rename_i hc
        cases hs
        exact lv_astore hx hb hd hl.has (by rw [← hl.2.1]; exact hc.1) rfl (fun ls' h' => hX H locs ls' (mLs_set1 hl hc.1 hc.2 h') hR hS)
      · cases hs
    · split at hs
      · rename_i hc
        cases hs
        exact lv_astoreN hx hb hd hl.has (by rw [← hl.2.1]; exact hc.1) rfl (fun ls' h' => hX H locs ls' (mLs_set1 hl hc.1 hc.2 h') hR hS)
      · cases hs
    · cases hs
  case astore_n j =>
    cases ht
    obtain rfl : len = 1 := hlen
    simp only [mSem] at hs
    split at hs
    · split at hs
      · rename_i hc
        cases hs
        exact lv_astore_n hx hb hd rfl hl.has (by rw [← hl.2.1]; exact hc.1) rfl (fun ls' h' => hX H locs ls' (mLs_set1 hl hc.1 hc.2 h') hR hS)
      · cases hs
    · split at hs
      · rename_i hc
        cases hs
        exact lv_astore_nN hx hb hd rfl hl.has (by rw [← hl.2.1]; exact hc.1) rfl (fun ls' h' => hX H locs ls' (mLs_set1 hl hc.1 hc.2 h') hR hS)
      · cases hs
    · cases hs
  case iinc j k =>
    cases ht
    obtain rfl : len = 3 := hlen
    simp only [mSem] at hs
    split at hs
    · rename_i x ex
      split at hs
      · rename_i hc
        cases hs
        obtain ⟨kk, hkk⟩ := List.getElem?_of_mem (mAl_mem (base := base) (b := b) ex)
        have hj : j < L.length := (List.getElem?_eq_some_iff.mp ex).1
        exact lv_iinc hx hb hd hl.has hkk rfl (by rw [← hl.2.1]; exact hj) rfl (fun ls' h' => hX H locs ls' (mLs_set1 hl hj hc h') hR hS)
      · cases hs
    · cases hs
  case iadd =>
    cases ht
    obtain rfl : len = 1 := hlen
    simp only [mSem] at hs
    split at hs
    · cases hs
      exact lv_iadd hx hb hd (hX H locs ls hl hR hS)
    · cases hs
  case isub =>
    cases ht
    obtain rfl : len = 1 := hlen
    simp only [mSem] at hs
    split at hs
    · cases hs
      exact lv_isub hx hb hd (hX H locs ls hl hR hS)
    · cases hs
  case imul =>
    cases ht
    obtain rfl : len = 1 := hlen
    simp only [mSem] at hs
    split at hs
    · cases hs
      exact lv_imul hx hb hd (hX H locs ls hl hR hS)
    · cases hs
  case iand =>
    cases ht
    obtain rfl : len = 1 := hlen
    simp only [mSem] at hs
    split at hs
    · cases hs
      exact lv_iand hx hb hd (hX H locs ls hl hR hS)
    · cases hs
  case ior =>
    cases ht
    obtain rfl : len = 1 := hlen
    simp only [mSem] at hs
    split at hs
    · cases hs
      exact lv_ior hx hb hd (hX H locs ls hl hR hS)
    · cases hs
  case ixor =>
    cases ht
    obtain rfl : len = 1 := hlen
    simp only [mSem] at hs
    split at hs
    · cases hs
      exact lv_ixor hx hb hd (hX H locs ls hl hR hS)
    · cases hs
  case ishl =>
    cases ht
    obtain rfl : len = 1 := hlen
    simp only [mSem] at hs
    split at hs
    · cases hs
      exact lv_ishl hx hb hd (hX H locs ls hl hR hS)
    · cases hs
  case ishr =>
    cases ht
    obtain rfl : len = 1 := hlen
    simp only [mSem] at hs
    split at hs
    · cases hs
      exact lv_ishr hx hb hd (hX H locs ls hl hR hS)
    · cases hs
  case ladd =>
    cases ht
    obtain rfl : len = 1 := hlen
    simp only [mSem] at hs
    split at hs
    · cases hs
      exact lv_ladd hx hb hd (hX H locs ls hl hR hS)
    · cases hs
  case lmul =>
    cases ht
    obtain rfl : len = 1 := hlen
    simp only [mSem] at hs
    split at hs
    · cases hs
      exact lv_lmul hx hb hd (hX H locs ls hl hR hS)
    · cases hs
  case land =>
    cases ht
    obtain rfl : len = 1 := hlen
    simp only [mSem] at hs
    split at hs
    · cases hs
      exact lv_land hx hb hd (hX H locs ls hl hR hS)
    · cases hs
  case lor =>
    cases ht
    obtain rfl : len = 1 := hlen
    simp only [mSem] at hs
    split at hs
    · cases hs
      exact lv_lor hx hb hd (hX H locs ls hl hR hS)
    · cases hs
  case iushr =>
    cases ht
    obtain rfl : len = 1 := hlen
    simp only [mSem] at hs
    split at hs
    · cases hs
      exact lv_iushr hx hb hd rfl (hX H locs ls hl hR hS)
    · cases hs
  case lshl =>
    cases ht
    obtain rfl : len = 1 := hlen
    simp only [mSem] at hs
    split at hs
    · cases hs
      exact lv_lshl hx hb hd rfl (hX H locs ls hl hR hS)
    · cases hs
  case lshr =>
    cases ht
    obtain rfl : len = 1 := hlen
    simp only [mSem] at hs
    split at hs
    · cases hs
      exact lv_lshr hx hb hd rfl (hX H locs ls hl hR hS)
    · cases hs
  case lushr =>
    cases ht
    obtain rfl : len = 1 := hlen
    simp only [mSem] at hs
    split at hs
    · cases hs
      exact lv_lushr hx hb hd rfl (hX H locs ls hl hR hS)
    · cases hs
  case i2l =>
    cases ht
    obtain rfl : len = 1 := hlen
    simp only [mSem] at hs
    split at hs
    · cases hs
      exact lv_i2l hx hb hd rfl (hX H locs ls hl hR hS)
    · cases hs
  case l2i =>
    cases ht
    obtain rfl : len = 1 := hlen
    simp only [mSem] at hs
    split at hs
    · cases hs
      exact lv_l2i hx hb hd rfl (hX H locs ls hl hR hS)
    · cases hs
  case idiv =>
    cases ht
    obtain rfl : len = 1 := hlen
    simp only [mSem] at hs
    split at hs
    · split at hs
      · cases hs
      · rename_i hne
        cases hs
        exact lv_idiv hx hb hd hne (hX H locs ls hl hR hS)
    · cases hs
  case irem =>
    cases ht
    obtain rfl : len = 1 := hlen
    simp only [mSem] at hs
    split at hs
    · split at hs
      · cases hs
      · rename_i hne
        cases hs
        exact lv_irem hx hb hd hne (hX H locs ls hl hR hS)
    · cases hs
  case lrem =>
    cases ht
    obtain rfl : len = 1 := hlen
    simp only [mSem] at hs
    split at hs
    · split at hs
      · cases hs
      · rename_i hne
        cases hs
        exact lv_lrem hx hb hd hne (hX H locs ls hl hR hS)
    · cases hs
  case dup =>
    cases ht
    obtain rfl : len = 1 := hlen
    simp only [mSem] at hs
    split at hs
    · cases hs
      exact lv_dup hx hb hd rfl (hX H locs ls hl hR hS)
    · cases hs
      exact lv_dup hx hb hd rfl (hX H locs ls hl hR hS)
    · cases hs
  case pop =>
    cases ht
    obtain rfl : len = 1 := hlen
    simp only [mSem] at hs
    split at hs
    · cases hs
      exact lv_pop hx hb hd rfl (hX H locs ls hl hR hS)
    · cases hs
  case dup2 =>
    cases ht
    obtain rfl : len = 1 := hlen
    simp only [mSem] at hs
    split at hs
    · cases hs
      exact lv_dup2_11 hx hb hd rfl rfl (hX H locs ls hl hR hS)
    · cases hs
  case lcmp =>
    cases ht
    obtain rfl : len = 1 := hlen
    simp only [mSem] at hs
    split at hs
    · cases hs
      exact W.lcmp hx hb hd (hX H locs ls hl hR hS)
    · cases hs
  case aconst_null =>
    cases ht
    obtain rfl : len = 1 := hlen
    cases hs
    exact lv_null hx hb hd (hX H locs ls hl hR hS)
  case goto off =>
    obtain ⟨t, h1, rfl⟩ := Option.map_eq_some_iff.mp ht
    obtain rfl : len = 3 := hlen
    cases hs
    exact lv_goto hx hb hd (mTg_ok h1) (hX H locs ls hl hR hS)
  case ifnonnull off =>
    obtain ⟨t, h1, rfl⟩ := Option.map_eq_some_iff.mp ht
    obtain rfl : len = 3 := hlen
    simp only [mSem] at hs
    split at hs
    · cases hs
      exact lv_ifnonnull hx hb hd (mTg_ok h1) (hX H locs ls hl hR hS)
    · cases hs
      exact lv_ifnonnullN hx hb hd (hX H locs ls hl hR hS)
    · cases hs
  case ifCond cd off =>
    obtain ⟨t, h1, rfl⟩ := Option.map_eq_some_iff.mp ht
    obtain rfl : len = 3 := hlen
    simp only [mSem] at hs
    split at hs
    · cases hs
      cases cd
      case eq =>
        refine lv_if_eq hx hb hd (mTg_ok h1) (fun hc => ?_) (fun hc => ?_)
        · rw [if_pos (by simp [mCnd, mCc, hc])] at hX
          exact hX H locs ls hl hR hS
        · rw [if_neg (by simpa [mCnd, mCc] using hc)] at hX
          exact hX H locs ls hl hR hS
      case ne =>
        refine lv_if_ne hx hb hd (mTg_ok h1) (fun hc => ?_) (fun hc => ?_)
        · rw [if_pos (by simp [mCnd, mCc, hc])] at hX
          exact hX H locs ls hl hR hS
        · rw [if_neg (by simpa [mCnd, mCc] using hc)] at hX
          exact hX H locs ls hl hR hS
      case lt =>
        refine lv_if_lt hx hb hd (mTg_ok h1) (fun hc => ?_) (fun hc => ?_)
        · rw [if_pos (by simp [mCnd, mCc, hc])] at hX
          exact hX H locs ls hl hR hS
        · rw [if_neg (by simpa [mCnd, mCc] using hc)] at hX
          exact hX H locs ls hl hR hS
      case ge =>
        refine lv_if_ge hx hb hd (mTg_ok h1) (fun hc => ?_) (fun hc => ?_)
        · rw [if_pos (by simp [mCnd, mCc, hc])] at hX
          exact hX H locs ls hl hR hS
        · rw [if_neg (by simpa [mCnd, mCc] using hc)] at hX
          exact hX H locs ls hl hR hS
      case gt =>
        refine lv_if_gt hx hb hd (mTg_ok h1) (fun hc => ?_) (fun hc => ?_)
        · rw [if_pos (by simp [mCnd, mCc, hc])] at hX
          exact hX H locs ls hl hR hS
        · rw [if_neg (by simpa [mCnd, mCc] using hc)] at hX
          exact hX H locs ls hl hR hS
      case le =>
        refine lv_if_le hx hb hd (mTg_ok h1) (fun hc => ?_) (fun hc => ?_)
        · rw [if_pos (by simp [mCnd, mCc, hc])] at hX
          exact hX H locs ls hl hR hS
        · rw [if_neg (by simpa [mCnd, mCc] using hc)] at hX
          exact hX H locs ls hl hR hS
    · cases hs
  case if_icmp cd off =>
    obtain ⟨t, h1, rfl⟩ := Option.map_eq_some_iff.mp ht
    obtain rfl : len = 3 := hlen
    simp only [mSem] at hs
    split at hs
    · cases hs
      cases cd
      case eq =>
        refine lv_icmp_eq hx hb hd (mTg_ok h1) (fun hc => ?_) (fun hc => ?_)
        · rw [if_pos (by simp [mCnd, mCc, hc])] at hX
          exact hX H locs ls hl hR hS
        · rw [if_neg (by simpa [mCnd, mCc] using hc)] at hX
          exact hX H locs ls hl hR hS
      case ne =>
        refine lv_icmp_ne hx hb hd (mTg_ok h1) (fun hc => ?_) (fun hc => ?_)
        · rw [if_pos (by simp [mCnd, mCc, hc])] at hX
          exact hX H locs ls hl hR hS
        · rw [if_neg (by simpa [mCnd, mCc] using hc)] at hX
          exact hX H locs ls hl hR hS
      case lt =>
        refine lv_icmp_lt hx hb hd (mTg_ok h1) (fun hc => ?_) (fun hc => ?_)
        · rw [if_pos (by simp [mCnd, mCc, hc])] at hX
          exact hX H locs ls hl hR hS
        · rw [if_neg (by simpa [mCnd, mCc] using hc)] at hX
          exact hX H locs ls hl hR hS
      case ge =>
        refine lv_icmp_ge hx hb hd (mTg_ok h1) (fun hc => ?_) (fun hc => ?_)
        · rw [if_pos (by simp [mCnd, mCc, hc])] at hX
          exact hX H locs ls hl hR hS
        · rw [if_neg (by simpa [mCnd, mCc] using hc)] at hX
          exact hX H locs ls hl hR hS
      case gt =>
        refine lv_icmp_gt hx hb hd (mTg_ok h1) (fun hc => ?_) (fun hc => ?_)
        · rw [if_pos (by simp [mCnd, mCc, hc])] at hX
          exact hX H locs ls hl hR hS
        · rw [if_neg (by simpa [mCnd, mCc] using hc)] at hX
          exact hX H locs ls hl hR hS
      case le =>
        refine lv_icmp_le hx hb hd (mTg_ok h1) (fun hc => ?_) (fun hc => ?_)
        · rw [if_pos (by simp [mCnd, mCc, hc])] at hX
          exact hX H locs ls hl hR hS
        · rw [if_neg (by simpa [mCnd, mCc] using hc)] at hX
          exact hX H locs ls hl hR hS
    · cases hs
  case tableswitch df lo hi offs =>
    simp only [mTr] at ht
    split at ht
    · rename_i t ts h1 h2
      split at ht
      · rename_i hhi
        cases ht
        simp only [mSem] at hs
        split at hs
        · rename_i x r
          cases hs
          obtain ⟨e1, e2⟩ := mTgs_ok h2
          by_cases hc : x.toInt < lo ∨ lo + (ts.length : Int) ≤ x.toInt
          · rw [if_pos hc] at hX
            exact lv_tableOut hx hb hd (by omega) (mTg_ok h1) (hX H locs ls hl hR hS)
          · rw [if_neg hc] at hX
            have hj : (x.toInt - lo).toNat < offs.toList.length := by omega
            exact lv_tableIn hx hb hd (by omega) (by omega) (by rw [← Array.getElem?_toList]; exact List.getElem?_eq_getElem hj) (e2 _ _ (List.getElem?_eq_getElem hj)) (hX H locs ls hl hR hS)
        · cases hs
      · cases ht
    · cases ht
  case getfield j =>
    obtain ⟨f, hf, rfl⟩ := Option.map_eq_some_iff.mp ht
    obtain rfl : len = 3 := hlen
    simp only [mSem] at hs
    split at hs
    · rename_i x r
      split at hs
      · rename_i ci fs ex
        split at hs
        · rename_i hci
          subst hci
          split at hs
          · rename_i v ev
            cases hs
            obtain ⟨q, hq, hk, -, hlk⟩ := mfF_ok hf
            obtain ⟨-, -, hat⟩ := hR.obj ex
            exact va_get (ws := [(rho base b x, .inr (f.1, fs.map (mv base b)))]) (cl := mm_cm) (C := q.1) (T := q.2.1) (N := q.2.2) hx hb hts (mm_cl_ok hq).1 hown hK (va_P1 hat) 0 rfl (mm_cm_of hq (mm_ne1 hq hk)) f.2.1 hk (hts _ hlk) (fun _ h9 => h9) (v := mv base b v) (by rw [List.getElem?_map, ev]; rfl) hd (hX H locs ls hl hR hS)
          · cases hs
        · cases hs
      · cases hs
    · cases hs
  case putfield j =>
    simp only [mTr] at ht
    split at ht
    · rename_i f hf
      split at ht
      · rename_i hfx
        cases ht
        obtain rfl : len = 3 := hlen
        simp only [mSem] at hs
        split at hs
        · rename_i v x r
          split at hs
          · rename_i ci fs ex
            split at hs
            · rename_i hc
              obtain ⟨hci, hlf, hfit⟩ := hc
              subst hci
              cases hs
              obtain ⟨q, hq, hk, hdc, hlk⟩ := mfF_ok hf
              obtain ⟨a1, a2, hat⟩ := hR.obj ex
              simp only [mFit, Bool.and_eq_true, decide_eq_true_eq] at hfit
              refine mw_put hx hb hts hown hK hat hq (mm_cm_of hq (mm_ne1 hq hk)) f.2.1 hk (hts _ hlk) ?_ (v := mv base b v) ?_ ?_ (by rw [List.length_map]; exact hlf) hd (fun H1 i z oq ha => ?_)
              · rcases hfx with h9 | ⟨h9, h8⟩
                · left
                  unfold mfX at h9
                  rw [hq] at h9
                  exact h9
                · exact Or.inr ⟨hini h9, by rw [hdc, ← h8]⟩
              · cases v <;> first | exact hfit.1 | (cases mm_ty f.1 f.2.1 <;> rfl)
              · cases v <;> first | exact hfit.2 | (have := hfit.2; cases hty : mm_ty f.1 f.2.1 <;> rw [hty] at this <;> first | exact this | rfl | cases this)
              · refine hX H1 _ ls hl (hR.set a1 a2 trivial z oq ?_) (hS.put z oq (rho_ge a1))
                simp only [me]
                rw [List.map_set]
                exact ha
            · cases hs
          · cases hs
        · cases hs
      · cases ht
    · cases ht
  case iaload =>
    cases ht
    obtain rfl : len = 1 := hlen
    simp only [mSem] at hs
    split at hs
    · rename_i i x r
      split at hs
      · rename_i t n' f ex
        split at hs
        · rename_i hc
          cases hs
          by_cases h9 : t = 9
          · subst h9
            obtain ⟨rfl, rfl, rfl⟩ := hR.scr ex
            exact va_sld hx hb hXs (Nat.lt_of_lt_of_le hWo.2.2.2.2 hbs) (Nat.not_le.mpr hWo.2.2.2.2) hS hc.2 hd (hX H locs ls hl hR hS)
          · obtain rfl : t = 0 := hc.1.resolve_right h9
            obtain ⟨-, -, hcl, -⟩ := hR.int ex h9
            exact va_iald (ws := [(rho base b x, .inl (ca 0, n', .inl f))]) hx hb hK (va_P1 hcl) 0 0 rfl rfl hc.2 hd (hX H locs ls hl hR hS)
        · cases hs
      · cases hs
    · cases hs
  case baload =>
    cases ht
    obtain rfl : len = 1 := hlen
    simp only [mSem] at hs
    split at hs
    · rename_i i x r
      split at hs
      · rename_i t n' f ex
        split at hs
        · rename_i hc
          cases hs
          obtain ⟨rfl, hc⟩ := hc
          obtain ⟨-, -, hcl, -⟩ := hR.int ex (by decide)
          exact va_zald (ws := [(rho base b x, .inl (ca 1, n', .inl f))]) hx hb hK (va_P1 hcl) 0 1 rfl rfl hc hd (hX H locs ls hl hR hS)
        · cases hs
      · cases hs
    · cases hs
  case aaload =>
    cases ht
    obtain rfl : len = 1 := hlen
    simp only [mSem] at hs
    split at hs
    · rename_i i x r
      split at hs
      · rename_i t n' g ex
        split at hs
        · rename_i hc
          cases hs
          obtain ⟨hc1, hc⟩ := hc
          have h9 := hX H locs ls hl hR hS
          simp only [List.map_cons, mv_rf] at h9
          rcases hc1 with rfl | rfl
          · obtain ⟨-, -, hcl⟩ := hR.rf ex (by decide)
            exact va_aldq (ws := [(rho base b x, .inl (ca 2, n', .inr (.inr (.inr (.inr fun i => (g i).map (rho base b))))))]) hx hb hK (va_P1 hcl) 0 2 rfl rfl hc hd h9
          · obtain ⟨-, -, hcl⟩ := hR.rf ex (by decide)
            exact va_aldq (ws := [(rho base b x, .inl (ca 3, n', .inr (.inr (.inr (.inr fun i => (g i).map (rho base b))))))]) hx hb hK (va_P1 hcl) 0 3 rfl rfl hc hd h9
        · cases hs
      · cases hs
    · cases hs
  case iastore =>
    cases ht
    obtain rfl : len = 1 := hlen
    simp only [mSem] at hs
    split at hs
    · rename_i v i x r
      split at hs
      · rename_i t n' f ex
        split at hs
        · rename_i hc
          cases hs
          obtain ⟨rfl, hc⟩ := hc
          obtain ⟨a1, a2, hcl, -⟩ := hR.int ex (by decide)
          refine W.iast hx hb hcl ((hK.2 0 _ rfl).1 n' (fun j => .int (f j))) (fun q => by cases q) (by show ¬ (i < 0 ∨ (arrV _ _ _).slots.size ≤ _); rw [arrV_size]; exact hc) rfl rfl hd fun H1 e1 z oq => ?_
          rw [mw_upi] at e1
          exact hX H1 _ ls hl (hR.set a1 a2 (Or.inl rfl) z oq e1) (hS.put z oq (rho_ge a1))
        · cases hs
      · cases hs
    · cases hs
  case bastore =>
    cases ht
    obtain rfl : len = 1 := hlen
    simp only [mSem] at hs
    split at hs
    · rename_i v i x r
      split at hs
      · rename_i t n' f ex
        split at hs
        · rename_i hc
          cases hs
          obtain ⟨rfl, hc, hv⟩ := hc
          obtain ⟨a1, a2, hcl, -⟩ := hR.int ex (by decide)
          refine W.zast hx hb hcl ((hK.2 1 _ rfl).1 n' (fun j => .int (f j))) (fun q => by cases q) (by show ¬ (i < 0 ∨ (arrV _ _ _).slots.size ≤ _); rw [arrV_size]; exact hc) rfl rfl hd fun H1 e1 z oq => ?_
          have hn : narrow .boolean (.int v) = .int v := by rcases hv with rfl | rfl <;> rfl
          rw [hn, mw_upi] at e1
          exact hX H1 _ ls hl (hR.set a1 a2 (Or.inr rfl) z oq e1) (hS.put z oq (rho_ge a1))
        · cases hs
      · cases hs
    · cases hs
  case aastore =>
    cases ht
    obtain rfl : len = 1 := hlen
    simp only [mSem] at hs
    split at hs
    · rename_i v i x r
      split at hs
      · rename_i t n' g ci fs ex ev
        split at hs
        · rename_i hc
          cases hs
          obtain ⟨hc1, hc⟩ := hc
          have hlt : i.toNatClampNeg < n' := Nat.not_le.mp fun q => hc (Or.inr q)
          have h0 : ¬ i < 0 := fun q => hc (Or.inl q)
          rcases hc1 with ⟨rfl, rfl⟩ | ⟨rfl, rfl⟩
          ·
            obtain ⟨a1, a2, hcl⟩ := hR.rf ex (by decide)
            obtain ⟨-, -, hat⟩ := hR.obj ev
            obtain ⟨r', hr', cellV, g1, g2, g3, -⟩ := hat
            have hcls := (hK.1 4 _ rfl).2
            obtain ⟨kA, comp, k1, k2, k3, -⟩ := (hK.2 2 _ rfl).2
            have hcomp : comp = D.1 4 := Option.some.inj (k3.symm.trans hcls.1)
            subst hcomp
            obtain ⟨kC, hkC, -⟩ := hcls.2
            refine W.aast hx hb hcl (fun q h => by cases h) (fun h => by cases h) k1 k2 rfl hkC ⟨h0, by show _ < (arrV _ _ _).slots.size; rw [arrV_size]; exact hlt⟩ g1 (fun q h => by rw [g3] at h; cases h) (by rw [g2]; exact hkC) (by rw [g2]; exact va_assign hcls) rfl rfl hd fun H1 e1 z oq => ?_
            rw [mw_upq] at e1
            refine hX H1 _ ls hl (hR.set a1 a2 (Or.inl rfl) z oq ?_) (hS.put z oq (rho_ge a1))
            have hfun : va_up (fun i => (g i).map (rho base b)) i.toNatClampNeg (some (rho base b v)) = fun j => (va_up g i.toNatClampNeg (some v) j).map (rho base b) := by
              funext q
              by_cases hq : q = i.toNatClampNeg
              · subst hq; simp [va_up]
              · simp [va_up, hq]
            show H1[_]? = some (vp_cell _ _)
            rw [e1]
            exact congrArg (fun F => some (vp_cell (ca 2) (n', .inr (.inr (.inr (.inr F)))))) hfun
          ·
            obtain ⟨a1, a2, hcl⟩ := hR.rf ex (by decide)
            obtain ⟨-, -, hat⟩ := hR.obj ev
            obtain ⟨r', hr', cellV, g1, g2, g3, -⟩ := hat
            have hcls := (hK.1 3 _ rfl).2
            obtain ⟨kA, comp, k1, k2, k3, -⟩ := (hK.2 3 _ rfl).2
            have hcomp : comp = D.1 3 := Option.some.inj (k3.symm.trans hcls.1)
            subst hcomp
            obtain ⟨kC, hkC, -⟩ := hcls.2
            refine W.aast hx hb hcl (fun q h => by cases h) (fun h => by cases h) k1 k2 rfl hkC ⟨h0, by show _ < (arrV _ _ _).slots.size; rw [arrV_size]; exact hlt⟩ g1 (fun q h => by rw [g3] at h; cases h) (by rw [g2]; exact hkC) (by rw [g2]; exact va_assign hcls) rfl rfl hd fun H1 e1 z oq => ?_
            rw [mw_upq] at e1
            refine hX H1 _ ls hl (hR.set a1 a2 (Or.inr rfl) z oq ?_) (hS.put z oq (rho_ge a1))
            have hfun : va_up (fun i => (g i).map (rho base b)) i.toNatClampNeg (some (rho base b v)) = fun j => (va_up g i.toNatClampNeg (some v) j).map (rho base b) := by
              funext q
              by_cases hq : q = i.toNatClampNeg
              · subst hq; simp [va_up]
              · simp [va_up, hq]
            show H1[_]? = some (vp_cell _ _)
            rw [e1]
            exact congrArg (fun F => some (vp_cell (ca 3) (n', .inr (.inr (.inr (.inr F)))))) hfun
        · cases hs
      · cases hs
    · cases hs
  case arraylength =>
    cases ht
    obtain rfl : len = 1 := hlen
    simp only [mSem] at hs
    split at hs
    · rename_i x r
      split at hs
      · rename_i t n' f ex
        split at hs
        · rename_i hc
          cases hs
          by_cases h9 : t = 9
          · subst h9
            obtain ⟨rfl, rfl, rfl⟩ := hR.scr ex
            exact va_slen hx hb hXs (Nat.lt_of_lt_of_le hWo.2.2.2.2 hbs) (Nat.not_le.mpr hWo.2.2.2.2) hS hd (hX H locs ls hl hR hS)
          · obtain ⟨-, -, hcl, ht9⟩ := hR.int ex h9
            rcases ht9 with rfl | rfl
            · exact va_alen (ws := [(rho base b x, .inl (ca 0, n', .inl f))]) hx hb hK (va_P1 hcl) 0 0 rfl rfl rfl hd (hX H locs ls hl hR hS)
            · exact va_alen (ws := [(rho base b x, .inl (ca 1, n', .inl f))]) hx hb hK (va_P1 hcl) 0 1 rfl rfl rfl hd (hX H locs ls hl hR hS)
        · cases hs
      · rename_i t n' g ex
        split at hs
        · rename_i hc
          cases hs
          rcases hc with rfl | rfl
          · obtain ⟨-, -, hcl⟩ := hR.rf ex (by decide)
            exact va_alen (ws := [(rho base b x, .inl (ca 2, n', .inr (.inr (.inr (.inr fun i => (g i).map (rho base b))))))]) hx hb hK (va_P1 hcl) 0 2 rfl rfl rfl hd (hX H locs ls hl hR hS)
          · obtain ⟨-, -, hcl⟩ := hR.rf ex (by decide)
            exact va_alen (ws := [(rho base b x, .inl (ca 3, n', .inr (.inr (.inr (.inr fun i => (g i).map (rho base b))))))]) hx hb hK (va_P1 hcl) 0 3 rfl rfl rfl hd (hX H locs ls hl hR hS)
        · cases hs
      · cases hs
    · cases hs
  case newarray ty =>
    obtain rfl : len = 2 := hlen
    cases ty
    case int =>
      cases ht
      simp only [mSem] at hs
      split at hs
      · rename_i k r
        split at hs
        · rename_i hc
          obtain ⟨c1, c2, c3, c4⟩ := hc
          cases hs
          refine va_newaK (atype := .int) hx hb (hts _ mw_arrI) rfl hd rfl c1 rfl (by show _ * 4 ≤ _; omega) (by rw [hRc]; exact c3) (by rw [hRs]; exact c4) rfl fun H1 cA e1 z1 o1 hAr hNm => ?_
          have hcA : cA = ca 0 := Option.some.inj (hNm.symm.trans (hK.2 0 _ rfl).2)
          subst hcA
          obtain ⟨hR1, hrh⟩ := hR.new (e := .inl (0, k.toNatClampNeg, fun _ => 0)) (Or.inl rfl) z1 o1 e1
          have h9 := hX H1 locs ls hl hR1 ⟨Nat.le_trans hS.1 (by omega), fun q h1 h2 => (o1 q (Nat.lt_of_lt_of_le h1 hS.1)).trans (hS.2.1 q h1 h2), hS.2.2⟩
          simp only [List.map_cons, mv, hrh] at h9
          exact h9
        · cases hs
      · cases hs
    case boolean =>
      cases ht
      simp only [mSem] at hs
      split at hs
      · rename_i k r
        split at hs
        · rename_i hc
          obtain ⟨c1, c2, c3, c4⟩ := hc
          cases hs
          refine va_newaK (atype := .boolean) hx hb (hts _ mw_arrZ) rfl hd rfl c1 rfl (by show _ * 1 ≤ _; omega) (by rw [hRc]; exact c3) (by rw [hRs]; exact c4) rfl fun H1 cA e1 z1 o1 hAr hNm => ?_
          have hcA : cA = ca 1 := Option.some.inj (hNm.symm.trans (hK.2 1 _ rfl).2)
          subst hcA
          obtain ⟨hR1, hrh⟩ := hR.new (e := .inl (1, k.toNatClampNeg, fun _ => 0)) (Or.inr rfl) z1 o1 e1
          have h9 := hX H1 locs ls hl hR1 ⟨Nat.le_trans hS.1 (by omega), fun q h1 h2 => (o1 q (Nat.lt_of_lt_of_le h1 hS.1)).trans (hS.2.1 q h1 h2), hS.2.2⟩
          simp only [List.map_cons, mv, hrh] at h9
          exact h9
        · cases hs
      · cases hs
    all_goals (simp [mTr] at ht)
  case anewarray j =>
    simp only [mTr] at ht
    split at ht
    · rename_i hk
      cases ht
      obtain rfl : len = 3 := hlen
      simp only [mSem] at hs
      split at hs
      · rename_i k r
        split at hs
        · rename_i hc
          obtain ⟨c1, c2, c3, c4⟩ := hc
          cases hs
          refine W.anew (C := RX4) hx hb hown (hts _ (mfK_ok hk)) (va_AO.use hWo.2.2.1) rfl hd rfl c1 (by omega) (by rw [hRc]; exact c3) (by rw [hRs]; exact c4) fun cA kA comp f1 f2 f3 f4 => ?_
          generalize hH1 : H.push ({ cls := cA, slots := Array.replicate k.toNatClampNeg .null, vm := .none } : Cell) = H1
          have z1 : H1.size = H.size + 1 := by rw [← hH1, Array.size_push]
          have e1 : H1[H.size]? = some (arrV cA k.toNatClampNeg (fun _ => .null)) := by rw [← hH1, Array.getElem?_push_size, ← arrV_new]
          have o1 : ∀ q : Nat, q < H.size → H1[q]? = H[q]? := fun q hq => by rw [← hH1, Array.getElem?_push, if_neg (Nat.ne_of_lt hq)]
          obtain ⟨_, _, -, -, -, hNm⟩ := (hK.2 2 _ rfl).2
          have hcA : cA = ca 2 := Option.some.inj (f1.symm.trans hNm)
          subst hcA
          obtain ⟨hR1, hrh⟩ := hR.new (e := .inr (.inl (2, k.toNatClampNeg, fun _ => none))) (Or.inl rfl) z1 o1 e1
          have h9 := hX H1 locs ls hl hR1 ⟨Nat.le_trans hS.1 (by omega), fun q h1 h2 => (o1 q (Nat.lt_of_lt_of_le h1 hS.1)).trans (hS.2.1 q h1 h2), hS.2.2⟩
          simp only [List.map_cons, mv, hrh] at h9
          exact h9
        · cases hs
      · cases hs
    · rename_i hk
      cases ht
      obtain rfl : len = 3 := hlen
      simp only [mSem] at hs
      split at hs
      · rename_i k r
        split at hs
        · rename_i hc
          obtain ⟨c1, c2, c3, c4⟩ := hc
          cases hs
          refine W.anew (C := RX3) hx hb hown (hts _ (mfK_ok hk)) (va_AO.use hWo.2.2.2.1) rfl hd rfl c1 (by omega) (by rw [hRc]; exact c3) (by rw [hRs]; exact c4) fun cA kA comp f1 f2 f3 f4 => ?_
          generalize hH1 : H.push ({ cls := cA, slots := Array.replicate k.toNatClampNeg .null, vm := .none } : Cell) = H1
          have z1 : H1.size = H.size + 1 := by rw [← hH1, Array.size_push]
          have e1 : H1[H.size]? = some (arrV cA k.toNatClampNeg (fun _ => .null)) := by rw [← hH1, Array.getElem?_push_size, ← arrV_new]
          have o1 : ∀ q : Nat, q < H.size → H1[q]? = H[q]? := fun q hq => by rw [← hH1, Array.getElem?_push, if_neg (Nat.ne_of_lt hq)]
          obtain ⟨_, _, -, -, -, hNm⟩ := (hK.2 3 _ rfl).2
          have hcA : cA = ca 3 := Option.some.inj (f1.symm.trans hNm)
          subst hcA
          obtain ⟨hR1, hrh⟩ := hR.new (e := .inr (.inl (3, k.toNatClampNeg, fun _ => none))) (Or.inr rfl) z1 o1 e1
          have h9 := hX H1 locs ls hl hR1 ⟨Nat.le_trans hS.1 (by omega), fun q h1 h2 => (o1 q (Nat.lt_of_lt_of_le h1 hS.1)).trans (hS.2.1 q h1 h2), hS.2.2⟩
          simp only [List.map_cons, mv, hrh] at h9
          exact h9
        · cases hs
      · cases hs
    · cases ht
  case new j =>
    simp only [mTr] at ht
    split at ht
    · rename_i ci hk
      split at ht
      · rename_i q hq
        cases ht
        obtain rfl : len = 3 := hlen
        simp only [mSem] at hs
        split at hs
        · rename_i hc
          obtain ⟨c3, c4⟩ := hc
          cases hs
          have hq1 := mm_cm_of hq (by obtain ⟨y9, hy9⟩ := mFind2 hk; exact mm_no1 _ hy9)
          have hKn := hK.1 ci _ hq1
          obtain ⟨hin, hty, hnm⟩ := mm_cl_ok hq
          have hcn : mm_cn ci = q.1 := mm_cn_cl hq
          refine W.newcK (C := q.1) (n := q.2.2) hx hb hown (by rw [← hcn]; exact hts _ (mfK_ok hk)) (hts _ (mm_instant hq hk)) (hts _ (mm_initd hq)) rfl hd (by rw [hRc]; exact c3) (by rw [hRs]; exact c4) hKn.2.1 rfl fun H1 kC hkC e1 z1 o1 => ?_
          obtain ⟨hR1, hrh⟩ := hR.new (e := .inr (.inr (ci, mDf ci q.2.2))) trivial z1 o1 ⟨q, hq1, (u_born (mm_ty ci) hts hin hKn hkC e1 hty).to (fun k hk => mDf_at base b ci hk)⟩
          have h9 := hX H1 locs ls hl hR1 ⟨Nat.le_trans hS.1 (by omega), fun q h1 h2 => (o1 q (Nat.lt_of_lt_of_le h1 hS.1)).trans (hS.2.1 q h1 h2), hS.2.2⟩
          simp only [List.map_cons, mv, hrh] at h9
          exact h9
        · cases hs
      · cases ht
    · cases ht
  case invokespecial j =>
    simp only [mTr] at ht
    split at ht
    · rename_i hk
      cases ht
      obtain rfl : len = 3 := hlen
      simp only [mSem] at hs
      split at hs
      · rename_i x r
        split at hs
        · rename_i hc
          cases hs
          exact W.objInit hx hb hown (hts _ (mfM_ok hk).1) (hts _ mw_oi) (hts _ mw_oc) rfl (by show ls.size = _; rw [hml]; exact hl.1) rfl hd (by omega) (by show 2 * 0 + ((r.map (mv base b)).map fun v => v.category).sum + 12 ≤ _; rw [mCat_mv]; omega) (hX H locs ls hl hR hS)
        · cases hs
      · cases hs
    · exact absurd hs (mCallI_not ht)
    · split at ht
      · exact absurd hs (mCallI_not ht)
      · cases ht
  case invokestatic j =>
    simp only [mTr] at ht
    split at ht
    · rename_i hk
      cases ht
      obtain rfl : len = 3 := hlen
      simp only [mSem] at hs
      split at hs
      · rename_i y x r
        split at hs
        · rename_i hc
          cases hs
          exact va_mmax hx hb (by rw [hml]; exact hl.1.symm) hown (hts _ (mfM_ok hk).1) (hts _ mw_maxs) (hts _ mw_mi) (hts _ mw_maxc) (by omega) (by rw [mCat_mv]; omega) (by rw [hRc]; exact hc.2.1) (by rw [hRs]; exact hc.2.2) hd (hX H locs ls hl hR hS)
        · cases hs
      · cases hs
    · rename_i hk
      cases ht
      obtain rfl : len = 3 := hlen
      simp only [mSem] at hs
      split at hs
      · rename_i y x r
        split at hs
        · rename_i hc
          cases hs
          exact va_mmin hx hb (by rw [hml]; exact hl.1.symm) hown (hts _ (mfM_ok hk).1) (hts _ mw_mins) (hts _ mw_mi) (hts _ mw_minc) (by omega) (by rw [mCat_mv]; omega) (by rw [hRc]; exact hc.2.1) (by rw [hRs]; exact hc.2.2) hd (hX H locs ls hl hR hS)
        · cases hs
      · cases hs
    · rename_i hk
      cases ht
      obtain rfl : len = 3 := hlen
      simp only [mSem] at hs
      split at hs
      · rename_i k dp y sp x r
        split at hs
        · rename_i t n0 f t' n1 g ex ey
          split at hs
          · rename_i hc
            obtain ⟨c0, rfl, rfl, c1, c2, c3, c4, c5⟩ := hc
            cases hs
            obtain ⟨-, -, hcx, -⟩ := hR.int ex (by decide)
            obtain ⟨a1, a2, hcy, -⟩ := hR.int ey (by decide)
            refine mw_copy hx hb (by rw [hml]; exact hl.1.symm) hown (hts _ (mfM_ok hk).1) (hts _ mw_acn) (hts _ mw_acs) (hts _ mw_aci) hK hcx hcy c1 c2 c3 c4 c5 (by omega) (by rw [mCat_mv]; have : nativeFrameWords "java/lang/System" "arraycopy" 5 ≤ 60 := (by decide +kernel); omega) hd fun H1 L1 z oq ha hL1 => ?_
            exact hX H1 _ ls hl (hR.set a1 a2 (Or.inl rfl) z oq ha) ⟨by rw [z]; exact hS.1, fun q g1 g2 => by rw [oq q (fun e9 => g2 (by rw [e9]; exact rho_ge a1))]; exact hS.2.1 q g1 g2, fun q hq => by
              rcases List.mem_append.mp hq with h9 | h9
              · exact hS.2.2 q h9
              · rw [hL1 q h9]; exact rho_ge a1⟩
          · cases hs
        · cases hs
      · cases hs
    · exact absurd hs (mCallS_not ht)
    · split at ht
      · exact absurd hs (mCallS_not ht)
      · cases ht
  case invokevirtual j =>
    simp only [mTr] at ht
    split at ht
    · exact absurd hs (mCallV_not ht)
    · cases ht
  case ireturn =>
    simp only [mTr] at ht
    split at ht
    · cases ht
      simp only [mSem] at hs
      split at hs
      · split at hs <;> cases hs
      · cases hs
    · split at ht
      · cases ht
        simp only [mSem] at hs
        split at hs
        · split at hs <;> cases hs
        · cases hs
      · cases ht
  case lreturn =>
    simp only [mTr] at ht
    split at ht
    · cases ht
      simp only [mSem] at hs
      split at hs
      · split at hs <;> cases hs
      · cases hs
    · cases ht
  case return_ =>
    simp only [mTr] at ht
    split at ht
    · cases ht
      simp only [mSem] at hs
      split at hs
      · split at hs <;> cases hs
      · cases hs
    · cases ht
  all_goals (simp [mTr] at ht)
