/-! the mini machine is sound -/
theorem mAt_mem : ∀ {t : mK} {pc : Nat} {x : Nat × mI}, mAt t pc = some x → (pc, x) ∈ t
  | [], _, _, h => by simp [mAt] at h
  | e :: t, pc, x, h => by
    simp only [mAt] at h
    split at h
    · rename_i hb
      cases h
      have := Nat.eq_of_beq_eq_true hb
      subst this
      exact List.mem_cons_self
    · exact List.mem_cons_of_mem _ (mAt_mem h)
theorem mChI_ok {own : Nat} {ini : Bool} {bz : Nat} {bytes : ByteArray} {t : mK} (h : t.all (mChI own ini bz bytes) = true) {pc len : Nat} {mi : mI} (hm : mAt t pc = some (len, mi)) : ∃ i, decode bytes pc = .ok (i, len) ∧ len = mLen len i ∧ mTr own pc ini bz i = some mi := by
  have h1 := List.all_eq_true.mp h _ (mAt_mem hm)
  unfold mChI at h1
  split at h1
  · rename_i i n hd
    simp only [Bool.and_eq_true, beq_iff_eq, decide_eq_true_eq] at h1
    obtain ⟨⟨rfl, h3⟩, h4⟩ := h1
    exact ⟨i, hd, h3, h4⟩
  · cases h1
theorem mSoundW {D : va_G} {ca : Nat → ClassId} {base b Ls : Nat} {xs : Nat → Int32} {own : Nat} {ini : Bool} {bz : Nat} {bytes : ByteArray} {n bc bs d : Nat} {p : Program} {l : Launch} {e : Env} {R : Room} {s : State} {m : MethodId} {args : Array Value} {below : List Frame} {meth : Method} {c : Code} {Qf : State → Prop} {t : mK} {Q : mP}
    (E : mEv D ca base b Ls xs own ini bytes n bc bs d p R s m args meth c) (hC : t.all (mChI own ini bz bytes) = true) (hM : ∀ (k : Nat) (As : List Value) (h : mH) (Q : mP), k < 262 → mWP d k As h Q → ∃ d', d = d' + 1 ∧ mMet l D ca base b Ls xs d' k As h Q)
    (hret : ∀ (pc len : Nat) (i : Instr) (v : Option Value) (L : mL) (st : List Value) (h : mH) (nc ns : Nat), decode bytes pc = .ok (i, len) → len = mLen len i → mRtf bz i st v → nc ≤ bc → ns ≤ bs → Q v h → mGo D ca base b Ls xs n p l e R s m args below meth c Qf (pc, L, st, h, nc, ns))
    {z : mS} (hw : mWk (mWP d) t bc bs Q z) : mGo D ca base b Ls xs n p l e R s m args below meth c Qf z := by
  refine hw _ (fun z hz => ?_)
  obtain ⟨pc, L, st, h, nc, ns⟩ := z
  unfold mStep at hz
  split at hz
  · exact hz.elim
  · rename_i z' hn
    unfold mNext at hn
    split at hn
    · cases hn
    · rename_i len op a bb cc ts hat
      obtain ⟨i, hd, hlen, htr⟩ := mChI_ok hC hat
      exact mInl E hd hlen htr hn hz
  · rename_i k As pc' L' r nc' ns' hn
    unfold mNext at hn
    split at hn
    · cases hn
    · rename_i len op a bb cc ts hat
      obtain ⟨i, hd, hlen, htr⟩ := mChI_ok hC hat
      exact mInr E hM hd hlen htr hn hz
  · rename_i v hn
    unfold mNext at hn
    split at hn
    · cases hn
    · rename_i len op a bb cc ts hat
      obtain ⟨i, hd, hlen, htr⟩ := mChI_ok hC hat
      obtain ⟨h1, h2, h3⟩ := mSem_ret hn
      refine hret pc len i v L st h nc ns hd hlen ?_ h1 h2 hz
      rcases h3 with ⟨ho, x, hst, hv, hx⟩ | ⟨ho, x, hst, hv⟩ | ⟨ho, hst, hv⟩
      · rcases mTr_ret htr (Or.inl ho) with ⟨g1, g2, g3⟩ | ⟨g1, g2, g3⟩ | ⟨g1, g2, g3⟩
        · refine Or.inl ⟨g1, x, hst, hv, ?_⟩
          rcases g3 with ⟨g3, g4⟩ | ⟨g3, g4⟩
          · exact Or.inl g3
          · refine Or.inr ⟨g3, ?_⟩
            rcases hx with hx | hx
            · simp only at g4
              omega
            · exact hx
        · simp only at g2; omega
        · simp only at g2; omega
      · rcases mTr_ret htr (Or.inr (Or.inl ho)) with ⟨g1, g2, g3⟩ | ⟨g1, g2, g3⟩ | ⟨g1, g2, g3⟩
        · simp only at g2; omega
        · exact Or.inr (Or.inl ⟨g1, g3, x, hst, hv⟩)
        · simp only at g2; omega
      · rcases mTr_ret htr (Or.inr (Or.inr ho)) with ⟨g1, g2, g3⟩ | ⟨g1, g2, g3⟩ | ⟨g1, g2, g3⟩
        · simp only at g2; omega
        · simp only at g2; omega
        · exact Or.inr (Or.inr ⟨g1, g3, hst, hv⟩)
theorem mBz_int {o : Option FieldType} (h : mBz o = 0) : o = some .int := by
  match o, h with
  | some .int, _ => rfl
theorem mBz_bool {o : Option FieldType} (h : mBz o = 1) : o = some .boolean := by
  match o, h with
  | some .boolean, _ => rfl
theorem mBz_long {o : Option FieldType} (h : mBz o = 2) : o = some .long := by
  match o, h with
  | some .long, _ => rfl
theorem mBz_none {o : Option FieldType} (h : mBz o = 3) : o = none := by
  cases o with
  | none => rfl
  | some t => cases t <;> simp [mBz] at h
set_option maxHeartbeats 4000000 in
/-- THE MINI MACHINE IS SOUND -/
theorem mSound (l : Launch) (D : va_G) (ca : Nat → ClassId) (base b Ls : Nat) (xs : Nat → Int32) : ∀ (d k : Nat) (As : List Value) (h : mH) (Q : mP), k < 262 → mWP d k As h Q → ∃ d', d = d' + 1 ∧ mMet l D ca base b Ls xs d' k As h Q := by
  intro d
  induction d with
  | zero => intro k As h Q _ hw; exact hw.elim
  | succ d ih =>
    intro k As h Q hk hw
    refine ⟨d, rfl, fun r hr => ?_⟩
    obtain ⟨⟨w1, w2, w3, w4⟩, ⟨s1, s2, s3, s4, s5, s6, s7, s8, s9⟩, hC⟩ := mT_ok hk hr
    obtain ⟨y, bytes, n, ret, own, na, kd, mc, ms, t, pp⟩ := r
    unfold mWP at hw
    rw [hr] at hw
    obtain ⟨h1, h2, h3⟩ := hw
    refine Met.ofW (cc := bytes) (maxL := n) (ret := ret) s2 rfl ?_
    intro p e s m args below meth c s₁ B hml hv
    obtain ⟨rfl, hU⟩ := hv
    obtain ⟨hWo, hXs, hR⟩ := hU
    have hts := atoms_spec (ws := mWs (y, bytes, n, ret, own, na, kd, mc, ms, t, pp)) B.pre
    have hown : s.vm.findClass y.cls = some m.cls := findClass_of_methodNamed B.named
    have hlocks := B.notSynchronized
    have hr9 := B.returns
    have hnm := (name_of_methodNamed B.named B.method).1
    have E : mEv D ca base b Ls xs own (decide (kd = 2)) bytes n mc ms d p (headSpec (mWs (y, bytes, n, ret, own, na, kd, mc, ms, t, pp)) (mRm d (y, bytes, n, ret, own, na, kd, mc, ms, t, pp))).room s m ((As.map (mv base b)).toArray) meth c :=
      ⟨B.exec, B.bytes, hml, by rw [← s1]; exact hown, fun w hw => hts w (List.mem_cons_of_mem _ hw), fun hi => by rw [hnm]; exact (s6 (of_decide_eq_true hi)).1, hWo, hXs, by have := hR.1; have := hR.2.1; omega, rfl, rfl, Nat.le_refl _, Nat.le_refl _⟩
    rw [lg_entry_eq]
    refine mSoundW (Q := Q) (z := (0, mEnt n As, [], h, 0, 0)) E hC ih ?_ h3 s.heap [] _ (mLs_entry h2) hR va_S.rf
    intro pc len i v L st h' nc ns hd hlen hf hnc hns hq H locs ls hl hRp hS
    have fin : ∀ w, v.map (mv base b) = w → ∀ t : State, t.heap = H → s.WarmedH t.vm → mQc D ca base b Ls xs Q ((As.map (mv base b)).toArray) s (.returned w) t := fun w hw t ht hW => ⟨⟨v, h', by rw [hw], hq, by rw [ht]; exact hRp⟩, hS.F ht⟩
    refine W.widen (k := mc) (n := ms) hnc hns ?_
    rcases hf with ⟨rfl, x, rfl, rfl, hx⟩ | ⟨rfl, hz, x, rfl, rfl⟩ | ⟨rfl, hz, rfl, rfl⟩
    · obtain rfl : len = 1 := hlen
      rcases hx with hx | ⟨hx, hx2⟩
      · have hrt := mBz_int hx
        exact W.iret (v := x) B.exec B.bytes (hr9.trans hrt) (fin _ rfl) hS.2.2 hd
      · have hrt := mBz_bool hx
        exact W.zret (v := x) (ty := .boolean) B.exec B.bytes (hr9.trans hrt) (by rcases hx2 with rfl | rfl <;> rfl) (fin _ rfl) hS.2.2 hd
    · obtain rfl : len = 1 := hlen
      have hrt := mBz_long hz
      exact W.lret (v := x) B.exec B.bytes (hr9.trans hrt) (fin _ rfl) hS.2.2 hd
    · obtain rfl : len = 1 := hlen
      have hrt := mBz_none hz
      exact W.vret B.exec B.bytes (hr9.trans hrt) (fin _ rfl) hS.2.2 hd
