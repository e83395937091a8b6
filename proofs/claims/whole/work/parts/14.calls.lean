/-! calls and returns; the mini machine is sound -/
def mWs (r : mR) : List Cond := Cond.code r.1 r.2.1 r.2.2.1 r.2.2.2.1 :: mTb
def mRm (d : Nat) (r : mR) : Room := { frames := d + 1, cells := r.2.2.2.2.2.2.2.1, slots := r.2.2.2.2.2.2.2.2.1, locals := 60 * d + 100 }
theorem mTb_good {w : Cond} (h : w ∈ mTb) : (w.onTables && w.keeps) = true ∨ ∃ ty, w = .arrayClass ty := good_of_word (List.mem_filter.mp h).2
theorem mWs_good {r : mR} (h : mwR r) : GoodIn mTb (mWs r) := by
  intro w hw
  rcases List.mem_cons.mp hw with rfl | hw
  · exact ⟨h.1, mTb_good h.1⟩
  · exact ⟨hw, mTb_good hw⟩
theorem mT_len : mT.length = 263 := by rw [mT_split, List.length_append, mTa_len]; rfl
theorem mT_lt {k : Nat} {r : mR} (h : mT[k]? = some r) : k < 263 := by
  have := (List.getElem?_eq_some_iff.mp h).1
  rw [mT_len] at this
  exact this
theorem mTa_no1b : mTa.all (fun r => decide (r.2.2.2.2.2.2.1 = 0 → r.2.2.2.2.1 ≠ 1)) = true := by decide +kernel
theorem mTa_no1 {k : Nat} {r : mR} (hk : k < 262) (h : mT[k]? = some r) (h0 : r.2.2.2.2.2.2.1 = 0) : r.2.2.2.2.1 ≠ 1 := by
  rw [mT_split, List.getElem?_append_left (by rw [mTa_len]; exact hk)] at h
  have := List.all_eq_true.mp mTa_no1b r (List.mem_of_getElem? h)
  exact of_decide_eq_true this h0
theorem mNm_row {k : Nat} {r : mR} (h : mT[k]? = some r) : mNm k = r.1 := by
  unfold mNm
  rw [h]
section MCALL
variable {p : Program} {l : Launch} {e : Env} {R : Room} {s : State} {m : MethodId} {args : Array Value} {below : List Frame} {meth : Method} {c : Code} {H : Heap} {locs : List Loc} {cells slots : Nat} {Qf : State → Prop}
variable {D : va_G} {ca : Nat → ClassId} {base b Ls : Nat} {xs : Nat → Int32}
theorem mw_call {mc ms pc : Nat} {ls : Array Slot} {st0 rest : List Value} {a : Array Value} {Q : mP} (hr : va_Run p l e R s m args below meth c H locs cells slots mc ms (F0 m pc ls st0) rest (mQc D ca base b Ls xs Q a) (fun q => base ≤ q)) (hS : va_S (fun q => base ≤ q) s.heap H locs)
    (kk : ∀ (v : Option Value) (h' : mH) (H1 : Heap) (locs1 : List Loc), Q v h' → mRep D ca base b Ls xs h' H1 → va_S (fun q => base ≤ q) s.heap H1 locs1 → W p l e R s m args below meth c H1 locs1 (cells + mc) (slots + ms) Qf (F0 m (pc + 3) ls ((v.map (mv base b)).toList ++ rest))) : W p l e R s m args below meth c H locs cells slots Qf (F0 m pc ls st0) := by
  intro T hT X
  obtain ⟨v, st₀, t, T', L, h0, X', hL, e1, e2, ⟨⟨w, h', hv, hq, hrp⟩, hz, hk⟩, st⟩ := hr T hT X
  cases hv
  rw [h0] at hz hk
  obtain ⟨t2, a1, b1⟩ := kk w h' T'.heap (locs ++ L) hq (by rw [e1]; exact hrp)
    ⟨Nat.le_trans hS.1 (by rw [e1]; exact hz), fun q h1 h2 => by rw [e1, hk q (Nat.lt_of_lt_of_le h1 hS.1) h2]; exact hS.2.1 q h1 h2, fun q hq => by
      rcases List.mem_append.mp hq with h | h
      · exact hS.2.2 q h
      · exact hL q h⟩ T' rfl X'
  exact ⟨t2, st t2 a1, b1⟩
theorem mw_cb (hts : ∀ w ∈ mTb, w.before args s = true) {k d' idx : Nat} {own : String} {r : mR} (hk : k < 262) (hr : mT[k]? = some r) (hl : Cond.methodLink own idx r.1 ∈ mTb) (hRf : d' + 1 + 1 ≤ R.frames) (hRl : 60 * (d' + 1) + 100 ≤ R.locals) :
    CallB R s args own idx r.1 r.2.1 r.2.2.1 r.2.2.2.1 (mWs r) (mRm d' r) r.2.2.2.2.2.2.2.1 r.2.2.2.2.2.2.2.2.1 (if r.2.2.2.2.2.2.1 = 1 then r.2.2.2.2.2.1 else r.2.2.2.2.2.1 - 1) := by
  obtain ⟨⟨w1, w2, w3, w4⟩, ⟨s1, s2, s3, s4, s5, s6, s7, s8, s9⟩, -⟩ := mT_ok hk hr
  refine ⟨rfl, rfl, hRf, ?_, pay_in hts (mWs_good ⟨w1, w2, w3, w4⟩), List.mem_cons_self, hts _ w1, hts _ w2, ⟨s3, s4⟩, fun sig h => ?_, hts _ hl⟩
  · show 8 + (r.2.2.1 + 11) + (60 * d' + 100) ≤ R.locals
    omega
  · rw [h] at s5
    exact (Option.some.inj s5).symm
theorem mw_cn (hts : ∀ w ∈ mTb, w.before args s = true) {k d' idx y : Nat} {own : Nat} {r : mR} (hWo : mWo D ca base b s) (hk : k < 262) (hr : mT[k]? = some r) (hl : (own, idx, k, y) ∈ mx_N) (hRf : d' + 1 + 1 ≤ R.frames) (hRl : 60 * (d' + 1) + 100 ≤ R.locals) :
    va_CN R s args (mm_cn own) idx r.1 "CodeExchange" r.2.1 r.2.2.1 r.2.2.2.1 (mWs r) (mRm d' r) r.2.2.2.2.2.2.2.1 r.2.2.2.2.2.2.2.2.1 (if r.2.2.2.2.2.2.1 = 1 then r.2.2.2.2.2.1 else r.2.2.2.2.2.1 - 1) := by
  obtain ⟨⟨w1, w2, w3, w4⟩, ⟨s1, s2, s3, s4, s5, s6, s7, s8, s9⟩, -⟩ := mT_ok hk hr
  have hn := hWo.2.1 _ hl
  simp only [mNm_row hr] at hn
  refine ⟨⟨rfl, rfl, hRf, ?_, pay_in hts (mWs_good ⟨w1, w2, w3, w4⟩), List.mem_cons_self⟩, hts _ w1, hts _ w2, ⟨s3, s4⟩, fun sig h => ?_, va_Nw.use rfl hn⟩
  · show 8 + (r.2.2.1 + 11) + (60 * d' + 100) ≤ R.locals
    omega
  · rw [h] at s5
    exact (Option.some.inj s5).symm
end MCALL
theorem mw_stk (base b : Nat) (st : List Value) (k : Nat) : st.map (mv base b) = (((st.take k).reverse).map (mv base b)).reverse ++ (st.drop k).map (mv base b) := by
  rw [← List.map_reverse, List.reverse_reverse, ← List.map_append, List.take_append_drop]
theorem mw_ret (base b : Nat) (v : Option Value) (r : List Value) : (v.toList ++ r).map (mv base b) = (v.map (mv base b)).toList ++ r.map (mv base b) := by
  cases v <;> simp
set_option maxHeartbeats 4000000 in
theorem mSem_call {nx : Nat} {a : Int} {bb cc : Nat} {ts : List Nat} {L : mL} {st : List Value} {h : mH} {nc ns bc bs op : Nat} {w : Nat × List Value × Nat × mL × List Value × Nat × Nat} (hs : mSem nx a bb cc ts L st h nc ns bc bs op = some (.inr (.inl w))) : op = 50 ∨ op = 51 ∨ op = 52 := by
  unfold mSem at hs
  split at hs
  all_goals first | exact Or.inl rfl | exact Or.inr (Or.inl rfl) | exact Or.inr (Or.inr rfl) | skip
  all_goals (exfalso; repeat' (split at hs))
  all_goals (first | cases hs)
set_option maxHeartbeats 4000000 in
theorem mSem_ret {nx : Nat} {a : Int} {bb cc : Nat} {ts : List Nat} {L : mL} {st : List Value} {h : mH} {nc ns bc bs op : Nat} {v : Option Value} (hs : mSem nx a bb cc ts L st h nc ns bc bs op = some (.inr (.inr v))) : nc ≤ bc ∧ ns ≤ bs ∧ ((op = 70 ∧ ∃ x, st = [.int x] ∧ v = some (.int x) ∧ (bb = 0 ∨ x = 0 ∨ x = 1)) ∨ (op = 71 ∧ ∃ x, st = [.long x] ∧ v = some (.long x)) ∨ (op = 72 ∧ st = [] ∧ v = none)) := by
  unfold mSem at hs
  split at hs
  all_goals first
    | (exfalso; repeat' (split at hs)
       all_goals (first | cases hs)
       done)
    | skip
  · split at hs
    · split at hs
      · rename_i x hc
        cases hs
        exact ⟨hc.1, hc.2.1, Or.inl ⟨rfl, x, rfl, rfl, hc.2.2⟩⟩
      · cases hs
    · cases hs
  · split at hs
    · split at hs
      · rename_i x hc
        cases hs
        exact ⟨hc.1, hc.2, Or.inr (Or.inl ⟨rfl, x, rfl, rfl⟩)⟩
      · cases hs
    · cases hs
  · split at hs
    · split at hs
      · rename_i hc
        cases hs
        exact ⟨hc.1, hc.2, Or.inr (Or.inr ⟨rfl, rfl, rfl⟩)⟩
      · cases hs
    · cases hs
def mRtf (bz : Nat) (i : Instr) (st : List Value) (v : Option Value) : Prop := (i = .ireturn ∧ ∃ x, st = [.int x] ∧ v = some (.int x) ∧ (bz = 0 ∨ (bz = 1 ∧ (x = 0 ∨ x = 1)))) ∨ (i = .lreturn ∧ bz = 2 ∧ ∃ x, st = [.long x] ∧ v = some (.long x)) ∨ (i = .return_ ∧ bz = 3 ∧ st = [] ∧ v = none)
set_option maxHeartbeats 4000000 in
theorem mTr_ret {own pc bz : Nat} {ini : Bool} {i : Instr} {mi : mI} (ht : mTr own pc ini bz i = some mi) (ho : mi.1 = 70 ∨ mi.1 = 71 ∨ mi.1 = 72) : (i = .ireturn ∧ mi.1 = 70 ∧ ((bz = 0 ∧ mi.2.2.1 = 0) ∨ (bz = 1 ∧ mi.2.2.1 = 1))) ∨ (i = .lreturn ∧ mi.1 = 71 ∧ bz = 2) ∨ (i = .return_ ∧ mi.1 = 72 ∧ bz = 3) := by
  cases i
  case ireturn =>
    simp only [mTr] at ht
    split at ht
    · rename_i hz
      cases ht
      exact Or.inl ⟨rfl, rfl, Or.inl ⟨hz, rfl⟩⟩
    · split at ht
      · rename_i hz
        cases ht
        exact Or.inl ⟨rfl, rfl, Or.inr ⟨hz, rfl⟩⟩
      · cases ht
  case lreturn =>
    simp only [mTr] at ht
    split at ht
    · rename_i hz
      cases ht
      exact Or.inr (Or.inl ⟨rfl, rfl, hz⟩)
    · cases ht
  case return_ =>
    simp only [mTr] at ht
    split at ht
    · rename_i hz
      cases ht
      exact Or.inr (Or.inr ⟨rfl, rfl, hz⟩)
    · cases ht
  case newarray ty =>
    exfalso
    cases ty <;> simp only [mTr] at ht <;> first | (cases ht; simp at ho; done) | (cases ht; done)
  all_goals (exfalso; simp only [mTr, mCallV, mCallS, mCallI] at ht; repeat' (split at ht))
  all_goals first | (cases ht; simp at ho; done) | (obtain ⟨_, _, rfl⟩ := Option.map_eq_some_iff.mp ht; simp at ho; done) | (cases ht; done)
/-- a method's contract out of a run of the mini machine -/
def mMet (l : Launch) (D : va_G) (ca : Nat → ClassId) (base b Ls : Nat) (xs : Nat → Int32) (d k : Nat) (As : List Value) (h : mH) (Q : mP) : Prop := ∀ r : mR, mT[k]? = some r → Met l r.1 (mWs r) (mRm d r) (mPc D ca base b Ls xs As h) (mQc D ca base b Ls xs Q) r.2.2.2.2.2.2.2.1 r.2.2.2.2.2.2.2.2.1 (fun q => base ≤ q)
theorem mU_at {D : va_G} {ca : Nat → ClassId} {base b Ls : Nat} {xs : Nat → Int32} {s U : State} {H : Heap} {locs : List Loc} {h : mH} (hWo : mWo D ca base b s) (hXs : va_X b Ls xs s s.heap) (hbs : base ≤ s.heap.size) (hS : va_S (fun q => base ≤ q) s.heap H locs) (hR : mRep D ca base b Ls xs h H) (hU : U.heap = H) (hW : s.WarmedH U.vm) : mU D ca base b Ls xs h U := by
  have hb := hWo.2.2.2.2
  refine ⟨hWo.moved hW, ?_, by rw [hU]; exact hR⟩
  rw [hU]
  exact va_X.moved hW.alike (hXs.kept (hS.2.1 b (Nat.lt_of_lt_of_le hb hbs) (Nat.not_le.mpr hb)))
set_option maxHeartbeats 4000000 in
theorem mInr {D : va_G} {ca : Nat → ClassId} {base b Ls : Nat} {xs : Nat → Int32} {own : Nat} {ini : Bool} {bz : Nat} {bytes : ByteArray} {n bc bs d : Nat} {p : Program} {l : Launch} {e : Env} {R : Room} {s : State} {m : MethodId} {args : Array Value} {below : List Frame} {meth : Method} {c : Code} {Qf : State → Prop}
    (E : mEv D ca base b Ls xs own ini bytes n bc bs d p R s m args meth c) (hM : ∀ (k : Nat) (As : List Value) (h : mH) (Q : mP), k < 262 → mWP d k As h Q → ∃ d', d = d' + 1 ∧ mMet l D ca base b Ls xs d' k As h Q) {pc len : Nat} {i : Instr} {mi : mI} {L : mL} {st : List Value} {h : mH} {nc ns : Nat} {k : Nat} {As : List Value} {pc' : Nat} {L' : mL} {r : List Value} {nc' ns' : Nat}
    (hd : decode bytes pc = .ok (i, len)) (hlen : len = mLen len i) (ht : mTr own pc ini bz i = some mi) (hs : mSem (pc + len) mi.2.1 mi.2.2.1 mi.2.2.2.1 mi.2.2.2.2 L st h nc ns bc bs mi.1 = some (.inr (.inl (k, As, pc', L', r, nc', ns'))))
    (hX : mWP d k As h (fun v h' => mGo D ca base b Ls xs n p l e R s m args below meth c Qf (pc', L', v.toList ++ r, h', nc', ns'))) : mGo D ca base b Ls xs n p l e R s m args below meth c Qf (pc, L, st, h, nc, ns) := by
  obtain ⟨hx, hb, hml, hown, hts, hini, hWo, hXs, hbs, hRc, hRs, hRf, hRl⟩ := E
  have hK := hWo.1
  intro H locs ls hl hR hS
  have callV : ∀ (j kk : Nat), i = .invokevirtual j → mfM own j = some kk → mCallV kk = some mi → W p l e R s m args below meth c H locs nc ns Qf (F0 m pc ls (st.map (mv base b))) := by
    intro j kk hi hk hc
    subst hi
    obtain rfl : len = 3 := hlen
    unfold mCallV at hc
    split at hc
    · rename_i y by' n' ret' cls na kd mc ms tt hrow
      split at hc
      · rename_i hkd
        cases hc
        simp only [mSem] at hs
        split at hs
        · rename_i x r0 hdr
          split at hs
          · rename_i ci fs ex
            split at hs
            · rename_i hc
              obtain ⟨c1, c2, c3, c4⟩ := hc
              cases hs
              simp only [List.getD, List.getElem?_cons_zero, Option.getD_some] at c1
              subst c1
              have hk2 : k < 262 := by
                rcases (mfM_ok hk).2 with h9 | h9
                · exact h9
                · have := mT_lt hrow; omega
              obtain ⟨d', rfl, hmet⟩ := hM _ _ _ _ hk2 hX
              have hM2 := hmet _ hrow
              have hlk := (mfM_ok hk).1
              rw [mNm_row hrow] at hlk
              obtain ⟨⟨w1, w2, w3, w4⟩, ⟨s1, s2, s3, s4, s5, s6, s7, s8, s9⟩, -⟩ := mT_ok hk2 hrow
              obtain ⟨rfl, hna⟩ := hkd
              simp only [mBud, Bool.and_eq_true, decide_eq_true_eq] at c4
              obtain ⟨-, -, hat⟩ := hR.obj ex
              obtain ⟨q', hq', cell, g1, g2, g3, -⟩ := hat
              have hcn := mm_cm_cn hq' (mTa_no1 hk2 hrow rfl)
              refine mw_call (Q := fun v h' => mGo D ca base b Ls xs n p l e R s m args below meth c Qf (pc + 3, L, v.toList ++ r, h', nc + _, ns + _)) (va_runV (C := y.cls) (b := rho base b x) (As := ((st.take (na - 1)).reverse).map (mv base b)) (rest := r.map (mv base b)) ⟨hx, hb, hml, hown, hts⟩ hM2 ⟨mw_cb hts hk2 hrow hlk hRf hRl, hts _ w3, hts _ (w4 rfl)⟩ ⟨mPc_blind, ⟨cell, g1, by rw [g3]; rfl, ?_⟩, fun U hU hW => ⟨rfl, mU_at hWo hXs hbs hS hR hU hW⟩⟩ rfl ?_ hl.1 ?_ (lv_room (by rw [mCat_mv]; exact c3)) hd ⟨by rw [hRc]; exact c4.1, by rw [hRs]; exact c4.2⟩) hS (fun v h' H1 locs1 hq hrp hS1 => ?_)
              · rw [g2, s1, hcn]
                exact (hK.1 _ _ hq').2.1
              · rw [List.length_map, List.length_reverse, List.length_take]
                show min (na - 1) st.length = na - 1
                omega
              · show st.map (mv base b) = _
                rw [mw_stk base b st (na - 1), hdr]
                rfl
              · have h9 := hq H1 locs1 ls hl hrp hS1
                simp only [mw_ret] at h9
                exact h9
            · cases hs
          · cases hs
        · cases hs
      · cases hc
    · cases hc
  have callS : ∀ (j kk : Nat), i = .invokestatic j → ((mfM own j = some kk) ∨ (mfN own j = some kk)) → mCallS kk = some mi → W p l e R s m args below meth c H locs nc ns Qf (F0 m pc ls (st.map (mv base b))) := by
    intro j kk hi hk hc
    subst hi
    obtain rfl : len = 3 := hlen
    unfold mCallS at hc
    split at hc
    · rename_i y by' n' ret' cls na kd mc ms tt hrow
      split at hc
      · rename_i hkd
        cases hc
        simp only [mSem] at hs
        split at hs
        · rename_i hc
          obtain ⟨c2, c3, c4⟩ := hc
          cases hs
          have hk2 : k < 262 := by
            rcases hk with hk | hk
            · rcases (mfM_ok hk).2 with h9 | h9
              · exact h9
              · have := mT_lt hrow; omega
            · obtain ⟨y9, hy9⟩ := mfN_ok hk
              exact (mx_N_w _ hy9).2
          obtain ⟨d', rfl, hmet⟩ := hM _ _ _ _ hk2 hX
          have hM2 := hmet _ hrow
          obtain ⟨⟨w1, w2, w3, w4⟩, ⟨s1, s2, s3, s4, s5, s6, s7, s8, s9⟩, -⟩ := mT_ok hk2 hrow
          subst hkd
          simp only [mBud, Bool.and_eq_true, decide_eq_true_eq] at c4
          have hln : (((st.take na).reverse).map (mv base b)).length = na := by
            rw [List.length_map, List.length_reverse, List.length_take]
            omega
          have fin : ∀ (hr : va_Run p l e R s m args below meth c H locs nc ns mc ms (F0 m pc ls (st.map (mv base b))) ((st.drop na).map (mv base b)) (mQc D ca base b Ls xs (fun v h' => mGo D ca base b Ls xs n p l e R s m args below meth c Qf (pc + 3, L, v.toList ++ st.drop na, h', nc + mc, ns + ms)) (((st.take na).reverse).map (mv base b)).toArray) (fun q => base ≤ q)), W p l e R s m args below meth c H locs nc ns Qf (F0 m pc ls (st.map (mv base b))) := by
            intro hr
            refine mw_call hr hS (fun v h' H1 locs1 hq hrp hS1 => ?_)
            have h9 := hq H1 locs1 ls hl hrp hS1
            simp only [mw_ret] at h9
            exact h9
          rcases hk with hk | hk
          · have hlk := (mfM_ok hk).1
            rw [mNm_row hrow] at hlk
            exact fin (va_runS (As := ((st.take na).reverse).map (mv base b)) (rest := (st.drop na).map (mv base b)) ⟨hx, hb, hml, hown, hts⟩ hM2 ⟨mw_cb hts hk2 hrow hlk hRf hRl, hts _ w3⟩ ⟨mPc_blind, fun U hU hW => ⟨rfl, mU_at hWo hXs hbs hS hR hU hW⟩⟩ rfl hln hl.1 (mw_stk base b st na) (lv_room (by rw [mCat_mv]; exact c3)) hd ⟨by rw [hRc]; exact c4.1, by rw [hRs]; exact c4.2⟩)
          · obtain ⟨y9, hy9⟩ := mfN_ok hk
            exact fin (va_runSN (As := ((st.take na).reverse).map (mv base b)) (rest := (st.drop na).map (mv base b)) ⟨hx, hb, hml, hown, hts⟩ hM2 ⟨mw_cn hts hWo hk2 hrow hy9 hRf hRl, hts _ w3, trivial⟩ ⟨mPc_blind, fun U hU hW => ⟨rfl, mU_at hWo hXs hbs hS hR hU hW⟩⟩ rfl hln hl.1 (mw_stk base b st na) (lv_room (by rw [mCat_mv]; exact c3)) hd ⟨by rw [hRc]; exact c4.1, by rw [hRs]; exact c4.2⟩)
        · cases hs
      · cases hc
    · cases hc
  have callI : ∀ (j kk : Nat), i = .invokespecial j → ((mfM own j = some kk) ∨ (mfN own j = some kk)) → mCallI kk = some mi → W p l e R s m args below meth c H locs nc ns Qf (F0 m pc ls (st.map (mv base b))) := by
    intro j kk hi hk hc
    subst hi
    obtain rfl : len = 3 := hlen
    unfold mCallI at hc
    split at hc
    · rename_i y by' n' ret' cls na kd mc ms tt hrow
      split at hc
      · rename_i hkd
        cases hc
        simp only [mSem] at hs
        split at hs
        · rename_i x r0 hdr
          split at hs
          · rename_i hc
            obtain ⟨c2, c3, c4⟩ := hc
            cases hs
            have hk2 : k < 262 := by
              rcases hk with hk | hk
              · rcases (mfM_ok hk).2 with h9 | h9
                · exact h9
                · have := mT_lt hrow; omega
              · obtain ⟨y9, hy9⟩ := mfN_ok hk
                exact (mx_N_w _ hy9).2
            obtain ⟨d', rfl, hmet⟩ := hM _ _ _ _ hk2 hX
            have hM2 := hmet _ hrow
            obtain ⟨⟨w1, w2, w3, w4⟩, ⟨s1, s2, s3, s4, s5, s6, s7, s8, s9⟩, -⟩ := mT_ok hk2 hrow
            obtain ⟨rfl, hna⟩ := hkd
            obtain ⟨s6a, s6b⟩ := s6 rfl
            simp only [mBud, Bool.and_eq_true, decide_eq_true_eq] at c4
            have hln : (((st.take (na - 1)).reverse).map (mv base b)).length = na - 1 := by
              rw [List.length_map, List.length_reverse, List.length_take]
              omega
            have hstk : st.map (mv base b) = (((st.take (na - 1)).reverse).map (mv base b)).reverse ++ .ref (rho base b x) :: r.map (mv base b) := by
              rw [mw_stk base b st (na - 1), hdr]
              rfl
            have fin : ∀ (hr : va_Run p l e R s m args below meth c H locs nc ns mc ms (F0 m pc ls (st.map (mv base b))) (r.map (mv base b)) (mQc D ca base b Ls xs (fun v h' => mGo D ca base b Ls xs n p l e R s m args below meth c Qf (pc + 3, L, v.toList ++ r, h', nc + mc, ns + ms)) (Value.ref (rho base b x) :: ((st.take (na - 1)).reverse).map (mv base b)).toArray) (fun q => base ≤ q)), W p l e R s m args below meth c H locs nc ns Qf (F0 m pc ls (st.map (mv base b))) := by
              intro hr
              refine mw_call hr hS (fun v h' H1 locs1 hq hrp hS1 => ?_)
              have h9 := hq H1 locs1 ls hl hrp hS1
              simp only [mw_ret] at h9
              exact h9
            simp only at s6b
            subst s6b
            rcases hk with hk | hk
            · have hlk := (mfM_ok hk).1
              rw [mNm_row hrow] at hlk
              exact fin (va_runI (b := rho base b x) (As := ((st.take (na - 1)).reverse).map (mv base b)) (rest := r.map (mv base b)) ⟨hx, hb, hml, hown, hts⟩ hM2 ⟨mw_cb hts hk2 hrow hlk hRf hRl, s6a, hts _ w3⟩ ⟨mPc_blind, fun U hU hW => ⟨rfl, mU_at hWo hXs hbs hS hR hU hW⟩⟩ rfl hln hl.1 hstk (lv_room (by rw [mCat_mv]; exact c3)) hd ⟨by rw [hRc]; exact c4.1, by rw [hRs]; exact c4.2⟩)
            · obtain ⟨y9, hy9⟩ := mfN_ok hk
              exact fin (va_runIN (b := rho base b x) (As := ((st.take (na - 1)).reverse).map (mv base b)) (rest := r.map (mv base b)) ⟨hx, hb, hml, hown, hts⟩ hM2 ⟨mw_cn hts hWo hk2 hrow hy9 hRf hRl, s6a, hts _ w3⟩ ⟨mPc_blind, fun U hU hW => ⟨rfl, mU_at hWo hXs hbs hS hR hU hW⟩⟩ rfl hln hl.1 hstk (lv_room (by rw [mCat_mv]; exact c3)) hd ⟨by rw [hRc]; exact c4.1, by rw [hRs]; exact c4.2⟩)
          · cases hs
        · cases hs
      · cases hc
    · cases hc
  have h9 := mSem_call hs
  cases i
  case invokevirtual j =>
    simp only [mTr] at ht
    split at ht
    · exact callV _ _ rfl (by assumption) ht
    · cases ht
  case invokestatic j =>
    simp only [mTr] at ht
    split at ht
    · cases ht; simp at h9
    · cases ht; simp at h9
    · cases ht; simp at h9
    · exact callS _ _ rfl (Or.inl (by assumption)) ht
    · split at ht
      · exact callS _ _ rfl (Or.inr (by assumption)) ht
      · cases ht
  case invokespecial j =>
    simp only [mTr] at ht
    split at ht
    · cases ht; simp at h9
    · exact callI _ _ rfl (Or.inl (by assumption)) ht
    · split at ht
      · exact callI _ _ rfl (Or.inr (by assumption)) ht
      · cases ht
  case newarray ty =>
    exfalso
    cases ty <;> simp only [mTr] at ht <;> first | (cases ht; simp at h9; done) | (cases ht; done)
  all_goals (exfalso; clear callV callS callI; simp only [mTr] at ht; repeat' (split at ht))
  all_goals first | (cases ht; simp at h9; done) | (obtain ⟨_, _, rfl⟩ := Option.map_eq_some_iff.mp ht; simp at h9; done) | (cases ht; done)
