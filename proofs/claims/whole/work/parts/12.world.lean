/-! the world's facts, and stores with the heap's size -/
theorem mm_good {C : String} {T : u_T} {N : Nat} {w : Cond} (h : w ∈ u_ws C T N) : goodWord w = true := by
  obtain ⟨k, -, rfl⟩ := List.mem_map.mp h
  unfold u_lay
  split <;> rfl
theorem mm_tb {w : Cond} (h : w ∈ tables_1) (hg : goodWord w = true) : w ∈ mTb := List.mem_filter.mpr ⟨List.mem_append_right _ h, hg⟩
theorem mm_cl_ok {ci : Nat} {q : vw_C} (h : mm_cl[ci]? = some q) : (∀ w ∈ u_ws q.1 q.2.1 q.2.2, w ∈ mTb) ∧ (∀ k, k < q.2.2 → parseFieldDescriptor (q.2.1 k).2.2.1 = some (mm_ty ci k)) ∧ ∀ a, a < q.2.2 → ∀ b, b < q.2.2 → a ≠ b → (q.2.1 a).2.1 ≠ (q.2.1 b).2.1 := by
  match ci, h with
  | 0, h => cases h; exact ⟨fun w hw => mm_tb (inX0 w hw) (mm_good hw), tyX0_ok, nmX0⟩
  | 1, h => cases h; exact ⟨fun w hw => mm_tb (inX1 w hw) (mm_good hw), tyX1_ok, nmX1⟩
  | 2, h => cases h; exact ⟨fun w hw => mm_tb (inX2 w hw) (mm_good hw), tyX2_ok, nmX2⟩
  | 3, h => cases h; exact ⟨fun w hw => mm_tb (inX3 w hw) (mm_good hw), tyX3_ok, nmX3⟩
  | 4, h => cases h; exact ⟨fun w hw => mm_tb (inX4 w hw) (mm_good hw), tyX4_ok, nmX4⟩
  | 5, h => cases h; exact ⟨fun w hw => mm_tb (inX5 w hw) (mm_good hw), tyX5_ok, nmX5⟩
  | 6, h => cases h; exact ⟨fun w hw => mm_tb (inX6 w hw) (mm_good hw), tyX6_ok, nmX6⟩
  | 7, h => cases h; exact ⟨fun w hw => mm_tb (inX7 w hw) (mm_good hw), tyX7_ok, nmX7⟩
  | 8, h => cases h; exact ⟨fun w hw => mm_tb (inX8 w hw) (mm_good hw), tyX8_ok, nmX8⟩
  | 9, h => cases h; exact ⟨fun w hw => mm_tb (inX9 w hw) (mm_good hw), tyX9_ok, nmX9⟩
  | 10, h => cases h; exact ⟨fun w hw => mm_tb (inX10 w hw) (mm_good hw), tyX10_ok, nmX10⟩
  | 11, h => cases h; exact ⟨fun w hw => mm_tb (inX11 w hw) (mm_good hw), tyX11_ok, nmX11⟩
  | 12, h => cases h; exact ⟨fun w hw => mm_tb (inX12 w hw) (mm_good hw), tyX12_ok, nmX12⟩
  | k + 13, h => simp [mm_cl] at h
def mTys (ca : Nat → ClassId) : List (ClassId × FieldType) := [(ca 0, .int), (ca 1, .boolean), (ca 2, .object RX4), (ca 3, .object RX3)]
def mWo (D : va_G) (ca : Nat → ClassId) (base b : Nat) (U : State) : Prop := va_K D mm_cm (mTys ca) U ∧ (∀ e ∈ mx_N, va_Nw (.methodLinkNest (mm_cn e.1) e.2.1 (mNm e.2.2.1) "CodeExchange") U) ∧ va_AO RX4 U ∧ va_AO RX3 U ∧ b < base
theorem mWo.moved {D : va_G} {ca : Nat → ClassId} {base b : Nat} {s U : State} (hW : s.WarmedH U.vm) (h : mWo D ca base b s) : mWo D ca base b U :=
  ⟨va_K.moved hW.alike h.1, fun e he => va_Nw.warmM hW (h.2.1 e he), va_AO.moved hW.alike h.2.2.1, va_AO.moved hW.alike h.2.2.2.1, h.2.2.2.2⟩
/-- the world with a mini heap -/
def mU (D : va_G) (ca : Nat → ClassId) (base b Ls : Nat) (xs : Nat → Int32) (h : mH) (U : State) : Prop := mWo D ca base b U ∧ va_X b Ls xs U U.heap ∧ mRep D ca base b Ls xs h U.heap
def mPc (D : va_G) (ca : Nat → ClassId) (base b Ls : Nat) (xs : Nat → Int32) (As : List Value) (h : mH) : Array Value → State → Prop := va_Pc (As.map (mv base b)) (mU D ca base b Ls xs h)
def mQc (D : va_G) (ca : Nat → ClassId) (base b Ls : Nat) (xs : Nat → Int32) (Q : mP) : Array Value → State → Outcome → State → Prop := fun _ st oc t => (∃ (v : Option Value) (h' : mH), oc = .returned (v.map (mv base b)) ∧ Q v h' ∧ mRep D ca base b Ls xs h' t.heap) ∧ va_F (fun q => base ≤ q) st t
theorem mPc_blind {D : va_G} {ca : Nat → ClassId} {base b Ls : Nat} {xs : Nat → Int32} {As : List Value} {h : mH} : FrameBlind (mPc D ca base b Ls xs As h) := by
  intro a U g mk hp
  obtain ⟨h1, ⟨w1, w2, w3, w4, w5⟩, h3, h4⟩ := hp
  refine ⟨h1, ⟨va_K.moved (u := U) (U := U.calling g mk a) (Vm.Alike.refl U.vm) w1, fun e he => va_Nw.same rfl rfl (w2 e he), va_AO.moved (u := U) (U := U.calling g mk a) (Vm.Alike.refl U.vm) w3, va_AO.moved (u := U) (U := U.calling g mk a) (Vm.Alike.refl U.vm) w4, w5⟩, va_X.moved (u := U) (U := U.calling g mk a) (Vm.Alike.refl U.vm) h3, h4⟩
section MPUT
variable {p : Program} {l : Launch} {e : Env} {R : Room} {s : State} {m : MethodId} {args : Array Value} {below : List Frame} {meth : Method} {c : Code} {H : Heap} {locs : List Loc} {cells slots : Nat} {Q : State → Prop}
variable {cc : ByteArray} {pc : Nat} {ls : Array Slot} {rest : List Value} {D : va_G} {ca : Nat → ClassId} {a : Nat}
theorem mw_put (hexec : p.tables.exec = Jvm.exec) (hb : c.code = cc) {own : String} {ci index : Nat} {q : vw_C} (hts : ∀ w ∈ mTb, w.before args s = true) (hown : s.vm.findClass own = some m.cls) (hK : va_K D mm_cm (mTys ca) s) {fs : List Value} (hat : va_at D mm_cm (a, .inr (ci, fs)) H) (hq : mm_cl[ci]? = some q) (hq1 : mm_cm[ci]? = some q) (k : Nat) (hk : k < q.2.2) (hlink : (Cond.fieldLink own index (q.2.1 k).1 (q.2.1 k).2.1 (q.2.1 k).2.2.1).before args s = true) (hfin : (q.2.1 k).2.2.2 = false ∨ (meth.name = "<init>" ∧ (q.2.1 k).1 = own)) {v : Value} (hn : narrow (mm_ty ci k) v = v) (hfit : fits (mm_ty ci k) v = true) (hl : k < fs.length)
    (hdg : decode cc pc = .ok (.putfield index, 3)) (kk : ∀ (H1 : Heap) (i : Nat), H1.size = H.size → (∀ q : Nat, q ≠ a → H1[q]? = H[q]?) → va_at D mm_cm (a, .inr (ci, fs.set k v)) H1 → W p l e R s m args below meth c H1 (locs ++ [⟨a, i⟩]) cells slots Q (F0 m (pc + 3) ls rest)) : W p l e R s m args below meth c H locs cells slots Q (F0 m pc ls (v :: .ref a :: rest)) := by
  obtain ⟨hin, hty, hnm⟩ := mm_cl_ok hq
  obtain ⟨C, T, N⟩ := q
  have hap := va_apart (own := own) hts hin (mm_ty ci) hty hnm hK hq1
  obtain ⟨r, h1, cell, q1, q2, q3, q4⟩ := hat
  have hr : r = (C, T, N) := Option.some.inj (h1.symm.trans hq1)
  subst hr
  obtain ⟨hS, hfc, kC, hkC, hkind⟩ := hK.1 ci _ hq1
  obtain ⟨cf, kf, fi, f, hi, hsl⟩ := hS k hk
  have hlay := hts _ (hin _ (u_in_lay hk))
  have hst := (u_facts hfc hkC (u_lays hts hin hk) hi).1
  have hd := hty k hk
  by_cases hf : (T k).2.2.2 = true
  · obtain ⟨hin2, hdecl⟩ : meth.name = "<init>" ∧ (T k).1 = own := by
      rcases hfin with h | h
      · exact absurd (hf.symm.trans h) (by decide)
      · exact h
    unfold u_lay at hlay
    rw [if_pos hf] at hlay
    have hcf : m.cls = cf := by
      obtain ⟨_, _, c', _, _, _, -, -, hf', -, -, -, hown2, -⟩ := Cond.laysFinal_spec hlay
      have e1 : c' = cf := by have := hi.symm.trans hf'; simp at this; exact this.1.symm
      rw [hdecl] at hown2
      rw [← e1]; exact Option.some.inj (hown.symm.trans hown2)
    have h6 := u_fits hfc hkC hkind (Or.inr hlay) hi hd hn hfit
    refine W.putFinK hexec hb hown hlink hi hst hcf hin2 (by rw [q2]; exact h6) q1 q3 (by rw [hsl]; exact k2_hasslot (q4 k hk)) rfl rfl hdg fun H' e1 e2 e3 => ?_
    rw [hsl] at e1 ⊢
    exact kk H' _ e2 e3 ⟨_, hq1, t_OB.to (V := updV (vp_V fs) k v) ⟨_, e1, q2, q3, t_set q4 hap hk v⟩ (fun j _ => vp_updV_set hl v j)⟩
  · unfold u_lay at hlay
    rw [if_neg hf] at hlay
    have h6 := u_store hfc hkC hkind hlay hi hd hn hfit
    refine W.putK hexec hb (f := f) ⟨hown, hlink, ⟨_, _, _, hi⟩, hst⟩ (by rw [q2]; exact h6) q1 q3 (by rw [hsl]; exact k2_hasslot (q4 k hk)) rfl rfl hdg fun H' e1 e2 e3 => ?_
    rw [hsl] at e1 ⊢
    exact kk H' _ e2 e3 ⟨_, hq1, t_OB.to (V := updV (vp_V fs) k v) ⟨_, e1, q2, q3, t_set q4 hap hk v⟩ (fun j _ => vp_updV_set hl v j)⟩
end MPUT
theorem mw_upi (cA : ClassId) (n i : Nat) (f : Nat → Int32) (x : Int32) : (vp_cell cA (n, .inl f)).setSlot i (.int x) = vp_cell cA (n, .inl (upd f i x)) := by
  rw [vp_cell_i, vp_cell_i, arrV_store]
  congr 1
  funext q
  by_cases hq : q = i
  · subst hq
    simp [updV, upd]
  · simp [updV, upd, hq]
theorem mw_upq (cA : ClassId) (n i : Nat) (f : Nat → Option Nat) (x : Nat) : (vp_cell cA (n, .inr (.inr (.inr (.inr f))))).setSlot i (.ref x) = vp_cell cA (n, .inr (.inr (.inr (.inr (va_up f i (some x)))))) := by
  rw [vp_cell_q, vp_cell_q, arrV_store]
  congr 1
  funext q
  by_cases hq : q = i
  · subst hq
    simp [updV, va_up, va_rf]
  · simp [updV, va_up, hq]
