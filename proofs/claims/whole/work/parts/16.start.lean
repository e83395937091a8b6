-- ===== end of PART A; then your names; then what follows =====
/-! THE CLAIM OUT OF ONE WALK OF THE LAW'S BODY. Your part is whole_start (and what it stands on); all else here is the same for every law, but numbers. -/
def R_law : String := "CodeExchangeLaw"
def lw_P (b : Addr) (xs : List Int32) (args : Array Value) (s : State) : Prop := args = #[.ref b] ∧ s.IntsAt b xs ∧ xs.length ≤ 3072 ∧ (Jvm.Cond.and given_1 narrow_1).before args s = true
def lw_Q (_ : Array Value) (s : State) (o : Outcome) (t : State) : Prop := o = .returned (some (.int 1)) ∧ Framed s o t [] 600000 7302250
def lw_Z (below : List Frame) (a : Array Value) (s : State) : State → Prop := fun t => ∃ o, t.status = .running ∧ Ended t below o ∧ lw_Q a s o t
/-- the law's own end, with 1 on the stack, nothing written that was there before, its room as the claim has it -/
theorem lw_ret {p : Program} {l : Launch} {e : Env} {s : State} {m : MethodId} {below : List Frame} {meth : Method} {c : Code} {b : Nat} (hx : p.tables.exec = Jvm.exec) (hb : c.code = code) (hr : meth.sig.returnType = ret) (hlocks : meth.locks = false) {pc : Nat} {H : Heap} {ls : Array Slot} (hdg : decode code pc = .ok (.ireturn, 1)) : W p l e room_1 s m #[Value.ref b] below meth c H [] 600000 7302250 (lw_Z below #[Value.ref b] s) (F0 m pc ls [.int 1]) := by
  intro T hT X
  obtain ⟨fs, hret, hrun, hended, hW, hframe⟩ := X.leave (v := some (.int 1)) (hlocks := hlocks) (fun h => by rw [hr] at h; cases h)
  have hmeth' : T.vm.method? m = some meth := X.method'
  refine ⟨T.setFrames fs, ?_, .returned (some (.int 1)), hrun, hended, rfl, ⟨_, rfl⟩, hW, hframe⟩
  jvm_step X.here [X.here.top, hx, hb, hdg, hmeth', hr, ret, narrow_b1]
  (try refine ⟨rfl, ?_⟩); (try refine ⟨rfl, ?_⟩)
  first | (intro acts; rw [hret _ acts rfl rfl rfl]) | rw [hret _ _ rfl rfl rfl]
  exact Steps.refl _
/-- what holds at the law's entry: the machine, the code, the tables' words (any of lw_tbl by 'hts w (by decide +kernel)'), the script of L ints xs at the cell b, what the Statement gives of the start (any of its parts by flat_of_before) -/
def lw_At (p : Program) (s : State) (m : MethodId) (meth : Method) (c : Code) (b L : Nat) (xs : Nat → Int32) : Prop :=
  p.tables.exec = Jvm.exec ∧ c.code = code ∧ meth.sig.returnType = ret ∧ c.maxLocals = 4 ∧ s.vm.findClass R_law = some m.cls ∧ (∀ w ∈ lw_tbl, w.before #[Value.ref b] s = true) ∧ va_X b L xs s s.heap ∧ b < s.heap.size ∧ meth.locks = false ∧ (Jvm.Cond.and given_1 narrow_1).before #[Value.ref b] s = true
-- ===== the law's walk out of a run of the mini machine =====
def mHp0 (Ls : Nat) (xs : Nat → Int32) : mH := (1, fun k => if k = 0 then .inl (9, Ls, xs) else mJ)
/-- what is left to show: the law's code, run by the mini machine, comes to 1 -/
def mLaw : Prop := ∀ (Ls : Nat) (xs : Nat → Int32), Ls ≤ 3072 → mWk (mWP 80) tk_262 600000 7302250 (fun v _ => v = some (.int 1)) (0, [some (.ref 0), none, none, none], [], mHp0 Ls xs, 0, 0)
set_option maxHeartbeats 4000000 in
set_option maxRecDepth 100000 in
theorem whole_of (hLaw : mLaw) {p : Program} {e : Env} {s : State} {m : MethodId} {below : List Frame} {meth : Method} {c : Code} (l : Launch) {b L : Nat} {xs : Nat → Int32} (hL : L ≤ 3072) (C0 : lw_At p s m meth c b L xs) : W p l e room_1 s m #[Value.ref b] below meth c s.heap [] 0 0 (lw_Z below #[Value.ref b] s) (entryFrame m ([Value.ref b] : List Value).toArray 4) := by
  obtain ⟨hx, hb, hr, hml, hown, hts, hX, hbl, hlocks, hgv⟩ := C0
  obtain ⟨c0, iS0, hKn0⟩ := u_known (C := RX0) (T := TX0) (N := 6) (n := 6) hts (fun w hw => (List.mem_filter.mp (mm_tb (inX0 w hw) (mm_good hw))).1) (hts (.instantiable RX0 6) (ma_1 (List.mem_of_getElem? (i := 118) rfl)))
  obtain ⟨c2, iS2, hKn2⟩ := u_known (C := RX2) (T := TX2) (N := 5) (n := 5) hts (fun w hw => (List.mem_filter.mp (mm_tb (inX2 w hw) (mm_good hw))).1) (hts (.instantiable RX2 5) (ma_1 (List.mem_of_getElem? (i := 229) rfl)))
  obtain ⟨c3, iS3, hKn3⟩ := u_known (C := RX3) (T := TX3) (N := 12) (n := 12) hts (fun w hw => (List.mem_filter.mp (mm_tb (inX3 w hw) (mm_good hw))).1) (hts (.instantiable RX3 12) (ma_2 (List.mem_of_getElem? (i := 72) rfl)))
  obtain ⟨c4, iS4, hKn4⟩ := u_known (C := RX4) (T := TX4) (N := 10) (n := 10) hts (fun w hw => (List.mem_filter.mp (mm_tb (inX4 w hw) (mm_good hw))).1) (hts (.instantiable RX4 10) (ma_1 (List.mem_of_getElem? (i := 90) rfl)))
  obtain ⟨c5, iS5, hKn5⟩ := u_known (C := RX5) (T := TX5) (N := 7) (n := 7) hts (fun w hw => (List.mem_filter.mp (mm_tb (inX5 w hw) (mm_good hw))).1) (hts (.instantiable RX5 7) (ma_1 (List.mem_of_getElem? (i := 223) rfl)))
  obtain ⟨c6, iS6, hKn6⟩ := u_known (C := RX6) (T := TX6) (N := 4) (n := 4) hts (fun w hw => (List.mem_filter.mp (mm_tb (inX6 w hw) (mm_good hw))).1) (hts (.instantiable RX6 4) (ma_1 (List.mem_of_getElem? (i := 96) rfl)))
  obtain ⟨c7, iS7, hKn7⟩ := u_known (C := RX7) (T := TX7) (N := 2) (n := 2) hts (fun w hw => (List.mem_filter.mp (mm_tb (inX7 w hw) (mm_good hw))).1) (hts (.instantiable RX7 2) (ma_1 (List.mem_of_getElem? (i := 28) rfl)))
  obtain ⟨c8, iS8, hKn8⟩ := u_known (C := RX8) (T := TX8) (N := 7) (n := 7) hts (fun w hw => (List.mem_filter.mp (mm_tb (inX8 w hw) (mm_good hw))).1) (hts (.instantiable RX8 7) (ma_1 (List.mem_of_getElem? (i := 57) rfl)))
  obtain ⟨c9, iS9, hKn9⟩ := u_known (C := RX9) (T := TX9) (N := 5) (n := 5) hts (fun w hw => (List.mem_filter.mp (mm_tb (inX9 w hw) (mm_good hw))).1) (hts (.instantiable RX9 5) (ma_1 (List.mem_of_getElem? (i := 152) rfl)))
  obtain ⟨c10, iS10, hKn10⟩ := u_known (C := RX10) (T := TX10) (N := 6) (n := 6) hts (fun w hw => (List.mem_filter.mp (mm_tb (inX10 w hw) (mm_good hw))).1) (hts (.instantiable RX10 6) (ma_2 (List.mem_of_getElem? (i := 43) rfl)))
  obtain ⟨c11, iS11, hKn11⟩ := u_known (C := RX11) (T := TX11) (N := 17) (n := 17) hts (fun w hw => (List.mem_filter.mp (mm_tb (inX11 w hw) (mm_good hw))).1) (hts (.instantiable RX11 17) (ma_1 (List.mem_of_getElem? (i := 18) rfl)))
  obtain ⟨c12, iS12, hKn12⟩ := u_known (C := RX12) (T := TX12) (N := 69) (n := 69) hts (fun w hw => (List.mem_filter.mp (mm_tb (inX12 w hw) (mm_good hw))).1) (hts (.instantiable RX12 69) (ma_5 (List.mem_of_getElem? (i := 159) rfl)))
  obtain ⟨dC, dI, hKc⟩ : ∃ (dC : Nat → ClassId) (dI : Nat → Nat → Nat), ∀ (k : Nat) (q : vw_C), mm_cm[k]? = some q → u_Kn s q.1 q.2.1 q.2.2 (dC k) (dI k) := by
    refine ⟨fun k => if k = 1 then c0 else if k = 0 then c0 else if k = 2 then c2 else if k = 3 then c3 else if k = 4 then c4 else if k = 5 then c5 else if k = 6 then c6 else if k = 7 then c7 else if k = 8 then c8 else if k = 9 then c9 else if k = 10 then c10 else if k = 11 then c11 else c12, fun k => if k = 1 then iS0 else if k = 0 then iS0 else if k = 2 then iS2 else if k = 3 then iS3 else if k = 4 then iS4 else if k = 5 then iS5 else if k = 6 then iS6 else if k = 7 then iS7 else if k = 8 then iS8 else if k = 9 then iS9 else if k = 10 then iS10 else if k = 11 then iS11 else iS12, ?_⟩
    intro k q hq
    match k, hq with
    | 0, hq => cases hq; exact hKn0
    | 1, hq => cases hq; exact hKn0
    | 2, hq => cases hq; exact hKn2
    | 3, hq => cases hq; exact hKn3
    | 4, hq => cases hq; exact hKn4
    | 5, hq => cases hq; exact hKn5
    | 6, hq => cases hq; exact hKn6
    | 7, hq => cases hq; exact hKn7
    | 8, hq => cases hq; exact hKn8
    | 9, hq => cases hq; exact hKn9
    | 10, hq => cases hq; exact hKn10
    | 11, hq => cases hq; exact hKn11
    | 12, hq => cases hq; exact hKn12
    | k + 13, hq => simp [mm_cm] at hq
  have hAO4 : va_AO RX4 s := va_AO.of (hts _ (ma_1 (List.mem_of_getElem? (i := 26) rfl)))
  have hAO3 : va_AO RX3 s := va_AO.of (hts _ (ma_1 (List.mem_of_getElem? (i := 55) rfl)))
  obtain ⟨a0, k0, m0, i1, i2, i3⟩ := Cond.arrayClass_spec (hts _ (List.mem_filter.mp mw_arrI).1)
  obtain ⟨a1, k1, m1, z1, z2, z3⟩ := Cond.arrayClass_spec (hts _ (List.mem_filter.mp mw_arrZ).1)
  obtain ⟨m2, a2, k2, p1, p2, p3, p4, p5⟩ := Cond.arrayOver_spec hAO4
  obtain ⟨m3, a3, k3, q1, q2, q3, q4, q5⟩ := Cond.arrayOver_spec hAO3
  have hK : va_K (dC, dI) mm_cm (mTys (fun t => if t = 0 then a0 else if t = 1 then a1 else if t = 2 then a2 else a3)) s := by
    refine ⟨hKc, fun k q hq => ?_⟩
    match k, hq with
    | 0, hq => cases hq; exact ⟨fun n z => ⟨fun k h => (by cases h), k0, i2, m0, i3⟩, i1⟩
    | 1, hq => cases hq; exact ⟨fun n z => ⟨fun k h => (by cases h), k1, z2, m1, z3⟩, z1⟩
    | 2, hq => cases hq; exact ⟨fun n z => ⟨fun k h => (by cases h), k2, p3, m2, p4⟩, k2, m2, p3, p4, p1, p5⟩
    | 3, hq => cases hq; exact ⟨fun n z => ⟨fun k h => (by cases h), k3, q3, m3, q4⟩, k3, m3, q3, q4, q1, q5⟩
    | k + 4, hq => simp [mTys] at hq
  have hWo : mWo (dC, dI) (fun t => if t = 0 then a0 else if t = 1 then a1 else if t = 2 then a2 else a3) s.heap.size b s := ⟨hK, fun q hq => va_Nw.of rfl (hts _ (mx_N_w q hq).1), hAO4, hAO3, hbl⟩
  have E : mEv (dC, dI) (fun t => if t = 0 then a0 else if t = 1 then a1 else if t = 2 then a2 else a3) s.heap.size b L xs 13 false code 4 600000 7302250 80 p room_1 s m #[Value.ref b] meth c :=
    ⟨hx, hb, hml, hown, fun w hw => hts w (List.mem_filter.mp hw).1, fun h => (by cases h), hWo, hX, Nat.le_refl _, rfl, rfl, by decide, by decide⟩
  have hR : mRep (dC, dI) (fun t => if t = 0 then a0 else if t = 1 then a1 else if t = 2 then a2 else a3) s.heap.size b L xs (mHp0 L xs) s.heap := by
    refine ⟨Nat.le_refl 1, rfl, rfl, fun k hk => ?_, fun k h1 h2 => ?_⟩
    · simp only [mHp0] at hk ⊢
      rw [if_neg (by omega)]
    · simp only [mHp0] at h2
      omega
  have hl := mLs_entry (base := s.heap.size) (b := b) (n := 4) (As := [.ref 0]) (by decide)
  rw [lg_entry_eq]
  refine mSoundW (Q := fun v _ => v = some (.int 1)) (z := (0, [some (.ref 0), none, none, none], [], mHp0 L xs, 0, 0)) E ck_262 (mSound l _ _ _ _ _ _ 80) ?_ (hLaw L xs hL) s.heap [] _ hl hR va_S.rf
  intro pc len i v L9 st h' nc ns hd hlen hf hnc hns hq H locs ls hl hRp hS
  subst hq
  refine va_forget (fun q hq => hS.2.2 q hq) ?_
  refine W.widen (k := 600000) (n := 7302250) hnc hns ?_
  rcases hf with ⟨rfl, x, rfl, hv, -⟩ | ⟨-, h9, -⟩ | ⟨-, h9, -⟩
  · cases hv
    obtain rfl : len = 1 := hlen
    exact lw_ret hx hb hr hlocks hd
  · cases h9
  · cases h9
