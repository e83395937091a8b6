/-! the class: findItem, find -/
theorem w_setNone {d : Nat} {h : mH} {fo : Nat} {w l p g s : Int32} {H : List Sh} {Q : mP} (h3 : h.2 fo = oFound w l p g s) (hs : s = 0 ∨ s = 1) (q : ∀ h', Fd9 h' fo (0, 0, 0) H → Fr fo (fo + 1) h h' → Q none h') : mWP (d + 1) 18 [.ref fo] h Q := c_Found_setNone h3 (q _ (Fd9.n hs) (Fr.of_set1 (by omega)))
theorem w_setShift {d : Nat} {h : mH} {fo k : Nat} {w l p g s : Int32} {H : List Sh} {Q : mP} (h3 : h.2 fo = oFound w l p g s) (q : ∀ h', Fd9 h' fo (3, k, 0) H → Fr fo (fo + 1) h h' → Q none h') : mWP (d + 1) 21 [.ref fo, .int (nI (shG H k)), .int (bI (shK H k))] h Q := c_Found_setShift h3 (by cases shK H k <;> simp [bI]) (q _ Fd9.s (Fr.of_set1 (by omega)))
def TbP (h : mH) (p : Nat) (c : Bool) (m rc : Nat) (E : List En) (H : List Sh) (hd nx : Nat → Int32) : Prop := h.2 p = oPg 0 c p m rc ∧ EnA h (p + 6) 100 E ∧ ShA h (p + 12) 10 H ∧ h.2 (p + 17) = aI 1024 hd ∧ h.2 (p + 18) = aI 110 nx
theorem TbP.e {h h' : mH} {p : Nat} {c : Bool} {m rc : Nat} {E : List En} {H : List Sh} {hd nx : Nat → Int32} (a : TbP h p c m rc E H hd nx) (f : Eqv p (p + 20) h h') : TbP h' p c m rc E H hd nx := ⟨(f p (by omega) (by omega)).trans a.1, a.2.1.e (fun x h1 h2 => f x (by omega) (by omega)), a.2.2.1.e (fun x h1 h2 => f x (by omega) (by omega)), (f _ (by omega) (by omega)).trans a.2.2.2.1, (f _ (by omega) (by omega)).trans a.2.2.2.2⟩
def itI : List Nat → Int32
  | [] => -1
  | i :: _ => nI i
theorem itI_c {nx : Nat → Int32} {l : List Nat} {c : Int32} (h : Chn nx l c) : c - nI 1 = itI l := by
  cases l with
  | nil => rw [show c = nI 0 from h]; decide
  | cons i l => rw [h.1]; exact pk_sub (by omega)
set_option maxRecDepth 100000 in
theorem c_findItem {d : Nat} {h0 : mH} {p m rc v n9 a fo st : Nat} {c free : Bool} {w l pp g s : Int32} {bs : List Nat} {f hd nx : Nat → Int32} {E : List En} {H : List Sh} {Q : mP} (hP : TbP h0 p c m rc E H hd nx) (hCh : ChOk E H hd nx) (hN : NoC E H) (hW : TbW E H) (hst4 : st < 4) (hv : h0.2 v = aI n9 f) (hn : n9 < 2 ^ 31) (hst : a + bs.length ≤ n9) (hl1 : 1 ≤ bs.length) (hf : ∀ j, j < bs.length → f (a + j) = nI (bs.getD j 0)) (hb : ∀ j, bs.getD j 0 < 256) (hfo : h0.2 fo = oFound w l pp g s) (hs : s = 0 ∨ s = 1) (hfp : fo < p ∨ p + 20 ≤ fo) (hfv : fo ≠ v)  (q : ∀ h', Fd9 h' fo (lkT E H st free bs) H → Fr fo (fo + 1) h0 h' → Q none h') : mWP (d + 3) 56 [.ref p, .int (nI st), .int (bI free), .ref v, .int (nI a), .int (nI (a + bs.length)), .ref fo] h0 Q := by
  obtain ⟨l0, hC0, hl0, hm0⟩ := hCh st (bs.getD 0 0) hst4 (hb 0)
  have hb0 := hb 0
  have hsc0 : lkT E H st free bs = scn E H free bs l0 0 := (scn_ok hN hW hb hl1 hm0).symm
  have hE1 := hP.2.1.1
  have hm1 : ∀ j, j ∈ l0 → j < E.length ∨ (100 ≤ j ∧ j - 100 < H.length) := fun j hj => by
    rcases (hm0 j).mp hj with h9 | h9
    · exact Or.inl h9.1
    · exact Or.inr ⟨h9.1, h9.2.1⟩
  have loop : ∀ l x i9 h c0 x7 o10, x ≤ 1 → i9 + l.length ≤ 110 → Chn nx l c0 → (∀ j, j ∈ l → j < E.length ∨ (100 ≤ j ∧ j - 100 < H.length)) → TbP h p c m rc E H hd nx → h.2 v = aI n9 f → Fd9 h fo (x, 0, 0) H → Fr fo (fo + 1) h0 h → scn E H free bs l0 0 = scn E H free bs l x → mZ (d + 2) tk_56 0 0 Q 50 [some (.ref p), some (.int (nI st)), some (.int (bI free)), some (.ref v), some (.int (nI a)), some (.int (nI (a + bs.length))), some (.ref fo), some (.int x7), some (.int (itI l)), some (.int (nI i9)), o10] [] h 0 0 := by
    intro l
    induction l with
    | nil =>
      intro x i9 h c0 x7 o10 hx hl hC hm hP hv hd1 hFr hsc
      refine z_iload 52 rfl rfl rfl ?_
      refine z_jlt 55 rfl rfl (fun _ => ?_) (fun h9 => absurd h9 (by decide))
      refine z_vret rfl (Nat.le_refl _) (Nat.le_refl _) ?_
      rw [hsc0, hsc, scn] at q
      exact q h hd1 hFr
    | cons i l ih =>
      intro x i9 h c0 x7 o10 hx hl hC hm hP hv hd1 hFr hsc
      obtain ⟨lf, pf, gf, sf, hfo, hsf, _, _⟩ := id hd1
      have hi110 : i < 110 := hC.2.1
      have hCt : Chn nx l (nx i) := hC.2.2
      rw [List.length_cons] at hl
      have hmi := hm i (List.mem_cons_self ..)
      have hmt : ∀ j, j ∈ l → j < E.length ∨ (100 ≤ j ∧ j - 100 < H.length) := fun j hj => hm j (List.mem_cons_of_mem _ hj)
      obtain ⟨hH0, sS, vS, gS9, kS, hS, hSF⟩ := hP.2.2.1
      have hE1 := hP.2.1.1
      have hfa : fo < p ∨ p + 20 ≤ fo := hfp
      show mZ (d + 2) tk_56 0 0 Q 50 [some (.ref p), some (.int (nI st)), some (.int (bI free)), some (.ref v), some (.int (nI a)), some (.int (nI (a + bs.length))), some (.ref fo), some (.int x7), some (.int (nI i)), some (.int (nI i9)), o10] [] h 0 0
      refine z_iload 52 rfl rfl rfl ?_
      refine z_zlt 55 rfl rfl (by omega) (fun h9 => absurd h9 (by omega)) (fun _ => ?_)
      refine z_iload 57 rfl rfl rfl ?_
      refine z_aload 58 rfl rfl rfl ?_
      refine z_get 61 rfl rfl (by first | exact hP.1 | exact hP.2.2.2.1 | exact hP.2.2.2.2 | exact hv | exact hfo | exact hS.1 | exact hS.2.2.2.1 | exact hS.2.2.2.2 | exact hfo2 | exact hP2.1 | exact hP2.2.2.2.2) rfl ?_
      refine z_alen 62 rfl rfl (by first | exact hP.1 | exact hP.2.2.2.1 | exact hP.2.2.2.2 | exact hv | exact hfo | exact hS.1 | exact hS.2.2.2.1 | exact hS.2.2.2.2 | exact hfo2 | exact hP2.1 | exact hP2.2.2.2.2) (by decide) ?_
      refine z_nge 65 rfl rfl (by omega) (by omega) (fun h9 => absurd h9 (by omega)) (fun _ => ?_)
      refine z_iload 67 rfl rfl rfl ?_
      refine z_push 69 (nI 100) rfl rfl rfl ?_
      refine z_nge 72 rfl rfl (by omega) (by omega) (fun hc69 => ?_) (fun hc69 => ?_)
      · refine z_iload 89 rfl rfl rfl ?_
        first | refine z_beq 92 rfl rfl (fun hc89 => ?_) (fun hc89 => ?_)
        · refine z_aload 126 rfl rfl rfl ?_
          refine z_get 129 rfl rfl (by first | exact hP.1 | exact hP.2.2.2.1 | exact hP.2.2.2.2 | exact hv | exact hfo | exact hS.1 | exact hS.2.2.2.1 | exact hS.2.2.2.2 | exact hfo2 | exact hP2.1 | exact hP2.2.2.2.2) rfl ?_
          refine z_push 130 (nI 2) rfl rfl rfl ?_
          refine z_nlt 133 rfl rfl (by omega) (by omega) (fun _ => ?_) (fun h9 => absurd h9 (by omega))
          refine z_aload 135 rfl rfl rfl ?_
          refine z_get 138 rfl rfl (by first | exact hP.1 | exact hP.2.2.2.1 | exact hP.2.2.2.2 | exact hv | exact hfo | exact hS.1 | exact hS.2.2.2.1 | exact hS.2.2.2.2 | exact hfo2 | exact hP2.1 | exact hP2.2.2.2.2) rfl ?_
          refine z_iload 140 rfl rfl rfl ?_
          refine z_ald 141 rfl rfl (by first | exact hP.1 | exact hP.2.2.2.1 | exact hP.2.2.2.2 | exact hv | exact hfo | exact hS.1 | exact hS.2.2.2.1 | exact hS.2.2.2.2 | exact hfo2 | exact hP2.1 | exact hP2.2.2.2.2) rfl (by omega) (by omega) ?_
          refine z_push 142 (nI 1) rfl rfl rfl ?_
          refine z_bop 143 _ rfl rfl (itI_c hCt) ?_
          refine z_istore 145 rfl rfl rfl rfl ?_
          refine z_iinc 148 _ rfl rfl rfl rfl (by first | with_reducible exact zi_1 _ | rfl) ?_
          refine z_goto rfl ?_
          exact ih x (i9 + 1) h _ _ _ hx (by omega) hCt hmt hP hv hd1 hFr (by rw [hsc, scn, if_neg (by omega), if_neg (by rw [hc89]; decide)])
        · obtain ⟨u1, u2, u3, u4⟩ := hSF (i - 100) (by omega)
          refine z_iload 94 rfl rfl rfl ?_
          refine z_push 96 (nI 100) rfl rfl rfl ?_
          refine z_bop 97 _ rfl rfl (by first | with_reducible exact zb_1 (by omega) | exact zd_1 _ _) ?_
          refine z_istore 99 rfl rfl rfl rfl ?_
          refine z_aload 101 rfl rfl rfl ?_
          refine z_aload 102 rfl rfl rfl ?_
          refine z_get 105 rfl rfl (by first | exact hP.1 | exact hP.2.2.2.1 | exact hP.2.2.2.2 | exact hv | exact hfo | exact hS.1 | exact hS.2.2.2.1 | exact hS.2.2.2.2 | exact hfo2 | exact hP2.1 | exact hP2.2.2.2.2) rfl ?_
          refine z_get 108 rfl rfl (by first | exact hP.1 | exact hP.2.2.2.1 | exact hP.2.2.2.2 | exact hv | exact hfo | exact hS.1 | exact hS.2.2.2.1 | exact hS.2.2.2.2 | exact hfo2 | exact hP2.1 | exact hP2.2.2.2.2) rfl ?_
          refine z_iload 110 rfl rfl rfl ?_
          refine z_ald 111 rfl rfl (by first | exact hP.1 | exact hP.2.2.2.1 | exact hP.2.2.2.2 | exact hv | exact hfo | exact hS.1 | exact hS.2.2.2.1 | exact hS.2.2.2.2 | exact hfo2 | exact hP2.1 | exact hP2.2.2.2.2) rfl (by omega) (by omega) ?_
          simp only [u3]
          refine z_aload 112 rfl rfl rfl ?_
          refine z_get 115 rfl rfl (by first | exact hP.1 | exact hP.2.2.2.1 | exact hP.2.2.2.2 | exact hv | exact hfo | exact hS.1 | exact hS.2.2.2.1 | exact hS.2.2.2.2 | exact hfo2 | exact hP2.1 | exact hP2.2.2.2.2) rfl ?_
          refine z_get 118 rfl rfl (by first | exact hP.1 | exact hP.2.2.2.1 | exact hP.2.2.2.2 | exact hv | exact hfo | exact hS.1 | exact hS.2.2.2.1 | exact hS.2.2.2.2 | exact hfo2 | exact hP2.1 | exact hP2.2.2.2.2) rfl ?_
          refine z_iload 120 rfl rfl rfl ?_
          refine z_bld 121 rfl rfl (by first | exact hP.1 | exact hP.2.2.2.1 | exact hP.2.2.2.2 | exact hv | exact hfo | exact hS.1 | exact hS.2.2.2.1 | exact hS.2.2.2.2 | exact hfo2 | exact hP2.1 | exact hP2.2.2.2.2) rfl (by omega) (by omega) ?_
          simp only [u4]
          refine z_cv2 124 rfl rfl (by first | exact hP.1 | exact hP.2.2.2.1 | exact hP.2.2.2.2 | exact hv | exact hfo | exact hS.1 | exact hS.2.2.2.1 | exact hS.2.2.2.2 | exact hfo2 | exact hP2.1 | exact hP2.2.2.2.2) rfl (Nat.le_refl _) (Nat.le_refl _) ?_
          refine w_setShift (k := i - 100) hfo (fun h2 hd2 hF => ?_)
          · have hP2 := hP.e (hF.eqv (by omega))
            have hv2 : h2.2 v = aI n9 f := (hF.2 v (by omega)).trans hv
            have hFr2 : Fr fo (fo + 1) h0 h2 := ⟨hF.1.trans hFr.1, fun x hx => (hF.2 x hx).trans (hFr.2 x hx)⟩
            obtain ⟨l2, p2, g2, s2, hfo2, hs2, hw2, hw3⟩ := id hd2
            refine z_aload 126 rfl rfl rfl ?_
            refine z_get 129 rfl rfl (by first | exact hP.1 | exact hP.2.2.2.1 | exact hP.2.2.2.2 | exact hv | exact hfo | exact hS.1 | exact hS.2.2.2.1 | exact hS.2.2.2.2 | exact hfo2 | exact hP2.1 | exact hP2.2.2.2.2) rfl ?_
            refine z_push 130 (nI 2) rfl rfl rfl ?_
            refine z_nlt 133 rfl rfl (by omega) (by omega) (fun h9 => absurd h9 (by omega)) (fun _ => ?_)
            refine z_vret rfl (Nat.le_refl _) (Nat.le_refl _) ?_
            rw [hsc0, hsc, scn, if_neg (by omega), if_pos hc89] at q
            exact q h2 hd2 hFr2
      · refine z_aload 73 rfl rfl rfl ?_
        refine z_iload 75 rfl rfl rfl ?_
        refine z_aload 76 rfl rfl rfl ?_
        refine z_iload 78 rfl rfl rfl ?_
        refine z_iload 80 rfl rfl rfl ?_
        refine z_aload 82 rfl rfl rfl ?_
        refine z_cv5 85 rfl rfl (by first | exact hP.1 | exact hP.2.2.2.1 | exact hP.2.2.2.2 | exact hv | exact hfo | exact hS.1 | exact hS.2.2.2.1 | exact hS.2.2.2.2 | exact hfo2 | exact hP2.1 | exact hP2.2.2.2.2) rfl (Nat.le_refl _) (Nat.le_refl _) ?_
        refine c_tryEntry hP.1 hP.2.1 hW (by omega) hv hn hst hf hb hfo hsf (fun t1 t2 => ?_) (fun t1 t2 h2 hd2 hF => ?_) (fun t1 h2 hd2 hF => ?_)
        · 
          refine z_goto rfl ?_
          refine z_aload 126 rfl rfl rfl ?_
          refine z_get 129 rfl rfl (by first | exact hP.1 | exact hP.2.2.2.1 | exact hP.2.2.2.2 | exact hv | exact hfo | exact hS.1 | exact hS.2.2.2.1 | exact hS.2.2.2.2 | exact hfo2 | exact hP2.1 | exact hP2.2.2.2.2) rfl ?_
          refine z_push 130 (nI 2) rfl rfl rfl ?_
          refine z_nlt 133 rfl rfl (by omega) (by omega) (fun _ => ?_) (fun h9 => absurd h9 (by omega))
          refine z_aload 135 rfl rfl rfl ?_
          refine z_get 138 rfl rfl (by first | exact hP.1 | exact hP.2.2.2.1 | exact hP.2.2.2.2 | exact hv | exact hfo | exact hS.1 | exact hS.2.2.2.1 | exact hS.2.2.2.2 | exact hfo2 | exact hP2.1 | exact hP2.2.2.2.2) rfl ?_
          refine z_iload 140 rfl rfl rfl ?_
          refine z_ald 141 rfl rfl (by first | exact hP.1 | exact hP.2.2.2.1 | exact hP.2.2.2.2 | exact hv | exact hfo | exact hS.1 | exact hS.2.2.2.1 | exact hS.2.2.2.2 | exact hfo2 | exact hP2.1 | exact hP2.2.2.2.2) rfl (by omega) (by omega) ?_
          refine z_push 142 (nI 1) rfl rfl rfl ?_
          refine z_bop 143 _ rfl rfl (itI_c hCt) ?_
          refine z_istore 145 rfl rfl rfl rfl ?_
          refine z_iinc 148 _ rfl rfl rfl rfl (by first | with_reducible exact zi_1 _ | rfl) ?_
          refine z_goto rfl ?_
          exact ih x (i9 + 1) h _ _ _ hx (by omega) hCt hmt hP hv hd1 hFr (by rw [hsc, scn, if_pos (by omega), if_neg t1, if_neg t2])
        · have hP2 := hP.e (hF.eqv (by omega))
          have hv2 : h2.2 v = aI n9 f := (hF.2 v (by omega)).trans hv
          have hFr2 : Fr fo (fo + 1) h0 h2 := ⟨hF.1.trans hFr.1, fun x hx => (hF.2 x hx).trans (hFr.2 x hx)⟩
          obtain ⟨l2, p2, g2, s2, hfo2, hs2, hw2, hw3⟩ := id hd2
          refine z_goto rfl ?_
          refine z_aload 126 rfl rfl rfl ?_
          refine z_get 129 rfl rfl (by first | exact hP.1 | exact hP.2.2.2.1 | exact hP.2.2.2.2 | exact hv | exact hfo | exact hS.1 | exact hS.2.2.2.1 | exact hS.2.2.2.2 | exact hfo2 | exact hP2.1 | exact hP2.2.2.2.2) rfl ?_
          refine z_push 130 (nI 2) rfl rfl rfl ?_
          refine z_nlt 133 rfl rfl (by omega) (by omega) (fun _ => ?_) (fun h9 => absurd h9 (by omega))
          refine z_aload 135 rfl rfl rfl ?_
          refine z_get 138 rfl rfl (by first | exact hP.1 | exact hP.2.2.2.1 | exact hP.2.2.2.2 | exact hv | exact hfo | exact hS.1 | exact hS.2.2.2.1 | exact hS.2.2.2.2 | exact hfo2 | exact hP2.1 | exact hP2.2.2.2.2) rfl ?_
          refine z_iload 140 rfl rfl rfl ?_
          refine z_ald 141 rfl rfl (by first | exact hP.1 | exact hP.2.2.2.1 | exact hP.2.2.2.2 | exact hv | exact hfo | exact hS.1 | exact hS.2.2.2.1 | exact hS.2.2.2.2 | exact hfo2 | exact hP2.1 | exact hP2.2.2.2.2) rfl (by omega) (by omega) ?_
          refine z_push 142 (nI 1) rfl rfl rfl ?_
          refine z_bop 143 _ rfl rfl (itI_c hCt) ?_
          refine z_istore 145 rfl rfl rfl rfl ?_
          refine z_iinc 148 _ rfl rfl rfl rfl (by first | with_reducible exact zi_1 _ | rfl) ?_
          refine z_goto rfl ?_
          exact ih 1 (i9 + 1) h2 _ _ _ (by omega) (by omega) hCt hmt hP2 hv2 hd2 hFr2 (by rw [hsc, scn, if_pos (by omega), if_neg (by omega), if_pos t1])
        · have hP2 := hP.e (hF.eqv (by omega))
          have hv2 : h2.2 v = aI n9 f := (hF.2 v (by omega)).trans hv
          have hFr2 : Fr fo (fo + 1) h0 h2 := ⟨hF.1.trans hFr.1, fun x hx => (hF.2 x hx).trans (hFr.2 x hx)⟩
          obtain ⟨l2, p2, g2, s2, hfo2, hs2, hw2, hw3⟩ := id hd2
          refine z_goto rfl ?_
          refine z_aload 126 rfl rfl rfl ?_
          refine z_get 129 rfl rfl (by first | exact hP.1 | exact hP.2.2.2.1 | exact hP.2.2.2.2 | exact hv | exact hfo | exact hS.1 | exact hS.2.2.2.1 | exact hS.2.2.2.2 | exact hfo2 | exact hP2.1 | exact hP2.2.2.2.2) rfl ?_
          refine z_push 130 (nI 2) rfl rfl rfl ?_
          refine z_nlt 133 rfl rfl (by omega) (by omega) (fun h9 => absurd h9 (by omega)) (fun _ => ?_)
          refine z_vret rfl (Nat.le_refl _) (Nat.le_refl _) ?_
          rw [hsc0, hsc, scn, if_pos (by omega), if_pos t1] at q
          exact q h2 hd2 hFr2
  refine z_in [some (.ref p), some (.int (nI st)), some (.int (bI free)), some (.ref v), some (.int (nI a)), some (.int (nI (a + bs.length))), some (.ref fo), none, none, none, none] (by rfl) rfl rfl rfl ?_
  refine z_aload 2 rfl rfl rfl ?_
  refine z_cv0 5 rfl rfl (by first | exact hP1.1 | exact hP1.2.2.2.1 | exact hP1.2.2.2.2 | exact hv1 | exact hfo) rfl (Nat.le_refl _) (Nat.le_refl _) ?_
  refine w_setNone (H := H) hfo hs (fun h1 hd1 hF => ?_)
  have hP1 := hP.e (hF.eqv (by omega))
  have hv1 : h1.2 v = aI n9 f := (hF.2 v (by omega)).trans hv
  refine z_iload 6 rfl rfl rfl ?_
  refine z_push 9 (nI 256) rfl rfl rfl ?_
  refine z_bop 10 _ rfl rfl (by first | with_reducible exact zb_2 _ _ | exact zd_2 _ _) ?_
  refine z_aload 11 rfl rfl rfl ?_
  refine z_iload 13 rfl rfl rfl ?_
  refine z_ald 14 rfl rfl (by first | exact hP1.1 | exact hP1.2.2.2.1 | exact hP1.2.2.2.2 | exact hv1 | exact hfo) rfl (by omega) (by omega) ?_
  rw [show f a = nI (bs.getD 0 0) from hf 0 (by omega)]
  refine z_bop 15 _ rfl rfl (by first | with_reducible exact zb_0 _ _ | exact zd_0 _ _) ?_
  refine z_istore 17 rfl rfl rfl rfl ?_
  refine z_iload 19 rfl rfl rfl ?_
  refine z_zlt 22 rfl rfl (by omega) (fun h9 => absurd h9 (by omega)) (fun _ => ?_)
  refine z_iload 24 rfl rfl rfl ?_
  refine z_aload 25 rfl rfl rfl ?_
  refine z_get 28 rfl rfl (by first | exact hP1.1 | exact hP1.2.2.2.1 | exact hP1.2.2.2.2 | exact hv1 | exact hfo) rfl ?_
  refine z_alen 29 rfl rfl (by first | exact hP1.1 | exact hP1.2.2.2.1 | exact hP1.2.2.2.2 | exact hv1 | exact hfo) (by decide) ?_
  refine z_nge 32 rfl rfl (by omega) (by omega) (fun h9 => absurd h9 (by omega)) (fun _ => ?_)
  refine z_aload 33 rfl rfl rfl ?_
  refine z_get 36 rfl rfl (by first | exact hP1.1 | exact hP1.2.2.2.1 | exact hP1.2.2.2.2 | exact hv1 | exact hfo) rfl ?_
  refine z_iload 38 rfl rfl rfl ?_
  refine z_ald 39 rfl rfl (by first | exact hP1.1 | exact hP1.2.2.2.1 | exact hP1.2.2.2.2 | exact hv1 | exact hfo) rfl (by omega) (by omega) ?_
  refine z_push 40 (nI 1) rfl rfl rfl ?_
  refine z_bop 41 _ rfl rfl (itI_c hC0) ?_
  refine z_goto rfl ?_
  refine z_istore 47 rfl rfl rfl rfl ?_
  refine z_push 48 (nI 0) rfl rfl rfl ?_
  refine z_istore 50 rfl rfl rfl rfl ?_
  exact loop l0 0 0 h1 _ _ _ (by decide) (by omega) hC0 hm1 hP1 hv1 hd1 hF rfl
