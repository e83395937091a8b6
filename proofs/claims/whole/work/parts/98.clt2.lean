/-! the class: a closed page; find -/
def RtOk (H : List Sh) (T N A : Nat → Int32) : Prop := ∀ g st l, g < 5 → st < 4 → gP H (gSt g) (decide (g ≠ 4)) st = some l → l.length ≤ 3 ∧ (∃ v, v < 2 ^ 32 ∧ T (g * 4 + st) = nI v ∧ byL l.length v = l.map (shV H)) ∧ N (g * 4 + st) = nI l.length ∧ A (g * 4 + st) = nI (gS H l st)
def PgC0 (h : mH) (p : Nat) (E : List En) (H : List Sh) : Prop := ∃ (m rc : Nat) (hd nx od T N A : Nat → Int32) (S : Nat → Nat), TbP h p true m rc E H hd nx ∧ h.2 (p + 19) = aI 100 od ∧ RoAt h (p + 1) T N A (fun j => nI (S j)) ∧ ChOk E H hd nx ∧ OrOk E od m ∧ rc = rchd H ∧ RtOk H T N A ∧ NoC E H
def PgCK (h : mH) (p K : Nat) (E : List En) (H : List Sh) : Prop := E = [] ∧ H = [] ∧ ∃ (m : Nat) (T N A S : Nat → Int32), h.2 p = oPg K true p m 1 ∧ EnA h (p + 6) 0 [] ∧ ShA h (p + 12) 0 [] ∧ RoAt h (p + 1) T N A S ∧ ∀ j, j < 20 → T j = nI 0 ∧ N j = nI 0 ∧ A j = nI 0
/-- a page that can be read and written by -/
def PgC (h : mH) (p K : Nat) (E : List En) (H : List Sh) : Prop := (K = 0 ∧ PgC0 h p E H) ∨ (K ≠ 0 ∧ K < 4 ∧ PgCK h p K E H)
theorem RoAt.e {h h' : mH} {e : Nat} {T N A S : Nat → Int32} (a : RoAt h e T N A S) (f : Eqv e (e + 5) h h') : RoAt h' e T N A S := by
  obtain ⟨a1, a2, a3, a4, a5⟩ := a
  exact ⟨(f e (by omega) (by omega)).trans a1, (f _ (by omega) (by omega)).trans a2, (f _ (by omega) (by omega)).trans a3, (f _ (by omega) (by omega)).trans a4, (f _ (by omega) (by omega)).trans a5⟩
theorem PgC.e {h h' : mH} {p K : Nat} {E : List En} {H : List Sh} (a : PgC h p K E H) (f : Eqv p (p + 20) h h') : PgC h' p K E H := by
  rcases a with ⟨hK, m, rc, hd, nx, od, T, N, A, S, a1, a2, a3, a4⟩ | ⟨hK, hK4, hE, hH, m, T, N, A, S, a1, a2, a3, a4, a5⟩
  · exact Or.inl ⟨hK, m, rc, hd, nx, od, T, N, A, S, a1.e f, (f _ (by omega) (by omega)).trans a2, a3.e (fun x h1 h2 => f x (by omega) (by omega)), a4⟩
  · exact Or.inr ⟨hK, hK4, hE, hH, m, T, N, A, S, (f p (by omega) (by omega)).trans a1, a2.e (fun x h1 h2 => f x (by omega) (by omega)), a3.e (fun x h1 h2 => f x (by omega) (by omega)), a4.e (fun x h1 h2 => f x (by omega) (by omega)), a5⟩
def lkD (K : Nat) (E : List En) (H : List Sh) (due : Nat) (free : Bool) (bs : List Nat) : Nat × Nat × Nat := if K = 3 then lkF bs else if K = 0 then lkT E H due free bs else lkU (decide (K = 1)) bs
set_option maxRecDepth 100000 in
theorem c_find0 {d : Nat} {h : mH} {p v n9 a fo st : Nat} {free : Bool} {w l pp g s : Int32} {bs : List Nat} {f : Nat → Int32} {E : List En} {H : List Sh} {m rc : Nat} {c : Bool} {hd nx : Nat → Int32} {Q : mP} (hP : TbP h p c m rc E H hd nx) (hCh : ChOk E H hd nx) (hN : NoC E H) (hW : TbW E H) (hst4 : st < 4) (hv : h.2 v = aI n9 f) (hn : n9 < 2 ^ 31) (hst : a + bs.length ≤ n9) (hl1 : 1 ≤ bs.length) (hf : ∀ j, j < bs.length → f (a + j) = nI (bs.getD j 0)) (hb : ∀ j, bs.getD j 0 < 256) (hfo : h.2 fo = oFound w l pp g s) (hs : s = 0 ∨ s = 1) (hfp : fo < p ∨ p + 20 ≤ fo) (hfv : fo ≠ v)  (q : ∀ h', Fd9 h' fo (lkT E H st free bs) H → Fr fo (fo + 1) h h' → Q none h') : mWP (d + 4) 55 [.ref p, .int (nI st), .int (bI free), .ref v, .int (nI a), .int (nI (a + bs.length)), .ref fo] h Q := by
  refine z_in [some (.ref p), some (.int (nI st)), some (.int (bI free)), some (.ref v), some (.int (nI a)), some (.int (nI (a + bs.length))), some (.ref fo)] (by rfl) rfl rfl rfl ?_
  refine z_iload 2 rfl rfl rfl ?_
  refine z_zlt 5 rfl rfl (by omega) (fun h9 => absurd h9 (by omega)) (fun _ => ?_)
  refine z_iload 7 rfl rfl rfl ?_
  refine z_iload 9 rfl rfl rfl ?_
  refine z_nge 12 rfl rfl (by omega) (by omega) (fun h9 => absurd h9 (by omega)) (fun _ => ?_)
  refine z_iload 14 rfl rfl rfl ?_
  refine z_aload 15 rfl rfl rfl ?_
  refine z_alen 16 rfl rfl (by first | exact hP.1 | exact hv) (by decide) ?_
  refine z_nle 19 rfl rfl (by omega) (by omega) (fun _ => ?_) (fun h9 => absurd h9 (by omega))
  refine z_aload 26 rfl rfl rfl ?_
  refine z_get 29 rfl rfl (by first | exact hP.1 | exact hv) rfl ?_
  refine z_swOut rfl (by decide) ?_
  refine z_aload 98 rfl rfl rfl ?_
  refine z_iload 99 rfl rfl rfl ?_
  refine z_iload 100 rfl rfl rfl ?_
  refine z_aload 101 rfl rfl rfl ?_
  refine z_iload 103 rfl rfl rfl ?_
  refine z_iload 105 rfl rfl rfl ?_
  refine z_aload 107 rfl rfl rfl ?_
  refine z_cv6 110 rfl rfl (by first | exact hP.1 | exact hv) rfl (Nat.le_refl _) (Nat.le_refl _) ?_
  refine c_findItem hP hCh hN hW hst4 hv hn hst hl1 hf hb hfo hs hfp hfv (fun h2 hd2 hF => ?_)
  refine z_vret rfl (Nat.le_refl _) (Nat.le_refl _) ?_
  exact q h2 hd2 hF
set_option maxRecDepth 100000 in
theorem c_find1 {d : Nat} {h : mH} {p v n9 a fo st : Nat} {free : Bool} {w l pp g s : Int32} {bs : List Nat} {f : Nat → Int32} {E : List En} {H : List Sh} {m rc : Nat} {c : Bool} {hd nx : Nat → Int32} {Q : mP} (hP : h.2 p = oPg 1 c p m rc) (hst4 : st < 4) (hv : h.2 v = aI n9 f) (hn : n9 < 2 ^ 31) (hst : a + bs.length ≤ n9) (hl1 : 1 ≤ bs.length) (hf : ∀ j, j < bs.length → f (a + j) = nI (bs.getD j 0)) (hb : ∀ j, bs.getD j 0 < 256) (hfo : h.2 fo = oFound w l pp g s) (hs : s = 0 ∨ s = 1) (hfp : fo < p ∨ p + 20 ≤ fo) (hfv : fo ≠ v)  (q : ∀ h', Fd9 h' fo (lkU true bs) H → Fr fo (fo + 1) h h' → Q none h') : mWP (d + 4) 55 [.ref p, .int (nI st), .int (bI free), .ref v, .int (nI a), .int (nI (a + bs.length)), .ref fo] h Q := by
  refine z_in [some (.ref p), some (.int (nI st)), some (.int (bI free)), some (.ref v), some (.int (nI a)), some (.int (nI (a + bs.length))), some (.ref fo)] (by rfl) rfl rfl rfl ?_
  refine z_iload 2 rfl rfl rfl ?_
  refine z_zlt 5 rfl rfl (by omega) (fun h9 => absurd h9 (by omega)) (fun _ => ?_)
  refine z_iload 7 rfl rfl rfl ?_
  refine z_iload 9 rfl rfl rfl ?_
  refine z_nge 12 rfl rfl (by omega) (by omega) (fun h9 => absurd h9 (by omega)) (fun _ => ?_)
  refine z_iload 14 rfl rfl rfl ?_
  refine z_aload 15 rfl rfl rfl ?_
  refine z_alen 16 rfl rfl (by first | exact hP | exact hv) (by decide) ?_
  refine z_nle 19 rfl rfl (by omega) (by omega) (fun _ => ?_) (fun h9 => absurd h9 (by omega))
  refine z_aload 26 rfl rfl rfl ?_
  refine z_get 29 rfl rfl (by first | exact hP | exact hv) rfl ?_
  refine z_swIn 56 rfl 0 (by decide) rfl ?_
  refine z_push 57 (nI 1) rfl rfl rfl ?_
  refine z_aload 58 rfl rfl rfl ?_
  refine z_iload 60 rfl rfl rfl ?_
  refine z_iload 62 rfl rfl rfl ?_
  refine z_aload 64 rfl rfl rfl ?_
  refine z_cs5 67 rfl rfl rfl (Nat.le_refl _) (Nat.le_refl _) ?_
  refine c_findUnitsT (H := H) hv hn hst hf hb hfo hs hl1 (fun h2 hd2 hF => ?_)
  refine z_goto rfl ?_
  refine z_vret rfl (Nat.le_refl _) (Nat.le_refl _) ?_
  exact q h2 hd2 hF
set_option maxRecDepth 100000 in
theorem c_find2 {d : Nat} {h : mH} {p v n9 a fo st : Nat} {free : Bool} {w l pp g s : Int32} {bs : List Nat} {f : Nat → Int32} {E : List En} {H : List Sh} {m rc : Nat} {c : Bool} {hd nx : Nat → Int32} {Q : mP} (hP : h.2 p = oPg 2 c p m rc) (hst4 : st < 4) (hv : h.2 v = aI n9 f) (hn : n9 < 2 ^ 31) (hst : a + bs.length ≤ n9) (hl1 : 1 ≤ bs.length) (hf : ∀ j, j < bs.length → f (a + j) = nI (bs.getD j 0)) (hb : ∀ j, bs.getD j 0 < 256) (hfo : h.2 fo = oFound w l pp g s) (hs : s = 0 ∨ s = 1) (hfp : fo < p ∨ p + 20 ≤ fo) (hfv : fo ≠ v)  (q : ∀ h', Fd9 h' fo (lkU false bs) H → Fr fo (fo + 1) h h' → Q none h') : mWP (d + 4) 55 [.ref p, .int (nI st), .int (bI free), .ref v, .int (nI a), .int (nI (a + bs.length)), .ref fo] h Q := by
  refine z_in [some (.ref p), some (.int (nI st)), some (.int (bI free)), some (.ref v), some (.int (nI a)), some (.int (nI (a + bs.length))), some (.ref fo)] (by rfl) rfl rfl rfl ?_
  refine z_iload 2 rfl rfl rfl ?_
  refine z_zlt 5 rfl rfl (by omega) (fun h9 => absurd h9 (by omega)) (fun _ => ?_)
  refine z_iload 7 rfl rfl rfl ?_
  refine z_iload 9 rfl rfl rfl ?_
  refine z_nge 12 rfl rfl (by omega) (by omega) (fun h9 => absurd h9 (by omega)) (fun _ => ?_)
  refine z_iload 14 rfl rfl rfl ?_
  refine z_aload 15 rfl rfl rfl ?_
  refine z_alen 16 rfl rfl (by first | exact hP | exact hv) (by decide) ?_
  refine z_nle 19 rfl rfl (by omega) (by omega) (fun _ => ?_) (fun h9 => absurd h9 (by omega))
  refine z_aload 26 rfl rfl rfl ?_
  refine z_get 29 rfl rfl (by first | exact hP | exact hv) rfl ?_
  refine z_swIn 70 rfl 1 (by decide) rfl ?_
  refine z_push 71 (nI 0) rfl rfl rfl ?_
  refine z_aload 72 rfl rfl rfl ?_
  refine z_iload 74 rfl rfl rfl ?_
  refine z_iload 76 rfl rfl rfl ?_
  refine z_aload 78 rfl rfl rfl ?_
  refine z_cs5 81 rfl rfl rfl (Nat.le_refl _) (Nat.le_refl _) ?_
  refine c_findUnitsF (H := H) hv hn hst hf hb hfo hs hl1 (fun h2 hd2 hF => ?_)
  refine z_goto rfl ?_
  refine z_vret rfl (Nat.le_refl _) (Nat.le_refl _) ?_
  exact q h2 hd2 hF
set_option maxRecDepth 100000 in
theorem c_find3 {d : Nat} {h : mH} {p v n9 a fo st : Nat} {free : Bool} {w l pp g s : Int32} {bs : List Nat} {f : Nat → Int32} {E : List En} {H : List Sh} {m rc : Nat} {c : Bool} {hd nx : Nat → Int32} {Q : mP} (hP : h.2 p = oPg 3 c p m rc) (hst4 : st < 4) (hv : h.2 v = aI n9 f) (hn : n9 < 2 ^ 31) (hst : a + bs.length ≤ n9) (hl1 : 1 ≤ bs.length) (hf : ∀ j, j < bs.length → f (a + j) = nI (bs.getD j 0)) (hb : ∀ j, bs.getD j 0 < 256) (hfo : h.2 fo = oFound w l pp g s) (hs : s = 0 ∨ s = 1) (hfp : fo < p ∨ p + 20 ≤ fo) (hfv : fo ≠ v)  (q : ∀ h', Fd9 h' fo (lkF bs) H → Fr fo (fo + 1) h h' → Q none h') : mWP (d + 4) 55 [.ref p, .int (nI st), .int (bI free), .ref v, .int (nI a), .int (nI (a + bs.length)), .ref fo] h Q := by
  refine z_in [some (.ref p), some (.int (nI st)), some (.int (bI free)), some (.ref v), some (.int (nI a)), some (.int (nI (a + bs.length))), some (.ref fo)] (by rfl) rfl rfl rfl ?_
  refine z_iload 2 rfl rfl rfl ?_
  refine z_zlt 5 rfl rfl (by omega) (fun h9 => absurd h9 (by omega)) (fun _ => ?_)
  refine z_iload 7 rfl rfl rfl ?_
  refine z_iload 9 rfl rfl rfl ?_
  refine z_nge 12 rfl rfl (by omega) (by omega) (fun h9 => absurd h9 (by omega)) (fun _ => ?_)
  refine z_iload 14 rfl rfl rfl ?_
  refine z_aload 15 rfl rfl rfl ?_
  refine z_alen 16 rfl rfl (by first | exact hP | exact hv) (by decide) ?_
  refine z_nle 19 rfl rfl (by omega) (by omega) (fun _ => ?_) (fun h9 => absurd h9 (by omega))
  refine z_aload 26 rfl rfl rfl ?_
  refine z_get 29 rfl rfl (by first | exact hP | exact hv) rfl ?_
  refine z_swIn 84 rfl 2 (by decide) rfl ?_
  refine z_aload 85 rfl rfl rfl ?_
  refine z_iload 87 rfl rfl rfl ?_
  refine z_iload 89 rfl rfl rfl ?_
  refine z_aload 91 rfl rfl rfl ?_
  refine z_cs4 94 rfl rfl rfl (Nat.le_refl _) (Nat.le_refl _) ?_
  refine c_findFew (H := H) hv hn hst hf hb hfo hs hl1 (fun h2 hd2 hF => ?_)
  refine z_goto rfl ?_
  refine z_vret rfl (Nat.le_refl _) (Nat.le_refl _) ?_
  exact q h2 hd2 hF
theorem c_find {d : Nat} {h : mH} {p v n9 a fo st : Nat} {free : Bool} {w l pp g s : Int32} {bs : List Nat} {f : Nat → Int32} {E : List En} {H : List Sh} {K : Nat} {Q : mP} (hP : PgC h p K E H) (hW : TbW E H) (hst4 : st < 4) (hv : h.2 v = aI n9 f) (hn : n9 < 2 ^ 31) (hst : a + bs.length ≤ n9) (hl1 : 1 ≤ bs.length) (hf : ∀ j, j < bs.length → f (a + j) = nI (bs.getD j 0)) (hb : ∀ j, bs.getD j 0 < 256) (hfo : h.2 fo = oFound w l pp g s) (hs : s = 0 ∨ s = 1) (hfp : fo < p ∨ p + 20 ≤ fo) (hfv : fo ≠ v) (q : ∀ h', Fd9 h' fo (lkD K E H st free bs) H → Fr fo (fo + 1) h h' → Q none h') : mWP (d + 4) 55 [.ref p, .int (nI st), .int (bI free), .ref v, .int (nI a), .int (nI (a + bs.length)), .ref fo] h Q := by
  rcases hP with ⟨rfl, m, rc, hd, nx, od, T, N, A, S, a1, a2, a3, a4, a5, a6, a7, a8⟩ | ⟨hK, hK4, hE, hH, m, T, N, A, S, a1, a2, a3, a4, a5⟩
  · rw [lkD, if_neg (by decide), if_pos rfl] at q
    exact c_find0 a1 a4 a8 hW hst4 hv hn hst hl1 hf hb hfo hs hfp hfv q
  · rcases (by omega : K = 1 ∨ K = 2 ∨ K = 3) with rfl | rfl | rfl
    · rw [lkD, if_neg (by decide), if_neg (by decide), decide_eq_true rfl] at q
      exact c_find1 (E := E) (hd := T) (nx := T) a1 hst4 hv hn hst hl1 hf hb hfo hs hfp hfv q
    · rw [lkD, if_neg (by decide), if_neg (by decide), decide_eq_false (by decide)] at q
      exact c_find2 (E := E) (hd := T) (nx := T) a1 hst4 hv hn hst hl1 hf hb hfo hs hfp hfv q
    · rw [lkD, if_pos rfl] at q
      exact c_find3 (E := E) (hd := T) (nx := T) a1 hst4 hv hn hst hl1 hf hb hfo hs hfp hfv q
