/-! the class: Reader -/
theorem z_gen {d : Nat} {t : mK} {bc bs : Nat} {Q : mP} {pc : Nat} {L : List (Option Value)} {st : List Value} {h1 : mH} {nc ns : Nat} (h : mH) (e : h1 = h) (k : mZ d t bc bs Q pc L st h nc ns) : mZ d t bc bs Q pc L st h1 nc ns := by rw [e]; exact k
abbrev oRd (R fo p rule st pn mal : Nat) : mC := .inr (.inr (5, [.ref R, .ref fo, .ref p, .int (nI rule), .int (nI st), .int (nI pn), .int (nI mal)]))
theorem oRd_pn {R fo p rule x pn mal : Nat} (h : pn = 4) : oRd R fo p rule x 4 mal = oRd R fo p rule x pn mal := by subst h; rfl
abbrev oRu (R rs ws cnt : Nat) : mC := .inr (.inr (8, [.int (nI rs), .int (nI ws), .int (nI cnt), .ref (R + 1), .ref (R + 2), .ref (R + 3), .ref (R + 4)]))
def FdA (h : mH) (a : Nat) : Prop := ∃ w l p g s : Int32, h.2 a = oFound w l p g s ∧ (s = 0 ∨ s = 1)
theorem FdA.e {h h' : mH} {a : Nat} (x : FdA h a) (f : h'.2 a = h.2 a) : FdA h' a := by
  obtain ⟨w, l, p, g, s, h1, h2⟩ := x
  exact ⟨w, l, p, g, s, f.trans h1, h2⟩
theorem Fd9.A {h : mH} {a : Nat} {x : Nat × Nat × Nat} {H : List Sh} (d : Fd9 h a x H) : FdA h a := by
  obtain ⟨l, p, g, s, h1, h2, _⟩ := d
  exact ⟨_, l, p, g, s, h1, h2⟩
/-- a reader, with what it found -/
def RdAt (h : mH) (a R p rule st pn mal : Nat) : Prop := h.2 a = oRd R (a + 1) p rule st pn mal ∧ FdA h (a + 1)
theorem RdAt.e {h h' : mH} {a R p rule st pn mal : Nat} (x : RdAt h a R p rule st pn mal) (f : Eqv a (a + 2) h h') : RdAt h' a R p rule st pn mal := ⟨(f a (by omega) (by omega)).trans x.1, x.2.e (f _ (by omega) (by omega))⟩
theorem PgC.obj {h : mH} {p K : Nat} {E : List En} {H : List Sh} (a : PgC h p K E H) : ∃ fs, h.2 p = .inr (.inr (4, fs)) := by
  rcases a with ⟨hK, m, rc, hd, nx, od, T, N, A, S, a1, a2⟩ | ⟨hK, hK4, hE, hH, m, T, N, A, S, a1, a2⟩
  · exact ⟨_, a1.1⟩
  · exact ⟨_, a1⟩
def puR (rule sg b : Nat) : List Nat := if rule = 1 then puU sg else if rule = 3 then [56320 + b] else []
def pnR (x : Nat × Nat × Nat × List Nat × Nat) : Nat := if x.1 = 0 ∧ x.2.2.2.2 = 1 then 4 else x.2.2.1
set_option maxRecDepth 10000 in
theorem c_Rd_open {d : Nat} {h : mH} {a R p p2 rule ru st pn mal : Nat} {Q : mP} (hr : RdAt h a R p2 ru st pn mal)  (q : ∀ h', RdAt h' a R p rule 0 4 0 → Fr a (a + 1) h h' → Q none h') : mWP (d + 1) 59 [.ref a, .ref p, .int (nI rule)] h Q := by
  refine z_in [some (.ref a), some (.ref p), some (.int (nI rule))] (by rfl) rfl rfl rfl ?_
  refine z_aload 1 rfl rfl rfl ?_
  refine z_aload 2 rfl rfl rfl ?_
  refine z_put 5 rfl rfl (by first | exact hr.1 | exact mg_eq _ _ _ | fail "lk") rfl (mFo rfl) ?_
  refine z_aload 6 rfl rfl rfl ?_
  refine z_iload 7 rfl rfl rfl ?_
  refine z_put 10 rfl rfl (by first | exact hr.1 | exact mg_eq _ _ _ | fail "lk") rfl (mFi rfl) ?_
  refine z_aload 11 rfl rfl rfl ?_
  refine z_push 12 (nI 0) rfl rfl rfl ?_
  refine z_put 15 rfl rfl (by first | exact hr.1 | exact mg_eq _ _ _ | fail "lk") rfl (mFi rfl) ?_
  refine z_aload 16 rfl rfl rfl ?_
  refine z_push 17 (nI 4) rfl rfl rfl ?_
  refine z_put 20 rfl rfl (by first | exact hr.1 | exact mg_eq _ _ _ | fail "lk") rfl (mFi rfl) ?_
  refine z_aload 21 rfl rfl rfl ?_
  refine z_push 22 (nI 0) rfl rfl rfl ?_
  refine z_put 25 rfl rfl (by first | exact hr.1 | exact mg_eq _ _ _ | fail "lk") rfl (mFi rfl) ?_
  refine z_vret rfl (Nat.le_refl _) (Nat.le_refl _) ?_
  refine q _ ⟨mg_eq _ _ _, ?_⟩ ⟨rfl, fun x hx => ?_⟩
  · exact hr.2.e (by rw [mg_ne (show a + 1 ≠ a by omega) rfl, mg_ne (show a + 1 ≠ a by omega) rfl, mg_ne (show a + 1 ≠ a by omega) rfl, mg_ne (show a + 1 ≠ a by omega) rfl, mg_ne (show a + 1 ≠ a by omega) rfl])
  · rw [mg_ne (show x ≠ a by omega) rfl, mg_ne (show x ≠ a by omega) rfl, mg_ne (show x ≠ a by omega) rfl, mg_ne (show x ≠ a by omega) rfl, mg_ne (show x ≠ a by omega) rfl]
set_option maxRecDepth 100000 in
theorem c_passOver {d : Nat} {h : mH} {a R p rule st pn mal rs ws cnt o n b : Nat} {l : List Nat} {Q : mP} (hr : RdAt h a R p rule st pn mal) (hR : h.2 R = oRu R rs ws cnt) (hw : RwAt h o n l) (hru : rule < 4) (hrs : rs < 1114112) (hb : b < 256) (hn : n < 2 ^ 31) (hl : l.length + 2 ≤ n) (hRa : R ≠ a) (hoa : o + 2 ≤ a ∨ a + 2 ≤ o)  (q : ∀ h', RdAt h' a R p rule st pn (mal + 1) → RwAt h' o n (l ++ puR rule rs b) → FrL [(a, a + 1), (o, o + 2)] h h' → Q (some (.int (if rule = 0 then -9 else nI 1))) h') : mWP (d + 3) 61 [.ref a, .int (nI b), .ref o] h Q := by
  refine z_in [some (.ref a), some (.int (nI b)), some (.ref o)] (by rfl) rfl rfl rfl ?_
  refine z_aload 1 rfl rfl rfl ?_
  first | refine z_dup 2 rfl rfl ?_ | refine z_dupi 2 rfl rfl ?_
  refine z_get 5 rfl rfl (by first | exact hr1.1 | exact hR1 | exact hw1.1 | exact hr.1 | fail "lk") rfl ?_
  refine z_push 6 (nI 1) rfl rfl rfl ?_
  refine z_bop 7 _ rfl rfl (by first | with_reducible exact zb_0 _ _ | exact zd_0 _ _) ?_
  refine z_put 10 rfl rfl (by first | exact hr1.1 | exact hR1 | exact hw1.1 | exact hr.1 | fail "lk") rfl (mFi rfl) ?_
  obtain ⟨h1, hhh1⟩ : ∃ h9 : mH, h9 = mSet h a (oRd R (a + 1) p rule st pn (mal + 1)) := ⟨_, rfl⟩
  refine z_gen h1 hhh1.symm ?_
  have hr0 : h1.2 a = oRd R (a + 1) p rule st pn (mal + 1) := by rw [hhh1]; exact mg_eq _ _ _
  have kh1 : ∀ x, x ≠ a → h1.2 x = h.2 x := fun x hx => by rw [hhh1]; exact mg_ne hx rfl
  have zh1 : h1.1 = h.1 := by rw [hhh1]; rfl
  have hr1 : RdAt h1 a R p rule st pn (mal + 1) := ⟨hr0, hr.2.e (kh1 _ (by omega))⟩
  have hR1 : h1.2 R = oRu R rs ws cnt := (kh1 R hRa).trans hR
  have hw1 : RwAt h1 o n l := hw.e (fun x x1 x2 => kh1 x (by omega))
  refine z_aload 11 rfl rfl rfl ?_
  refine z_get 14 rfl rfl (by first | exact hr1.1 | exact hR1 | exact hw1.1 | exact hr.1 | fail "lk") rfl ?_
  by_cases hsw : (1 : Int) ≤ ((nI rule)).toInt ∧ ((nI rule)).toInt < 4
  · obtain ⟨j9, hj9, hx9⟩ : ∃ j9 : Nat, j9 < 3 ∧ ((nI rule)).toInt = 1 + (j9 : Int) := ⟨(((nI rule)).toInt - 1).toNat, by omega, by omega⟩
    have h9 : j9 = 0 ∨ j9 = 1 ∨ j9 = 2 := by omega
    rcases h9 with rfl | rfl | rfl
    · refine z_swIn 40 rfl 0 (by omega) rfl ?_
      refine z_aload 41 rfl rfl rfl ?_
      refine z_aload 42 rfl rfl rfl ?_
      refine z_get 45 rfl rfl (by first | exact hr1.1 | exact hR1 | exact hw1.1 | exact hr.1 | fail "lk") rfl ?_
      refine z_get 48 rfl rfl (by first | exact hr1.1 | exact hR1 | exact hw1.1 | exact hr.1 | fail "lk") rfl ?_
      refine z_cv1 51 rfl rfl (by first | exact hr1.1 | exact hR1 | exact hw1.1 | exact hr.1 | fail "lk") rfl (Nat.le_refl _) (Nat.le_refl _) ?_
      refine w_addPoint hw1 hn hrs hl (fun h2 hw2 hF => ?_)
      refine z_push 52 (nI 1) rfl rfl rfl ?_
      refine z_ireti rfl (Nat.le_refl _) (Nat.le_refl _) ?_
      have hrl : (nI rule).toInt = rule := nI_toInt (by omega)
      obtain rfl : rule = 1 := by omega
      rw [puR, if_pos rfl, if_neg (by decide)] at q
      exact q h2 (hr1.e (hF.eqv (by omega))) hw2 ⟨hF.1.trans zh1, fun x hx => by simp only [nin] at hx; exact (hF.2 x (by omega)).trans (kh1 x (by omega))⟩
    · refine z_swIn 53 rfl 1 (by omega) rfl ?_
      refine z_push 54 (nI 1) rfl rfl rfl ?_
      refine z_ireti rfl (Nat.le_refl _) (Nat.le_refl _) ?_
      have hrl : (nI rule).toInt = rule := nI_toInt (by omega)
      obtain rfl : rule = 2 := by omega
      rw [puR, if_neg (by decide), if_neg (by decide), if_neg (by decide), List.append_nil] at q
      exact q h1 hr1 hw1 ⟨zh1, fun x hx => by simp only [nin] at hx; exact kh1 x (by omega)⟩
    · refine z_swIn 55 rfl 2 (by omega) rfl ?_
      refine z_aload 56 rfl rfl rfl ?_
      refine z_push 58 (nI 56320) rfl rfl rfl ?_
      refine z_iload 59 rfl rfl rfl ?_
      refine z_bop 60 _ rfl rfl (by first | with_reducible exact zb_0 _ _ | exact zd_0 _ _) ?_
      refine z_cv1 63 rfl rfl (by first | exact hr1.1 | exact hR1 | exact hw1.1 | exact hr.1 | fail "lk") rfl (Nat.le_refl _) (Nat.le_refl _) ?_
      refine w_add hw1 hn (by omega) (fun h2 hw2 hF => ?_)
      refine z_pop 64 rfl rfl ?_
      refine z_push 65 (nI 1) rfl rfl rfl ?_
      refine z_ireti rfl (Nat.le_refl _) (Nat.le_refl _) ?_
      have hrl : (nI rule).toInt = rule := nI_toInt (by omega)
      obtain rfl : rule = 3 := by omega
      rw [puR, if_neg (by decide), if_pos rfl, if_neg (by decide)] at q
      exact q h2 (hr1.e (hF.eqv (by omega))) hw2 ⟨hF.1.trans zh1, fun x hx => by simp only [nin] at hx; exact (hF.2 x (by omega)).trans (kh1 x (by omega))⟩
  · refine z_swOut rfl (by simp only [List.length]; omega) ?_
    refine z_push 68 (-9) rfl rfl rfl ?_
    refine z_ireti rfl (Nat.le_refl _) (Nat.le_refl _) ?_
    have hrl : (nI rule).toInt = rule := nI_toInt (by omega)
    obtain rfl : rule = 0 := by omega
    rw [puR, if_neg (by decide), if_neg (by decide), if_pos rfl, List.append_nil] at q
    exact q h1 hr1 hw1 ⟨zh1, fun x hx => by simp only [nin] at hx; exact kh1 x (by omega)⟩
set_option maxRecDepth 100000 in
theorem c_step {d : Nat} {h : mH} {a0 R p rule st pn mal rs ws cnt o n v n9 a K : Nat} {last : Bool} {l bs : List Nat} {f : Nat → Int32} {E : List En} {H : List Sh} {Q : mP} (hr : RdAt h a0 R p rule st pn mal) (hR : h.2 R = oRu R rs ws cnt) (hw : RwAt h o n l) (hP : PgC h p K E H) (hW : TbW E H) (hv : h.2 v = aI n9 f) (hn9 : n9 < 2 ^ 31) (hst : a + bs.length ≤ n9) (hl1 : 1 ≤ bs.length) (hf : ∀ j, j < bs.length → f (a + j) = nI (bs.getD j 0)) (hb : ∀ j, bs.getD j 0 < 256) (hst4 : st < 4) (hpn : pn ≤ 4) (hru : rule < 4) (hrs : rs < 1114112) (hn : n < 2 ^ 31) (hl : l.length + 2 ≤ n) (hRa : R < a0 ∨ a0 + 2 ≤ R) (hoa : o + 2 ≤ a0 ∨ a0 + 2 ≤ o) (hfp : a0 + 1 < p ∨ p + 20 ≤ a0 + 1) (hva : v < a0 ∨ a0 + 2 ≤ v)  (q : ∀ h', RdAt h' a0 R p rule (rd1 K E H rule rs last st pn bs).2.1 (pnR (rd1 K E H rule rs last st pn bs)) (mal + (rd1 K E H rule rs last st pn bs).2.2.2.2) → RwAt h' o n (l ++ (rd1 K E H rule rs last st pn bs).2.2.2.1) → FrL [(a0, a0 + 2), (o, o + 2)] h h' → Q (some (.int (rI (rd1 K E H rule rs last st pn bs)))) h') : mWP (d + 5) 60 [.ref a0, .ref v, .int (nI a), .int (nI (a + bs.length)), .int (bI last), .ref o] h Q := by
  obtain ⟨w0, l0, p0, g0, s0, hfo, hsf⟩ := hr.2
  obtain ⟨fsP, hpo⟩ := hP.obj
  refine z_in [some (.ref a0), some (.ref v), some (.int (nI a)), some (.int (nI (a + bs.length))), some (.int (bI last)), some (.ref o), none] (by rfl) rfl rfl rfl ?_
  refine z_aload 1 rfl rfl rfl ?_
  refine z_get 4 rfl rfl (by first | exact hr.1 | exact hr2 | exact hr3 | exact hfo2 | exact hfo3 | exact hv3 | exact hv | exact hpo | exact hw3.1 | exact hr4 | exact hfo4 | fail "lk") rfl ?_
  refine z_push 5 (nI 4) rfl rfl rfl ?_
  refine z_nne 8 rfl rfl (by omega) (by omega) (fun hc5 => ?_) (fun hc5 => ?_)
  · refine z_push 13 (nI 0) rfl rfl rfl ?_
    refine z_istore 15 rfl rfl rfl rfl ?_
    refine z_aload 16 rfl rfl rfl ?_
    refine z_get 19 rfl rfl (by first | exact hr.1 | exact hr2 | exact hr3 | exact hfo2 | exact hfo3 | exact hv3 | exact hv | exact hpo | exact hw3.1 | exact hr4 | exact hfo4 | fail "lk") rfl ?_
    refine z_iload 21 rfl rfl rfl ?_
    refine z_zeq 24 rfl rfl (by omega) (fun _ => ?_) (fun h9 => absurd h9 (by omega))
    refine z_aload 32 rfl rfl rfl ?_
    refine z_get 35 rfl rfl (by first | exact hr.1 | exact hr2 | exact hr3 | exact hfo2 | exact hfo3 | exact hv3 | exact hv | exact hpo | exact hw3.1 | exact hr4 | exact hfo4 | fail "lk") rfl ?_
    refine z_iload 37 rfl rfl rfl ?_
    refine z_aload 38 rfl rfl rfl ?_
    refine z_iload 39 rfl rfl rfl ?_
    refine z_iload 40 rfl rfl rfl ?_
    refine z_aload 41 rfl rfl rfl ?_
    refine z_get 44 rfl rfl (by first | exact hr.1 | exact hr2 | exact hr3 | exact hfo2 | exact hfo3 | exact hv3 | exact hv | exact hpo | exact hw3.1 | exact hr4 | exact hfo4 | fail "lk") rfl ?_
    refine z_cv6 47 rfl rfl (by first | exact hr.1 | exact hr2 | exact hr3 | exact hfo2 | exact hfo3 | exact hv3 | exact hv | exact hpo | exact hw3.1 | exact hr4 | exact hfo4 | fail "lk") rfl (Nat.le_refl _) (Nat.le_refl _) ?_
    refine c_find (K := K) (free := false) hP hW (by omega) hv hn9 hst hl1 hf hb hfo hsf hfp (by omega) (fun h2 hd2 hF => ?_)
    have hd2 : Fd9 h2 (a0 + 1) (lk K E H st pn bs) H := by
      have e9 : lk K E H st pn bs = lkD K E H pn false bs := by unfold lk lkD; rw [if_neg hc5, decide_eq_false hc5]
      rw [e9]; exact hd2
    have hr2 : h2.2 a0 = oRd R (a0 + 1) p rule st pn mal := (hF.2 a0 (by omega)).trans hr.1
    have hv2 : h2.2 v = aI n9 f := (hF.2 v (by omega)).trans hv
    have hR2 : h2.2 R = oRu R rs ws cnt := (hF.2 R (by omega)).trans hR
    have hw2 := hw.e (hF.eqv (by omega))
    obtain ⟨l2, p2, g2, s2, hfo2, hs2, hx2, hx3⟩ := id hd2
    have hX4 := lk_4 K st pn E H bs
    refine z_aload 48 rfl rfl rfl ?_
    refine z_get 51 rfl rfl (by first | exact hr.1 | exact hr2 | exact hr3 | exact hfo2 | exact hfo3 | exact hv3 | exact hv | exact hpo | exact hw3.1 | exact hr4 | exact hfo4 | fail "lk") rfl ?_
    refine z_get 54 rfl rfl (by first | exact hr.1 | exact hr2 | exact hr3 | exact hfo2 | exact hfo3 | exact hv3 | exact hv | exact hpo | exact hw3.1 | exact hr4 | exact hfo4 | fail "lk") rfl ?_
    refine z_push 55 (nI 1) rfl rfl rfl ?_
    refine z_nne 58 rfl rfl (by omega) (by omega) (fun hc55 => ?_) (fun hc55 => ?_)
    · refine z_aload 66 rfl rfl rfl ?_
      refine z_push 67 (nI 4) rfl rfl rfl ?_
      refine z_put 70 rfl rfl (by first | exact hr.1 | exact hr2 | exact hr3 | exact hfo2 | exact hfo3 | exact hv3 | exact hv | exact hpo | exact hw3.1 | exact hr4 | exact hfo4 | fail "lk") rfl (mFi rfl) ?_
      obtain ⟨h3, hhh3⟩ : ∃ h9 : mH, h9 = mSet h2 a0 (oRd R (a0 + 1) p rule st 4 mal) := ⟨_, rfl⟩
      refine z_gen h3 hhh3.symm ?_
      have hr3 : h3.2 a0 = oRd R (a0 + 1) p rule st 4 mal := by rw [hhh3]; exact mg_eq _ _ _
      have kh3 : ∀ x, x ≠ a0 → h3.2 x = h2.2 x := fun x hx => by rw [hhh3]; exact mg_ne hx rfl
      have zh3 : h3.1 = h2.1 := by rw [hhh3]; rfl
      have hfo3 : h3.2 (a0 + 1) = oFound (nI (lk K E H st pn bs).1) l2 p2 g2 s2 := (kh3 _ (by omega)).trans hfo2
      have hv3 : h3.2 v = aI n9 f := (kh3 v (by omega)).trans hv2
      have hR3 : h3.2 R = oRu R rs ws cnt := (kh3 R (by omega)).trans hR2
      have hw3 : RwAt h3 o n l := hw2.e (fun x x1 x2 => kh3 x (by omega))
      have hF3 : FrL [(a0, a0 + 2), (o, o + 2)] h h3 := ⟨zh3.trans hF.1, fun x hx => by simp only [nin] at hx; exact (kh3 x (by omega)).trans (hF.2 x (by omega))⟩
      have hA3 : FdA h3 (a0 + 1) := ⟨_, _, _, _, _, hfo3, hs2⟩
      refine z_aload 71 rfl rfl rfl ?_
      refine z_get 74 rfl rfl (by first | exact hr.1 | exact hr2 | exact hr3 | exact hfo2 | exact hfo3 | exact hv3 | exact hv | exact hpo | exact hw3.1 | exact hr4 | exact hfo4 | fail "lk") rfl ?_
      refine z_get 77 rfl rfl (by first | exact hr.1 | exact hr2 | exact hr3 | exact hfo2 | exact hfo3 | exact hv3 | exact hv | exact hpo | exact hw3.1 | exact hr4 | exact hfo4 | fail "lk") rfl ?_
      refine z_push 78 (nI 2) rfl rfl rfl ?_
      refine z_nne 81 rfl rfl (by omega) (by omega) (fun hc78 => ?_) (fun hc78 => ?_)
      · refine z_aload 102 rfl rfl rfl ?_
        refine z_get 105 rfl rfl (by first | exact hr.1 | exact hr2 | exact hr3 | exact hfo2 | exact hfo3 | exact hv3 | exact hv | exact hpo | exact hw3.1 | exact hr4 | exact hfo4 | fail "lk") rfl ?_
        refine z_get 108 rfl rfl (by first | exact hr.1 | exact hr2 | exact hr3 | exact hfo2 | exact hfo3 | exact hv3 | exact hv | exact hpo | exact hw3.1 | exact hr4 | exact hfo4 | fail "lk") rfl ?_
        refine z_push 109 (nI 3) rfl rfl rfl ?_
        refine z_nne 112 rfl rfl (by omega) (by omega) (fun hc109 => ?_) (fun hc109 => ?_)
        · refine z_aload 156 rfl rfl rfl ?_
          refine z_iload 157 rfl rfl rfl ?_
          refine z_zlt 160 rfl rfl (by omega) (fun h9 => absurd h9 (by omega)) (fun _ => ?_)
          refine z_iload 161 rfl rfl rfl ?_
          refine z_aload 162 rfl rfl rfl ?_
          refine z_alen 163 rfl rfl (by first | exact hr.1 | exact hr2 | exact hr3 | exact hfo2 | exact hfo3 | exact hv3 | exact hv | exact hpo | exact hw3.1 | exact hr4 | exact hfo4 | fail "lk") (by decide) ?_
          refine z_nge 166 rfl rfl (by omega) (by omega) (fun h9 => absurd h9 (by omega)) (fun _ => ?_)
          refine z_aload 167 rfl rfl rfl ?_
          refine z_iload 168 rfl rfl rfl ?_
          refine z_ald 169 rfl rfl (by first | exact hr.1 | exact hr2 | exact hr3 | exact hfo2 | exact hfo3 | exact hv3 | exact hv | exact hpo | exact hw3.1 | exact hr4 | exact hfo4 | fail "lk") rfl (by omega) (by omega) ?_
          refine z_goto rfl ?_
          refine z_aload 175 rfl rfl rfl ?_
          refine z_cv2 178 rfl rfl (by first | exact hr.1 | exact hr2 | exact hr3 | exact hfo2 | exact hfo3 | exact hv3 | exact hv | exact hpo | exact hw3.1 | exact hr4 | exact hfo4 | fail "lk") rfl (Nat.le_refl _) (Nat.le_refl _) ?_
          rw [show f a = nI (bs.getD 0 0) from hf 0 (by omega)]
          refine c_passOver (b := bs.getD 0 0) ⟨hr3, hA3⟩ hR3 hw3 hru hrs (hb 0) hn hl (by omega) (by omega) (fun h5 hr5 hw5 hF5 => ?_)
          refine z_ireti rfl (Nat.le_refl _) (Nat.le_refl _) ?_
          have e9 : rd1 K E H rule rs last st pn bs = (if rule = 0 then (0, st, pn, [], 1) else (1, st, 4, puR rule rs (bs.getD 0 0), 1)) := by rw [rd1, if_neg (fun h9 => hc55 h9.1), if_neg hc78, if_neg hc109]; rfl
          by_cases hr0 : rule = 0
          · rw [if_pos hr0] at e9
            rw [e9, show rI (0, st, pn, ([] : List Nat), 1) = -9 from if_pos ⟨rfl, rfl⟩, show pnR (0, st, pn, ([] : List Nat), 1) = 4 from if_pos ⟨rfl, rfl⟩] at q
            rw [if_pos hr0]
            rw [puR, if_neg (by omega), if_neg (by omega)] at hw5
            exact q h5 hr5 hw5 (hF3.trans (hF5.mono (fun x hx => by simp only [nin] at hx; exact ⟨by omega, by omega, trivial⟩)))
          · rw [if_neg hr0] at e9
            rw [e9, show rI (1, st, 4, puR rule rs (bs.getD 0 0), 1) = nI 1 from if_neg (fun h9 => absurd (show (1 : Nat) = 0 from h9.1) (by decide)), show pnR (1, st, 4, puR rule rs (bs.getD 0 0), 1) = 4 from if_neg (fun h9 => absurd (show (1 : Nat) = 0 from h9.1) (by decide))] at q
            rw [if_neg hr0]
            exact q h5 hr5 hw5 (hF3.trans (hF5.mono (fun x hx => by simp only [nin] at hx; exact ⟨by omega, by omega, trivial⟩)))
        · obtain ⟨hl2e, hg2e, hs2e⟩ := hx3 hc109
          have hlc := lk_c (K := K) (st := st) hc109
          have hpn4 : pn = 4 := hlc.2
          subst hs2e hg2e
          refine z_aload 113 rfl rfl rfl ?_
          refine z_get 116 rfl rfl (by first | exact hr.1 | exact hr2 | exact hr3 | exact hfo2 | exact hfo3 | exact hv3 | exact hv | exact hpo | exact hw3.1 | exact hr4 | exact hfo4 | fail "lk") rfl ?_
          refine z_get 119 rfl rfl (by first | exact hr.1 | exact hr2 | exact hr3 | exact hfo2 | exact hfo3 | exact hv3 | exact hv | exact hpo | exact hw3.1 | exact hr4 | exact hfo4 | fail "lk") rfl ?_
          first | refine z_beq 122 rfl rfl (fun hc119 => ?_) (fun hc119 => ?_)
          · refine z_aload 137 rfl rfl rfl ?_
            refine z_aload 138 rfl rfl rfl ?_
            refine z_get 141 rfl rfl (by first | exact hr.1 | exact hr2 | exact hr3 | exact hfo2 | exact hfo3 | exact hv3 | exact hv | exact hpo | exact hw3.1 | exact hr4 | exact hfo4 | fail "lk") rfl ?_
            refine z_get 144 rfl rfl (by first | exact hr.1 | exact hr2 | exact hr3 | exact hfo2 | exact hfo3 | exact hv3 | exact hv | exact hpo | exact hw3.1 | exact hr4 | exact hfo4 | fail "lk") rfl ?_
            refine z_put 147 rfl rfl (by first | exact hr.1 | exact hr2 | exact hr3 | exact hfo2 | exact hfo3 | exact hv3 | exact hv | exact hpo | exact hw3.1 | exact hr4 | exact hfo4 | fail "lk") rfl (mFi rfl) ?_
            obtain ⟨h4, hhh4⟩ : ∃ h9 : mH, h9 = mSet h3 a0 (oRd R (a0 + 1) p rule st (shG H (lk K E H st pn bs).2.1) mal) := ⟨_, rfl⟩
            refine z_gen h4 hhh4.symm ?_
            have hr4 : h4.2 a0 = oRd R (a0 + 1) p rule st (shG H (lk K E H st pn bs).2.1) mal := by rw [hhh4]; exact mg_eq _ _ _
            have kh4 : ∀ x, x ≠ a0 → h4.2 x = h3.2 x := fun x hx => by rw [hhh4]; exact mg_ne hx rfl
            have zh4 : h4.1 = h3.1 := by rw [hhh4]; rfl
            have hfo4 : h4.2 (a0 + 1) = _ := (kh4 _ (by omega)).trans hfo3
            refine z_aload 148 rfl rfl rfl ?_
            refine z_get 151 rfl rfl (by first | exact hr.1 | exact hr2 | exact hr3 | exact hfo2 | exact hfo3 | exact hv3 | exact hv | exact hpo | exact hw3.1 | exact hr4 | exact hfo4 | fail "lk") rfl ?_
            refine z_get 154 rfl rfl (by first | exact hr.1 | exact hr2 | exact hr3 | exact hfo2 | exact hfo3 | exact hv3 | exact hv | exact hpo | exact hw3.1 | exact hr4 | exact hfo4 | fail "lk") rfl ?_
            refine z_ireti rfl (Nat.le_refl _) (Nat.le_refl _) ?_
            have hsk := hc119
            have e9 : rd1 K E H rule rs last st pn bs = (1, st, shG H (lk K E H st pn bs).2.1, [], 0) := by rw [rd1, if_neg (fun h9 => hc55 h9.1), if_neg hc78, if_pos hc109, if_neg (by rw [hsk]; decide)]
            rw [e9] at q
            rw [show rI (1, st, shG H (lk K E H st pn bs).2.1, [], 0) = nI 1 from if_neg (fun h9 => absurd (show (1 : Nat) = 0 from h9.1) (by decide)), show pnR (1, st, shG H (lk K E H st pn bs).2.1, [], 0) = shG H (lk K E H st pn bs).2.1 from if_neg (fun h9 => absurd (show (1 : Nat) = 0 from h9.1) (by decide)), List.append_nil] at q
            rw [hl2e]
            exact q h4 ⟨hr4, hA3.e (kh4 _ (by omega))⟩ (hw3.e (fun x x1 x2 => kh4 x (by omega))) ⟨zh4.trans hF3.1, fun x hx => (kh4 x (by simp only [nin] at hx; omega)).trans (hF3.2 x hx)⟩
          · refine z_aload 123 rfl rfl rfl ?_
            refine z_aload 124 rfl rfl rfl ?_
            refine z_get 127 rfl rfl (by first | exact hr.1 | exact hr2 | exact hr3 | exact hfo2 | exact hfo3 | exact hv3 | exact hv | exact hpo | exact hw3.1 | exact hr4 | exact hfo4 | fail "lk") rfl ?_
            refine z_get 130 rfl rfl (by first | exact hr.1 | exact hr2 | exact hr3 | exact hfo2 | exact hfo3 | exact hv3 | exact hv | exact hpo | exact hw3.1 | exact hr4 | exact hfo4 | fail "lk") rfl ?_
            refine z_put 133 rfl rfl (by first | exact hr.1 | exact hr2 | exact hr3 | exact hfo2 | exact hfo3 | exact hv3 | exact hv | exact hpo | exact hw3.1 | exact hr4 | exact hfo4 | fail "lk") rfl (mFi rfl) ?_
            refine z_goto rfl ?_
            obtain ⟨h4, hhh4⟩ : ∃ h9 : mH, h9 = mSet h3 a0 (oRd R (a0 + 1) p rule (shG H (lk K E H st pn bs).2.1) 4 mal) := ⟨_, rfl⟩
            refine z_gen h4 hhh4.symm ?_
            have hr4 : h4.2 a0 = oRd R (a0 + 1) p rule (shG H (lk K E H st pn bs).2.1) 4 mal := by rw [hhh4]; exact mg_eq _ _ _
            have kh4 : ∀ x, x ≠ a0 → h4.2 x = h3.2 x := fun x hx => by rw [hhh4]; exact mg_ne hx rfl
            have zh4 : h4.1 = h3.1 := by rw [hhh4]; rfl
            have hfo4 : h4.2 (a0 + 1) = _ := (kh4 _ (by omega)).trans hfo3
            refine z_aload 148 rfl rfl rfl ?_
            refine z_get 151 rfl rfl (by first | exact hr.1 | exact hr2 | exact hr3 | exact hfo2 | exact hfo3 | exact hv3 | exact hv | exact hpo | exact hw3.1 | exact hr4 | exact hfo4 | fail "lk") rfl ?_
            refine z_get 154 rfl rfl (by first | exact hr.1 | exact hr2 | exact hr3 | exact hfo2 | exact hfo3 | exact hv3 | exact hv | exact hpo | exact hw3.1 | exact hr4 | exact hfo4 | fail "lk") rfl ?_
            refine z_ireti rfl (Nat.le_refl _) (Nat.le_refl _) ?_
            have hsk := hc119
            have e9 : rd1 K E H rule rs last st pn bs = (1, shG H (lk K E H st pn bs).2.1, pn, [], 0) := by rw [rd1, if_neg (fun h9 => hc55 h9.1), if_neg hc78, if_pos hc109, if_pos hsk]
            rw [e9] at q
            rw [show rI (1, shG H (lk K E H st pn bs).2.1, pn, [], 0) = nI 1 from if_neg (fun h9 => absurd (show (1 : Nat) = 0 from h9.1) (by decide)), show pnR (1, shG H (lk K E H st pn bs).2.1, pn, [], 0) = pn from if_neg (fun h9 => absurd (show (1 : Nat) = 0 from h9.1) (by decide)), List.append_nil] at q
            have hr4 : h4.2 a0 = oRd R (a0 + 1) p rule (shG H (lk K E H st pn bs).2.1) pn mal := hr4.trans (oRd_pn hpn4)
            rw [hl2e]
            exact q h4 ⟨hr4, hA3.e (kh4 _ (by omega))⟩ (hw3.e (fun x x1 x2 => kh4 x (by omega))) ⟨zh4.trans hF3.1, fun x hx => (kh4 x (by simp only [nin] at hx; omega)).trans (hF3.2 x hx)⟩
      · refine z_aload 83 rfl rfl rfl ?_
        refine z_aload 84 rfl rfl rfl ?_
        refine z_get 87 rfl rfl (by first | exact hr.1 | exact hr2 | exact hr3 | exact hfo2 | exact hfo3 | exact hv3 | exact hv | exact hpo | exact hw3.1 | exact hr4 | exact hfo4 | fail "lk") rfl ?_
        refine z_get 90 rfl rfl (by first | exact hr.1 | exact hr2 | exact hr3 | exact hfo2 | exact hfo3 | exact hv3 | exact hv | exact hpo | exact hw3.1 | exact hr4 | exact hfo4 | fail "lk") rfl ?_
        refine z_cv1 93 rfl rfl (by first | exact hr.1 | exact hr2 | exact hr3 | exact hfo2 | exact hfo3 | exact hv3 | exact hv | exact hpo | exact hw3.1 | exact hr4 | exact hfo4 | fail "lk") rfl (Nat.le_refl _) (Nat.le_refl _) ?_
        rw [(hx2 hc78).2]
        have hlb := lk_b (K := K) (st := st) (pn := pn) hW hb hl1 hc78
        refine w_addPoint hw3 hn hlb.2.2 hl (fun h4 hw4 hF4 => ?_)
        have hfo4 : h4.2 (a0 + 1) = oFound (nI (lk K E H st pn bs).1) l2 p2 g2 s2 := (hF4.2 _ (by omega)).trans hfo3
        have hr4 : h4.2 a0 = oRd R (a0 + 1) p rule st 4 mal := (hF4.2 a0 (by omega)).trans hr3
        refine z_aload 94 rfl rfl rfl ?_
        refine z_get 97 rfl rfl (by first | exact hr.1 | exact hr2 | exact hr3 | exact hfo2 | exact hfo3 | exact hv3 | exact hv | exact hpo | exact hw3.1 | exact hr4 | exact hfo4 | fail "lk") rfl ?_
        refine z_get 100 rfl rfl (by first | exact hr.1 | exact hr2 | exact hr3 | exact hfo2 | exact hfo3 | exact hv3 | exact hv | exact hpo | exact hw3.1 | exact hr4 | exact hfo4 | fail "lk") rfl ?_
        refine z_ireti rfl (Nat.le_refl _) (Nat.le_refl _) ?_
        have e9 : rd1 K E H rule rs last st pn bs = ((lk K E H st pn bs).2.1, st, 4, puU (lk K E H st pn bs).2.2, 0) := by rw [rd1, if_neg (fun h9 => hc55 h9.1), if_pos hc78]
        rw [e9] at q
        rw [show rI ((lk K E H st pn bs).2.1, st, 4, puU (lk K E H st pn bs).2.2, 0) = nI (lk K E H st pn bs).2.1 from if_neg (fun h9 => absurd (show (0 : Nat) = 1 from h9.2) (by decide)), show pnR ((lk K E H st pn bs).2.1, st, 4, puU (lk K E H st pn bs).2.2, 0) = 4 from if_neg (fun h9 => absurd (show (0 : Nat) = 1 from h9.2) (by decide))] at q
        rw [(hx2 hc78).1]
        exact q h4 ⟨(hF4.2 a0 (by omega)).trans hr3, hA3.e (hF4.2 _ (by omega))⟩ hw4 (hF3.trans (hF4.toL (fun x hx => by simp only [nin] at hx; omega)))
    · refine z_iload 60 rfl rfl rfl ?_
      first | refine z_bne 63 rfl rfl (fun hc60 => ?_) (fun hc60 => ?_)
      · refine z_aload 66 rfl rfl rfl ?_
        refine z_push 67 (nI 4) rfl rfl rfl ?_
        refine z_put 70 rfl rfl (by first | exact hr.1 | exact hr2 | exact hr3 | exact hfo2 | exact hfo3 | exact hv3 | exact hv | exact hpo | exact hw3.1 | exact hr4 | exact hfo4 | fail "lk") rfl (mFi rfl) ?_
        obtain ⟨h3, hhh3⟩ : ∃ h9 : mH, h9 = mSet h2 a0 (oRd R (a0 + 1) p rule st 4 mal) := ⟨_, rfl⟩
        refine z_gen h3 hhh3.symm ?_
        have hr3 : h3.2 a0 = oRd R (a0 + 1) p rule st 4 mal := by rw [hhh3]; exact mg_eq _ _ _
        have kh3 : ∀ x, x ≠ a0 → h3.2 x = h2.2 x := fun x hx => by rw [hhh3]; exact mg_ne hx rfl
        have zh3 : h3.1 = h2.1 := by rw [hhh3]; rfl
        have hfo3 : h3.2 (a0 + 1) = oFound (nI (lk K E H st pn bs).1) l2 p2 g2 s2 := (kh3 _ (by omega)).trans hfo2
        have hv3 : h3.2 v = aI n9 f := (kh3 v (by omega)).trans hv2
        have hR3 : h3.2 R = oRu R rs ws cnt := (kh3 R (by omega)).trans hR2
        have hw3 : RwAt h3 o n l := hw2.e (fun x x1 x2 => kh3 x (by omega))
        have hF3 : FrL [(a0, a0 + 2), (o, o + 2)] h h3 := ⟨zh3.trans hF.1, fun x hx => by simp only [nin] at hx; exact (kh3 x (by omega)).trans (hF.2 x (by omega))⟩
        have hA3 : FdA h3 (a0 + 1) := ⟨_, _, _, _, _, hfo3, hs2⟩
        refine z_aload 71 rfl rfl rfl ?_
        refine z_get 74 rfl rfl (by first | exact hr.1 | exact hr2 | exact hr3 | exact hfo2 | exact hfo3 | exact hv3 | exact hv | exact hpo | exact hw3.1 | exact hr4 | exact hfo4 | fail "lk") rfl ?_
        refine z_get 77 rfl rfl (by first | exact hr.1 | exact hr2 | exact hr3 | exact hfo2 | exact hfo3 | exact hv3 | exact hv | exact hpo | exact hw3.1 | exact hr4 | exact hfo4 | fail "lk") rfl ?_
        refine z_push 78 (nI 2) rfl rfl rfl ?_
        refine z_nne 81 rfl rfl (by omega) (by omega) (fun hc78 => ?_) (fun hc78 => ?_)
        · refine z_aload 102 rfl rfl rfl ?_
          refine z_get 105 rfl rfl (by first | exact hr.1 | exact hr2 | exact hr3 | exact hfo2 | exact hfo3 | exact hv3 | exact hv | exact hpo | exact hw3.1 | exact hr4 | exact hfo4 | fail "lk") rfl ?_
          refine z_get 108 rfl rfl (by first | exact hr.1 | exact hr2 | exact hr3 | exact hfo2 | exact hfo3 | exact hv3 | exact hv | exact hpo | exact hw3.1 | exact hr4 | exact hfo4 | fail "lk") rfl ?_
          refine z_push 109 (nI 3) rfl rfl rfl ?_
          refine z_nne 112 rfl rfl (by omega) (by omega) (fun hc109 => ?_) (fun hc109 => ?_)
          · refine z_aload 156 rfl rfl rfl ?_
            refine z_iload 157 rfl rfl rfl ?_
            refine z_zlt 160 rfl rfl (by omega) (fun h9 => absurd h9 (by omega)) (fun _ => ?_)
            refine z_iload 161 rfl rfl rfl ?_
            refine z_aload 162 rfl rfl rfl ?_
            refine z_alen 163 rfl rfl (by first | exact hr.1 | exact hr2 | exact hr3 | exact hfo2 | exact hfo3 | exact hv3 | exact hv | exact hpo | exact hw3.1 | exact hr4 | exact hfo4 | fail "lk") (by decide) ?_
            refine z_nge 166 rfl rfl (by omega) (by omega) (fun h9 => absurd h9 (by omega)) (fun _ => ?_)
            refine z_aload 167 rfl rfl rfl ?_
            refine z_iload 168 rfl rfl rfl ?_
            refine z_ald 169 rfl rfl (by first | exact hr.1 | exact hr2 | exact hr3 | exact hfo2 | exact hfo3 | exact hv3 | exact hv | exact hpo | exact hw3.1 | exact hr4 | exact hfo4 | fail "lk") rfl (by omega) (by omega) ?_
            refine z_goto rfl ?_
            refine z_aload 175 rfl rfl rfl ?_
            refine z_cv2 178 rfl rfl (by first | exact hr.1 | exact hr2 | exact hr3 | exact hfo2 | exact hfo3 | exact hv3 | exact hv | exact hpo | exact hw3.1 | exact hr4 | exact hfo4 | fail "lk") rfl (Nat.le_refl _) (Nat.le_refl _) ?_
            rw [show f a = nI (bs.getD 0 0) from hf 0 (by omega)]
            refine c_passOver (b := bs.getD 0 0) ⟨hr3, hA3⟩ hR3 hw3 hru hrs (hb 0) hn hl (by omega) (by omega) (fun h5 hr5 hw5 hF5 => ?_)
            refine z_ireti rfl (Nat.le_refl _) (Nat.le_refl _) ?_
            have e9 : rd1 K E H rule rs last st pn bs = (if rule = 0 then (0, st, pn, [], 1) else (1, st, 4, puR rule rs (bs.getD 0 0), 1)) := by rw [rd1, if_neg (fun h9 => by rw [hc60] at h9; exact absurd h9.2 (by decide)), if_neg hc78, if_neg hc109]; rfl
            by_cases hr0 : rule = 0
            · rw [if_pos hr0] at e9
              rw [e9, show rI (0, st, pn, ([] : List Nat), 1) = -9 from if_pos ⟨rfl, rfl⟩, show pnR (0, st, pn, ([] : List Nat), 1) = 4 from if_pos ⟨rfl, rfl⟩] at q
              rw [if_pos hr0]
              rw [puR, if_neg (by omega), if_neg (by omega)] at hw5
              exact q h5 hr5 hw5 (hF3.trans (hF5.mono (fun x hx => by simp only [nin] at hx; exact ⟨by omega, by omega, trivial⟩)))
            · rw [if_neg hr0] at e9
              rw [e9, show rI (1, st, 4, puR rule rs (bs.getD 0 0), 1) = nI 1 from if_neg (fun h9 => absurd (show (1 : Nat) = 0 from h9.1) (by decide)), show pnR (1, st, 4, puR rule rs (bs.getD 0 0), 1) = 4 from if_neg (fun h9 => absurd (show (1 : Nat) = 0 from h9.1) (by decide))] at q
              rw [if_neg hr0]
              exact q h5 hr5 hw5 (hF3.trans (hF5.mono (fun x hx => by simp only [nin] at hx; exact ⟨by omega, by omega, trivial⟩)))
          · obtain ⟨hl2e, hg2e, hs2e⟩ := hx3 hc109
            have hlc := lk_c (K := K) (st := st) hc109
            have hpn4 : pn = 4 := hlc.2
            subst hs2e hg2e
            refine z_aload 113 rfl rfl rfl ?_
            refine z_get 116 rfl rfl (by first | exact hr.1 | exact hr2 | exact hr3 | exact hfo2 | exact hfo3 | exact hv3 | exact hv | exact hpo | exact hw3.1 | exact hr4 | exact hfo4 | fail "lk") rfl ?_
            refine z_get 119 rfl rfl (by first | exact hr.1 | exact hr2 | exact hr3 | exact hfo2 | exact hfo3 | exact hv3 | exact hv | exact hpo | exact hw3.1 | exact hr4 | exact hfo4 | fail "lk") rfl ?_
            first | refine z_beq 122 rfl rfl (fun hc119 => ?_) (fun hc119 => ?_)
            · refine z_aload 137 rfl rfl rfl ?_
              refine z_aload 138 rfl rfl rfl ?_
              refine z_get 141 rfl rfl (by first | exact hr.1 | exact hr2 | exact hr3 | exact hfo2 | exact hfo3 | exact hv3 | exact hv | exact hpo | exact hw3.1 | exact hr4 | exact hfo4 | fail "lk") rfl ?_
              refine z_get 144 rfl rfl (by first | exact hr.1 | exact hr2 | exact hr3 | exact hfo2 | exact hfo3 | exact hv3 | exact hv | exact hpo | exact hw3.1 | exact hr4 | exact hfo4 | fail "lk") rfl ?_
              refine z_put 147 rfl rfl (by first | exact hr.1 | exact hr2 | exact hr3 | exact hfo2 | exact hfo3 | exact hv3 | exact hv | exact hpo | exact hw3.1 | exact hr4 | exact hfo4 | fail "lk") rfl (mFi rfl) ?_
              obtain ⟨h4, hhh4⟩ : ∃ h9 : mH, h9 = mSet h3 a0 (oRd R (a0 + 1) p rule st (shG H (lk K E H st pn bs).2.1) mal) := ⟨_, rfl⟩
              refine z_gen h4 hhh4.symm ?_
              have hr4 : h4.2 a0 = oRd R (a0 + 1) p rule st (shG H (lk K E H st pn bs).2.1) mal := by rw [hhh4]; exact mg_eq _ _ _
              have kh4 : ∀ x, x ≠ a0 → h4.2 x = h3.2 x := fun x hx => by rw [hhh4]; exact mg_ne hx rfl
              have zh4 : h4.1 = h3.1 := by rw [hhh4]; rfl
              have hfo4 : h4.2 (a0 + 1) = _ := (kh4 _ (by omega)).trans hfo3
              refine z_aload 148 rfl rfl rfl ?_
              refine z_get 151 rfl rfl (by first | exact hr.1 | exact hr2 | exact hr3 | exact hfo2 | exact hfo3 | exact hv3 | exact hv | exact hpo | exact hw3.1 | exact hr4 | exact hfo4 | fail "lk") rfl ?_
              refine z_get 154 rfl rfl (by first | exact hr.1 | exact hr2 | exact hr3 | exact hfo2 | exact hfo3 | exact hv3 | exact hv | exact hpo | exact hw3.1 | exact hr4 | exact hfo4 | fail "lk") rfl ?_
              refine z_ireti rfl (Nat.le_refl _) (Nat.le_refl _) ?_
              have hsk := hc119
              have e9 : rd1 K E H rule rs last st pn bs = (1, st, shG H (lk K E H st pn bs).2.1, [], 0) := by rw [rd1, if_neg (fun h9 => by rw [hc60] at h9; exact absurd h9.2 (by decide)), if_neg hc78, if_pos hc109, if_neg (by rw [hsk]; decide)]
              rw [e9] at q
              rw [show rI (1, st, shG H (lk K E H st pn bs).2.1, [], 0) = nI 1 from if_neg (fun h9 => absurd (show (1 : Nat) = 0 from h9.1) (by decide)), show pnR (1, st, shG H (lk K E H st pn bs).2.1, [], 0) = shG H (lk K E H st pn bs).2.1 from if_neg (fun h9 => absurd (show (1 : Nat) = 0 from h9.1) (by decide)), List.append_nil] at q
              rw [hl2e]
              exact q h4 ⟨hr4, hA3.e (kh4 _ (by omega))⟩ (hw3.e (fun x x1 x2 => kh4 x (by omega))) ⟨zh4.trans hF3.1, fun x hx => (kh4 x (by simp only [nin] at hx; omega)).trans (hF3.2 x hx)⟩
            · refine z_aload 123 rfl rfl rfl ?_
              refine z_aload 124 rfl rfl rfl ?_
              refine z_get 127 rfl rfl (by first | exact hr.1 | exact hr2 | exact hr3 | exact hfo2 | exact hfo3 | exact hv3 | exact hv | exact hpo | exact hw3.1 | exact hr4 | exact hfo4 | fail "lk") rfl ?_
              refine z_get 130 rfl rfl (by first | exact hr.1 | exact hr2 | exact hr3 | exact hfo2 | exact hfo3 | exact hv3 | exact hv | exact hpo | exact hw3.1 | exact hr4 | exact hfo4 | fail "lk") rfl ?_
              refine z_put 133 rfl rfl (by first | exact hr.1 | exact hr2 | exact hr3 | exact hfo2 | exact hfo3 | exact hv3 | exact hv | exact hpo | exact hw3.1 | exact hr4 | exact hfo4 | fail "lk") rfl (mFi rfl) ?_
              refine z_goto rfl ?_
              obtain ⟨h4, hhh4⟩ : ∃ h9 : mH, h9 = mSet h3 a0 (oRd R (a0 + 1) p rule (shG H (lk K E H st pn bs).2.1) 4 mal) := ⟨_, rfl⟩
              refine z_gen h4 hhh4.symm ?_
              have hr4 : h4.2 a0 = oRd R (a0 + 1) p rule (shG H (lk K E H st pn bs).2.1) 4 mal := by rw [hhh4]; exact mg_eq _ _ _
              have kh4 : ∀ x, x ≠ a0 → h4.2 x = h3.2 x := fun x hx => by rw [hhh4]; exact mg_ne hx rfl
              have zh4 : h4.1 = h3.1 := by rw [hhh4]; rfl
              have hfo4 : h4.2 (a0 + 1) = _ := (kh4 _ (by omega)).trans hfo3
              refine z_aload 148 rfl rfl rfl ?_
              refine z_get 151 rfl rfl (by first | exact hr.1 | exact hr2 | exact hr3 | exact hfo2 | exact hfo3 | exact hv3 | exact hv | exact hpo | exact hw3.1 | exact hr4 | exact hfo4 | fail "lk") rfl ?_
              refine z_get 154 rfl rfl (by first | exact hr.1 | exact hr2 | exact hr3 | exact hfo2 | exact hfo3 | exact hv3 | exact hv | exact hpo | exact hw3.1 | exact hr4 | exact hfo4 | fail "lk") rfl ?_
              refine z_ireti rfl (Nat.le_refl _) (Nat.le_refl _) ?_
              have hsk := hc119
              have e9 : rd1 K E H rule rs last st pn bs = (1, shG H (lk K E H st pn bs).2.1, pn, [], 0) := by rw [rd1, if_neg (fun h9 => by rw [hc60] at h9; exact absurd h9.2 (by decide)), if_neg hc78, if_pos hc109, if_pos hsk]
              rw [e9] at q
              rw [show rI (1, shG H (lk K E H st pn bs).2.1, pn, [], 0) = nI 1 from if_neg (fun h9 => absurd (show (1 : Nat) = 0 from h9.1) (by decide)), show pnR (1, shG H (lk K E H st pn bs).2.1, pn, [], 0) = pn from if_neg (fun h9 => absurd (show (1 : Nat) = 0 from h9.1) (by decide)), List.append_nil] at q
              have hr4 : h4.2 a0 = oRd R (a0 + 1) p rule (shG H (lk K E H st pn bs).2.1) pn mal := hr4.trans (oRd_pn hpn4)
              rw [hl2e]
              exact q h4 ⟨hr4, hA3.e (kh4 _ (by omega))⟩ (hw3.e (fun x x1 x2 => kh4 x (by omega))) ⟨zh4.trans hF3.1, fun x hx => (kh4 x (by simp only [nin] at hx; omega)).trans (hF3.2 x hx)⟩
        · refine z_aload 83 rfl rfl rfl ?_
          refine z_aload 84 rfl rfl rfl ?_
          refine z_get 87 rfl rfl (by first | exact hr.1 | exact hr2 | exact hr3 | exact hfo2 | exact hfo3 | exact hv3 | exact hv | exact hpo | exact hw3.1 | exact hr4 | exact hfo4 | fail "lk") rfl ?_
          refine z_get 90 rfl rfl (by first | exact hr.1 | exact hr2 | exact hr3 | exact hfo2 | exact hfo3 | exact hv3 | exact hv | exact hpo | exact hw3.1 | exact hr4 | exact hfo4 | fail "lk") rfl ?_
          refine z_cv1 93 rfl rfl (by first | exact hr.1 | exact hr2 | exact hr3 | exact hfo2 | exact hfo3 | exact hv3 | exact hv | exact hpo | exact hw3.1 | exact hr4 | exact hfo4 | fail "lk") rfl (Nat.le_refl _) (Nat.le_refl _) ?_
          rw [(hx2 hc78).2]
          have hlb := lk_b (K := K) (st := st) (pn := pn) hW hb hl1 hc78
          refine w_addPoint hw3 hn hlb.2.2 hl (fun h4 hw4 hF4 => ?_)
          have hfo4 : h4.2 (a0 + 1) = oFound (nI (lk K E H st pn bs).1) l2 p2 g2 s2 := (hF4.2 _ (by omega)).trans hfo3
          have hr4 : h4.2 a0 = oRd R (a0 + 1) p rule st 4 mal := (hF4.2 a0 (by omega)).trans hr3
          refine z_aload 94 rfl rfl rfl ?_
          refine z_get 97 rfl rfl (by first | exact hr.1 | exact hr2 | exact hr3 | exact hfo2 | exact hfo3 | exact hv3 | exact hv | exact hpo | exact hw3.1 | exact hr4 | exact hfo4 | fail "lk") rfl ?_
          refine z_get 100 rfl rfl (by first | exact hr.1 | exact hr2 | exact hr3 | exact hfo2 | exact hfo3 | exact hv3 | exact hv | exact hpo | exact hw3.1 | exact hr4 | exact hfo4 | fail "lk") rfl ?_
          refine z_ireti rfl (Nat.le_refl _) (Nat.le_refl _) ?_
          have e9 : rd1 K E H rule rs last st pn bs = ((lk K E H st pn bs).2.1, st, 4, puU (lk K E H st pn bs).2.2, 0) := by rw [rd1, if_neg (fun h9 => by rw [hc60] at h9; exact absurd h9.2 (by decide)), if_pos hc78]
          rw [e9] at q
          rw [show rI ((lk K E H st pn bs).2.1, st, 4, puU (lk K E H st pn bs).2.2, 0) = nI (lk K E H st pn bs).2.1 from if_neg (fun h9 => absurd (show (0 : Nat) = 1 from h9.2) (by decide)), show pnR ((lk K E H st pn bs).2.1, st, 4, puU (lk K E H st pn bs).2.2, 0) = 4 from if_neg (fun h9 => absurd (show (0 : Nat) = 1 from h9.2) (by decide))] at q
          rw [(hx2 hc78).1]
          exact q h4 ⟨(hF4.2 a0 (by omega)).trans hr3, hA3.e (hF4.2 _ (by omega))⟩ hw4 (hF3.trans (hF4.toL (fun x hx => by simp only [nin] at hx; omega)))
      · refine z_push 64 (nI 0) rfl rfl rfl ?_
        refine z_ireti rfl (Nat.le_refl _) (Nat.le_refl _) ?_
        have e9 : rd1 K E H rule rs last st pn bs = (0, st, pn, [], 0) := by rw [rd1, if_pos ⟨hc55, hc60⟩]
        rw [e9] at q
        rw [List.append_nil] at q
        exact q h2 ⟨hr2, hd2.A⟩ hw2 ⟨hF.1, fun x hx => by simp only [nin] at hx; exact hF.2 x (by omega)⟩
  · refine z_push 9 (nI 1) rfl rfl rfl ?_
    refine z_goto rfl ?_
    refine z_istore 15 rfl rfl rfl rfl ?_
    refine z_aload 16 rfl rfl rfl ?_
    refine z_get 19 rfl rfl (by first | exact hr.1 | exact hr2 | exact hr3 | exact hfo2 | exact hfo3 | exact hv3 | exact hv | exact hpo | exact hw3.1 | exact hr4 | exact hfo4 | fail "lk") rfl ?_
    refine z_iload 21 rfl rfl rfl ?_
    refine z_zeq 24 rfl rfl (by omega) (fun h9 => absurd h9 (by omega)) (fun _ => ?_)
    refine z_aload 25 rfl rfl rfl ?_
    refine z_get 28 rfl rfl (by first | exact hr.1 | exact hr2 | exact hr3 | exact hfo2 | exact hfo3 | exact hv3 | exact hv | exact hpo | exact hw3.1 | exact hr4 | exact hfo4 | fail "lk") rfl ?_
    refine z_goto rfl ?_
    refine z_iload 37 rfl rfl rfl ?_
    refine z_aload 38 rfl rfl rfl ?_
    refine z_iload 39 rfl rfl rfl ?_
    refine z_iload 40 rfl rfl rfl ?_
    refine z_aload 41 rfl rfl rfl ?_
    refine z_get 44 rfl rfl (by first | exact hr.1 | exact hr2 | exact hr3 | exact hfo2 | exact hfo3 | exact hv3 | exact hv | exact hpo | exact hw3.1 | exact hr4 | exact hfo4 | fail "lk") rfl ?_
    refine z_cv6 47 rfl rfl (by first | exact hr.1 | exact hr2 | exact hr3 | exact hfo2 | exact hfo3 | exact hv3 | exact hv | exact hpo | exact hw3.1 | exact hr4 | exact hfo4 | fail "lk") rfl (Nat.le_refl _) (Nat.le_refl _) ?_
    refine c_find (K := K) (free := true) hP hW hst4 hv hn9 hst hl1 hf hb hfo hsf hfp (by omega) (fun h2 hd2 hF => ?_)
    have hd2 : Fd9 h2 (a0 + 1) (lk K E H st pn bs) H := by
      have e9 : lk K E H st pn bs = lkD K E H st true bs := by unfold lk lkD; rw [hc5, if_pos rfl, decide_eq_true rfl]
      rw [e9]; exact hd2
    have hr2 : h2.2 a0 = oRd R (a0 + 1) p rule st pn mal := (hF.2 a0 (by omega)).trans hr.1
    have hv2 : h2.2 v = aI n9 f := (hF.2 v (by omega)).trans hv
    have hR2 : h2.2 R = oRu R rs ws cnt := (hF.2 R (by omega)).trans hR
    have hw2 := hw.e (hF.eqv (by omega))
    obtain ⟨l2, p2, g2, s2, hfo2, hs2, hx2, hx3⟩ := id hd2
    have hX4 := lk_4 K st pn E H bs
    refine z_aload 48 rfl rfl rfl ?_
    refine z_get 51 rfl rfl (by first | exact hr.1 | exact hr2 | exact hr3 | exact hfo2 | exact hfo3 | exact hv3 | exact hv | exact hpo | exact hw3.1 | exact hr4 | exact hfo4 | fail "lk") rfl ?_
    refine z_get 54 rfl rfl (by first | exact hr.1 | exact hr2 | exact hr3 | exact hfo2 | exact hfo3 | exact hv3 | exact hv | exact hpo | exact hw3.1 | exact hr4 | exact hfo4 | fail "lk") rfl ?_
    refine z_push 55 (nI 1) rfl rfl rfl ?_
    refine z_nne 58 rfl rfl (by omega) (by omega) (fun hc55 => ?_) (fun hc55 => ?_)
    · refine z_aload 66 rfl rfl rfl ?_
      refine z_push 67 (nI 4) rfl rfl rfl ?_
      refine z_put 70 rfl rfl (by first | exact hr.1 | exact hr2 | exact hr3 | exact hfo2 | exact hfo3 | exact hv3 | exact hv | exact hpo | exact hw3.1 | exact hr4 | exact hfo4 | fail "lk") rfl (mFi rfl) ?_
      obtain ⟨h3, hhh3⟩ : ∃ h9 : mH, h9 = mSet h2 a0 (oRd R (a0 + 1) p rule st 4 mal) := ⟨_, rfl⟩
      refine z_gen h3 hhh3.symm ?_
      have hr3 : h3.2 a0 = oRd R (a0 + 1) p rule st 4 mal := by rw [hhh3]; exact mg_eq _ _ _
      have kh3 : ∀ x, x ≠ a0 → h3.2 x = h2.2 x := fun x hx => by rw [hhh3]; exact mg_ne hx rfl
      have zh3 : h3.1 = h2.1 := by rw [hhh3]; rfl
      have hfo3 : h3.2 (a0 + 1) = oFound (nI (lk K E H st pn bs).1) l2 p2 g2 s2 := (kh3 _ (by omega)).trans hfo2
      have hv3 : h3.2 v = aI n9 f := (kh3 v (by omega)).trans hv2
      have hR3 : h3.2 R = oRu R rs ws cnt := (kh3 R (by omega)).trans hR2
      have hw3 : RwAt h3 o n l := hw2.e (fun x x1 x2 => kh3 x (by omega))
      have hF3 : FrL [(a0, a0 + 2), (o, o + 2)] h h3 := ⟨zh3.trans hF.1, fun x hx => by simp only [nin] at hx; exact (kh3 x (by omega)).trans (hF.2 x (by omega))⟩
      have hA3 : FdA h3 (a0 + 1) := ⟨_, _, _, _, _, hfo3, hs2⟩
      refine z_aload 71 rfl rfl rfl ?_
      refine z_get 74 rfl rfl (by first | exact hr.1 | exact hr2 | exact hr3 | exact hfo2 | exact hfo3 | exact hv3 | exact hv | exact hpo | exact hw3.1 | exact hr4 | exact hfo4 | fail "lk") rfl ?_
      refine z_get 77 rfl rfl (by first | exact hr.1 | exact hr2 | exact hr3 | exact hfo2 | exact hfo3 | exact hv3 | exact hv | exact hpo | exact hw3.1 | exact hr4 | exact hfo4 | fail "lk") rfl ?_
      refine z_push 78 (nI 2) rfl rfl rfl ?_
      refine z_nne 81 rfl rfl (by omega) (by omega) (fun hc78 => ?_) (fun hc78 => ?_)
      · refine z_aload 102 rfl rfl rfl ?_
        refine z_get 105 rfl rfl (by first | exact hr.1 | exact hr2 | exact hr3 | exact hfo2 | exact hfo3 | exact hv3 | exact hv | exact hpo | exact hw3.1 | exact hr4 | exact hfo4 | fail "lk") rfl ?_
        refine z_get 108 rfl rfl (by first | exact hr.1 | exact hr2 | exact hr3 | exact hfo2 | exact hfo3 | exact hv3 | exact hv | exact hpo | exact hw3.1 | exact hr4 | exact hfo4 | fail "lk") rfl ?_
        refine z_push 109 (nI 3) rfl rfl rfl ?_
        refine z_nne 112 rfl rfl (by omega) (by omega) (fun hc109 => ?_) (fun hc109 => ?_)
        · refine z_aload 156 rfl rfl rfl ?_
          refine z_iload 157 rfl rfl rfl ?_
          refine z_zlt 160 rfl rfl (by omega) (fun h9 => absurd h9 (by omega)) (fun _ => ?_)
          refine z_iload 161 rfl rfl rfl ?_
          refine z_aload 162 rfl rfl rfl ?_
          refine z_alen 163 rfl rfl (by first | exact hr.1 | exact hr2 | exact hr3 | exact hfo2 | exact hfo3 | exact hv3 | exact hv | exact hpo | exact hw3.1 | exact hr4 | exact hfo4 | fail "lk") (by decide) ?_
          refine z_nge 166 rfl rfl (by omega) (by omega) (fun h9 => absurd h9 (by omega)) (fun _ => ?_)
          refine z_aload 167 rfl rfl rfl ?_
          refine z_iload 168 rfl rfl rfl ?_
          refine z_ald 169 rfl rfl (by first | exact hr.1 | exact hr2 | exact hr3 | exact hfo2 | exact hfo3 | exact hv3 | exact hv | exact hpo | exact hw3.1 | exact hr4 | exact hfo4 | fail "lk") rfl (by omega) (by omega) ?_
          refine z_goto rfl ?_
          refine z_aload 175 rfl rfl rfl ?_
          refine z_cv2 178 rfl rfl (by first | exact hr.1 | exact hr2 | exact hr3 | exact hfo2 | exact hfo3 | exact hv3 | exact hv | exact hpo | exact hw3.1 | exact hr4 | exact hfo4 | fail "lk") rfl (Nat.le_refl _) (Nat.le_refl _) ?_
          rw [show f a = nI (bs.getD 0 0) from hf 0 (by omega)]
          refine c_passOver (b := bs.getD 0 0) ⟨hr3, hA3⟩ hR3 hw3 hru hrs (hb 0) hn hl (by omega) (by omega) (fun h5 hr5 hw5 hF5 => ?_)
          refine z_ireti rfl (Nat.le_refl _) (Nat.le_refl _) ?_
          have e9 : rd1 K E H rule rs last st pn bs = (if rule = 0 then (0, st, pn, [], 1) else (1, st, 4, puR rule rs (bs.getD 0 0), 1)) := by rw [rd1, if_neg (fun h9 => hc55 h9.1), if_neg hc78, if_neg hc109]; rfl
          by_cases hr0 : rule = 0
          · rw [if_pos hr0] at e9
            rw [e9, show rI (0, st, pn, ([] : List Nat), 1) = -9 from if_pos ⟨rfl, rfl⟩, show pnR (0, st, pn, ([] : List Nat), 1) = 4 from if_pos ⟨rfl, rfl⟩] at q
            rw [if_pos hr0]
            rw [puR, if_neg (by omega), if_neg (by omega)] at hw5
            exact q h5 hr5 hw5 (hF3.trans (hF5.mono (fun x hx => by simp only [nin] at hx; exact ⟨by omega, by omega, trivial⟩)))
          · rw [if_neg hr0] at e9
            rw [e9, show rI (1, st, 4, puR rule rs (bs.getD 0 0), 1) = nI 1 from if_neg (fun h9 => absurd (show (1 : Nat) = 0 from h9.1) (by decide)), show pnR (1, st, 4, puR rule rs (bs.getD 0 0), 1) = 4 from if_neg (fun h9 => absurd (show (1 : Nat) = 0 from h9.1) (by decide))] at q
            rw [if_neg hr0]
            exact q h5 hr5 hw5 (hF3.trans (hF5.mono (fun x hx => by simp only [nin] at hx; exact ⟨by omega, by omega, trivial⟩)))
        · obtain ⟨hl2e, hg2e, hs2e⟩ := hx3 hc109
          have hlc := lk_c (K := K) (st := st) hc109
          have hpn4 : pn = 4 := hlc.2
          subst hs2e hg2e
          refine z_aload 113 rfl rfl rfl ?_
          refine z_get 116 rfl rfl (by first | exact hr.1 | exact hr2 | exact hr3 | exact hfo2 | exact hfo3 | exact hv3 | exact hv | exact hpo | exact hw3.1 | exact hr4 | exact hfo4 | fail "lk") rfl ?_
          refine z_get 119 rfl rfl (by first | exact hr.1 | exact hr2 | exact hr3 | exact hfo2 | exact hfo3 | exact hv3 | exact hv | exact hpo | exact hw3.1 | exact hr4 | exact hfo4 | fail "lk") rfl ?_
          first | refine z_beq 122 rfl rfl (fun hc119 => ?_) (fun hc119 => ?_)
          · refine z_aload 137 rfl rfl rfl ?_
            refine z_aload 138 rfl rfl rfl ?_
            refine z_get 141 rfl rfl (by first | exact hr.1 | exact hr2 | exact hr3 | exact hfo2 | exact hfo3 | exact hv3 | exact hv | exact hpo | exact hw3.1 | exact hr4 | exact hfo4 | fail "lk") rfl ?_
            refine z_get 144 rfl rfl (by first | exact hr.1 | exact hr2 | exact hr3 | exact hfo2 | exact hfo3 | exact hv3 | exact hv | exact hpo | exact hw3.1 | exact hr4 | exact hfo4 | fail "lk") rfl ?_
            refine z_put 147 rfl rfl (by first | exact hr.1 | exact hr2 | exact hr3 | exact hfo2 | exact hfo3 | exact hv3 | exact hv | exact hpo | exact hw3.1 | exact hr4 | exact hfo4 | fail "lk") rfl (mFi rfl) ?_
            obtain ⟨h4, hhh4⟩ : ∃ h9 : mH, h9 = mSet h3 a0 (oRd R (a0 + 1) p rule st (shG H (lk K E H st pn bs).2.1) mal) := ⟨_, rfl⟩
            refine z_gen h4 hhh4.symm ?_
            have hr4 : h4.2 a0 = oRd R (a0 + 1) p rule st (shG H (lk K E H st pn bs).2.1) mal := by rw [hhh4]; exact mg_eq _ _ _
            have kh4 : ∀ x, x ≠ a0 → h4.2 x = h3.2 x := fun x hx => by rw [hhh4]; exact mg_ne hx rfl
            have zh4 : h4.1 = h3.1 := by rw [hhh4]; rfl
            have hfo4 : h4.2 (a0 + 1) = _ := (kh4 _ (by omega)).trans hfo3
            refine z_aload 148 rfl rfl rfl ?_
            refine z_get 151 rfl rfl (by first | exact hr.1 | exact hr2 | exact hr3 | exact hfo2 | exact hfo3 | exact hv3 | exact hv | exact hpo | exact hw3.1 | exact hr4 | exact hfo4 | fail "lk") rfl ?_
            refine z_get 154 rfl rfl (by first | exact hr.1 | exact hr2 | exact hr3 | exact hfo2 | exact hfo3 | exact hv3 | exact hv | exact hpo | exact hw3.1 | exact hr4 | exact hfo4 | fail "lk") rfl ?_
            refine z_ireti rfl (Nat.le_refl _) (Nat.le_refl _) ?_
            have hsk := hc119
            have e9 : rd1 K E H rule rs last st pn bs = (1, st, shG H (lk K E H st pn bs).2.1, [], 0) := by rw [rd1, if_neg (fun h9 => hc55 h9.1), if_neg hc78, if_pos hc109, if_neg (by rw [hsk]; decide)]
            rw [e9] at q
            rw [show rI (1, st, shG H (lk K E H st pn bs).2.1, [], 0) = nI 1 from if_neg (fun h9 => absurd (show (1 : Nat) = 0 from h9.1) (by decide)), show pnR (1, st, shG H (lk K E H st pn bs).2.1, [], 0) = shG H (lk K E H st pn bs).2.1 from if_neg (fun h9 => absurd (show (1 : Nat) = 0 from h9.1) (by decide)), List.append_nil] at q
            rw [hl2e]
            exact q h4 ⟨hr4, hA3.e (kh4 _ (by omega))⟩ (hw3.e (fun x x1 x2 => kh4 x (by omega))) ⟨zh4.trans hF3.1, fun x hx => (kh4 x (by simp only [nin] at hx; omega)).trans (hF3.2 x hx)⟩
          · refine z_aload 123 rfl rfl rfl ?_
            refine z_aload 124 rfl rfl rfl ?_
            refine z_get 127 rfl rfl (by first | exact hr.1 | exact hr2 | exact hr3 | exact hfo2 | exact hfo3 | exact hv3 | exact hv | exact hpo | exact hw3.1 | exact hr4 | exact hfo4 | fail "lk") rfl ?_
            refine z_get 130 rfl rfl (by first | exact hr.1 | exact hr2 | exact hr3 | exact hfo2 | exact hfo3 | exact hv3 | exact hv | exact hpo | exact hw3.1 | exact hr4 | exact hfo4 | fail "lk") rfl ?_
            refine z_put 133 rfl rfl (by first | exact hr.1 | exact hr2 | exact hr3 | exact hfo2 | exact hfo3 | exact hv3 | exact hv | exact hpo | exact hw3.1 | exact hr4 | exact hfo4 | fail "lk") rfl (mFi rfl) ?_
            refine z_goto rfl ?_
            obtain ⟨h4, hhh4⟩ : ∃ h9 : mH, h9 = mSet h3 a0 (oRd R (a0 + 1) p rule (shG H (lk K E H st pn bs).2.1) 4 mal) := ⟨_, rfl⟩
            refine z_gen h4 hhh4.symm ?_
            have hr4 : h4.2 a0 = oRd R (a0 + 1) p rule (shG H (lk K E H st pn bs).2.1) 4 mal := by rw [hhh4]; exact mg_eq _ _ _
            have kh4 : ∀ x, x ≠ a0 → h4.2 x = h3.2 x := fun x hx => by rw [hhh4]; exact mg_ne hx rfl
            have zh4 : h4.1 = h3.1 := by rw [hhh4]; rfl
            have hfo4 : h4.2 (a0 + 1) = _ := (kh4 _ (by omega)).trans hfo3
            refine z_aload 148 rfl rfl rfl ?_
            refine z_get 151 rfl rfl (by first | exact hr.1 | exact hr2 | exact hr3 | exact hfo2 | exact hfo3 | exact hv3 | exact hv | exact hpo | exact hw3.1 | exact hr4 | exact hfo4 | fail "lk") rfl ?_
            refine z_get 154 rfl rfl (by first | exact hr.1 | exact hr2 | exact hr3 | exact hfo2 | exact hfo3 | exact hv3 | exact hv | exact hpo | exact hw3.1 | exact hr4 | exact hfo4 | fail "lk") rfl ?_
            refine z_ireti rfl (Nat.le_refl _) (Nat.le_refl _) ?_
            have hsk := hc119
            have e9 : rd1 K E H rule rs last st pn bs = (1, shG H (lk K E H st pn bs).2.1, pn, [], 0) := by rw [rd1, if_neg (fun h9 => hc55 h9.1), if_neg hc78, if_pos hc109, if_pos hsk]
            rw [e9] at q
            rw [show rI (1, shG H (lk K E H st pn bs).2.1, pn, [], 0) = nI 1 from if_neg (fun h9 => absurd (show (1 : Nat) = 0 from h9.1) (by decide)), show pnR (1, shG H (lk K E H st pn bs).2.1, pn, [], 0) = pn from if_neg (fun h9 => absurd (show (1 : Nat) = 0 from h9.1) (by decide)), List.append_nil] at q
            have hr4 : h4.2 a0 = oRd R (a0 + 1) p rule (shG H (lk K E H st pn bs).2.1) pn mal := hr4.trans (oRd_pn hpn4)
            rw [hl2e]
            exact q h4 ⟨hr4, hA3.e (kh4 _ (by omega))⟩ (hw3.e (fun x x1 x2 => kh4 x (by omega))) ⟨zh4.trans hF3.1, fun x hx => (kh4 x (by simp only [nin] at hx; omega)).trans (hF3.2 x hx)⟩
      · refine z_aload 83 rfl rfl rfl ?_
        refine z_aload 84 rfl rfl rfl ?_
        refine z_get 87 rfl rfl (by first | exact hr.1 | exact hr2 | exact hr3 | exact hfo2 | exact hfo3 | exact hv3 | exact hv | exact hpo | exact hw3.1 | exact hr4 | exact hfo4 | fail "lk") rfl ?_
        refine z_get 90 rfl rfl (by first | exact hr.1 | exact hr2 | exact hr3 | exact hfo2 | exact hfo3 | exact hv3 | exact hv | exact hpo | exact hw3.1 | exact hr4 | exact hfo4 | fail "lk") rfl ?_
        refine z_cv1 93 rfl rfl (by first | exact hr.1 | exact hr2 | exact hr3 | exact hfo2 | exact hfo3 | exact hv3 | exact hv | exact hpo | exact hw3.1 | exact hr4 | exact hfo4 | fail "lk") rfl (Nat.le_refl _) (Nat.le_refl _) ?_
        rw [(hx2 hc78).2]
        have hlb := lk_b (K := K) (st := st) (pn := pn) hW hb hl1 hc78
        refine w_addPoint hw3 hn hlb.2.2 hl (fun h4 hw4 hF4 => ?_)
        have hfo4 : h4.2 (a0 + 1) = oFound (nI (lk K E H st pn bs).1) l2 p2 g2 s2 := (hF4.2 _ (by omega)).trans hfo3
        have hr4 : h4.2 a0 = oRd R (a0 + 1) p rule st 4 mal := (hF4.2 a0 (by omega)).trans hr3
        refine z_aload 94 rfl rfl rfl ?_
        refine z_get 97 rfl rfl (by first | exact hr.1 | exact hr2 | exact hr3 | exact hfo2 | exact hfo3 | exact hv3 | exact hv | exact hpo | exact hw3.1 | exact hr4 | exact hfo4 | fail "lk") rfl ?_
        refine z_get 100 rfl rfl (by first | exact hr.1 | exact hr2 | exact hr3 | exact hfo2 | exact hfo3 | exact hv3 | exact hv | exact hpo | exact hw3.1 | exact hr4 | exact hfo4 | fail "lk") rfl ?_
        refine z_ireti rfl (Nat.le_refl _) (Nat.le_refl _) ?_
        have e9 : rd1 K E H rule rs last st pn bs = ((lk K E H st pn bs).2.1, st, 4, puU (lk K E H st pn bs).2.2, 0) := by rw [rd1, if_neg (fun h9 => hc55 h9.1), if_pos hc78]
        rw [e9] at q
        rw [show rI ((lk K E H st pn bs).2.1, st, 4, puU (lk K E H st pn bs).2.2, 0) = nI (lk K E H st pn bs).2.1 from if_neg (fun h9 => absurd (show (0 : Nat) = 1 from h9.2) (by decide)), show pnR ((lk K E H st pn bs).2.1, st, 4, puU (lk K E H st pn bs).2.2, 0) = 4 from if_neg (fun h9 => absurd (show (0 : Nat) = 1 from h9.2) (by decide))] at q
        rw [(hx2 hc78).1]
        exact q h4 ⟨(hF4.2 a0 (by omega)).trans hr3, hA3.e (hF4.2 _ (by omega))⟩ hw4 (hF3.trans (hF4.toL (fun x hx => by simp only [nin] at hx; omega)))
    · refine z_iload 60 rfl rfl rfl ?_
      first | refine z_bne 63 rfl rfl (fun hc60 => ?_) (fun hc60 => ?_)
      · refine z_aload 66 rfl rfl rfl ?_
        refine z_push 67 (nI 4) rfl rfl rfl ?_
        refine z_put 70 rfl rfl (by first | exact hr.1 | exact hr2 | exact hr3 | exact hfo2 | exact hfo3 | exact hv3 | exact hv | exact hpo | exact hw3.1 | exact hr4 | exact hfo4 | fail "lk") rfl (mFi rfl) ?_
        obtain ⟨h3, hhh3⟩ : ∃ h9 : mH, h9 = mSet h2 a0 (oRd R (a0 + 1) p rule st 4 mal) := ⟨_, rfl⟩
        refine z_gen h3 hhh3.symm ?_
        have hr3 : h3.2 a0 = oRd R (a0 + 1) p rule st 4 mal := by rw [hhh3]; exact mg_eq _ _ _
        have kh3 : ∀ x, x ≠ a0 → h3.2 x = h2.2 x := fun x hx => by rw [hhh3]; exact mg_ne hx rfl
        have zh3 : h3.1 = h2.1 := by rw [hhh3]; rfl
        have hfo3 : h3.2 (a0 + 1) = oFound (nI (lk K E H st pn bs).1) l2 p2 g2 s2 := (kh3 _ (by omega)).trans hfo2
        have hv3 : h3.2 v = aI n9 f := (kh3 v (by omega)).trans hv2
        have hR3 : h3.2 R = oRu R rs ws cnt := (kh3 R (by omega)).trans hR2
        have hw3 : RwAt h3 o n l := hw2.e (fun x x1 x2 => kh3 x (by omega))
        have hF3 : FrL [(a0, a0 + 2), (o, o + 2)] h h3 := ⟨zh3.trans hF.1, fun x hx => by simp only [nin] at hx; exact (kh3 x (by omega)).trans (hF.2 x (by omega))⟩
        have hA3 : FdA h3 (a0 + 1) := ⟨_, _, _, _, _, hfo3, hs2⟩
        refine z_aload 71 rfl rfl rfl ?_
        refine z_get 74 rfl rfl (by first | exact hr.1 | exact hr2 | exact hr3 | exact hfo2 | exact hfo3 | exact hv3 | exact hv | exact hpo | exact hw3.1 | exact hr4 | exact hfo4 | fail "lk") rfl ?_
        refine z_get 77 rfl rfl (by first | exact hr.1 | exact hr2 | exact hr3 | exact hfo2 | exact hfo3 | exact hv3 | exact hv | exact hpo | exact hw3.1 | exact hr4 | exact hfo4 | fail "lk") rfl ?_
        refine z_push 78 (nI 2) rfl rfl rfl ?_
        refine z_nne 81 rfl rfl (by omega) (by omega) (fun hc78 => ?_) (fun hc78 => ?_)
        · refine z_aload 102 rfl rfl rfl ?_
          refine z_get 105 rfl rfl (by first | exact hr.1 | exact hr2 | exact hr3 | exact hfo2 | exact hfo3 | exact hv3 | exact hv | exact hpo | exact hw3.1 | exact hr4 | exact hfo4 | fail "lk") rfl ?_
          refine z_get 108 rfl rfl (by first | exact hr.1 | exact hr2 | exact hr3 | exact hfo2 | exact hfo3 | exact hv3 | exact hv | exact hpo | exact hw3.1 | exact hr4 | exact hfo4 | fail "lk") rfl ?_
          refine z_push 109 (nI 3) rfl rfl rfl ?_
          refine z_nne 112 rfl rfl (by omega) (by omega) (fun hc109 => ?_) (fun hc109 => ?_)
          · refine z_aload 156 rfl rfl rfl ?_
            refine z_iload 157 rfl rfl rfl ?_
            refine z_zlt 160 rfl rfl (by omega) (fun h9 => absurd h9 (by omega)) (fun _ => ?_)
            refine z_iload 161 rfl rfl rfl ?_
            refine z_aload 162 rfl rfl rfl ?_
            refine z_alen 163 rfl rfl (by first | exact hr.1 | exact hr2 | exact hr3 | exact hfo2 | exact hfo3 | exact hv3 | exact hv | exact hpo | exact hw3.1 | exact hr4 | exact hfo4 | fail "lk") (by decide) ?_
            refine z_nge 166 rfl rfl (by omega) (by omega) (fun h9 => absurd h9 (by omega)) (fun _ => ?_)
            refine z_aload 167 rfl rfl rfl ?_
            refine z_iload 168 rfl rfl rfl ?_
            refine z_ald 169 rfl rfl (by first | exact hr.1 | exact hr2 | exact hr3 | exact hfo2 | exact hfo3 | exact hv3 | exact hv | exact hpo | exact hw3.1 | exact hr4 | exact hfo4 | fail "lk") rfl (by omega) (by omega) ?_
            refine z_goto rfl ?_
            refine z_aload 175 rfl rfl rfl ?_
            refine z_cv2 178 rfl rfl (by first | exact hr.1 | exact hr2 | exact hr3 | exact hfo2 | exact hfo3 | exact hv3 | exact hv | exact hpo | exact hw3.1 | exact hr4 | exact hfo4 | fail "lk") rfl (Nat.le_refl _) (Nat.le_refl _) ?_
            rw [show f a = nI (bs.getD 0 0) from hf 0 (by omega)]
            refine c_passOver (b := bs.getD 0 0) ⟨hr3, hA3⟩ hR3 hw3 hru hrs (hb 0) hn hl (by omega) (by omega) (fun h5 hr5 hw5 hF5 => ?_)
            refine z_ireti rfl (Nat.le_refl _) (Nat.le_refl _) ?_
            have e9 : rd1 K E H rule rs last st pn bs = (if rule = 0 then (0, st, pn, [], 1) else (1, st, 4, puR rule rs (bs.getD 0 0), 1)) := by rw [rd1, if_neg (fun h9 => by rw [hc60] at h9; exact absurd h9.2 (by decide)), if_neg hc78, if_neg hc109]; rfl
            by_cases hr0 : rule = 0
            · rw [if_pos hr0] at e9
              rw [e9, show rI (0, st, pn, ([] : List Nat), 1) = -9 from if_pos ⟨rfl, rfl⟩, show pnR (0, st, pn, ([] : List Nat), 1) = 4 from if_pos ⟨rfl, rfl⟩] at q
              rw [if_pos hr0]
              rw [puR, if_neg (by omega), if_neg (by omega)] at hw5
              exact q h5 hr5 hw5 (hF3.trans (hF5.mono (fun x hx => by simp only [nin] at hx; exact ⟨by omega, by omega, trivial⟩)))
            · rw [if_neg hr0] at e9
              rw [e9, show rI (1, st, 4, puR rule rs (bs.getD 0 0), 1) = nI 1 from if_neg (fun h9 => absurd (show (1 : Nat) = 0 from h9.1) (by decide)), show pnR (1, st, 4, puR rule rs (bs.getD 0 0), 1) = 4 from if_neg (fun h9 => absurd (show (1 : Nat) = 0 from h9.1) (by decide))] at q
              rw [if_neg hr0]
              exact q h5 hr5 hw5 (hF3.trans (hF5.mono (fun x hx => by simp only [nin] at hx; exact ⟨by omega, by omega, trivial⟩)))
          · obtain ⟨hl2e, hg2e, hs2e⟩ := hx3 hc109
            have hlc := lk_c (K := K) (st := st) hc109
            have hpn4 : pn = 4 := hlc.2
            subst hs2e hg2e
            refine z_aload 113 rfl rfl rfl ?_
            refine z_get 116 rfl rfl (by first | exact hr.1 | exact hr2 | exact hr3 | exact hfo2 | exact hfo3 | exact hv3 | exact hv | exact hpo | exact hw3.1 | exact hr4 | exact hfo4 | fail "lk") rfl ?_
            refine z_get 119 rfl rfl (by first | exact hr.1 | exact hr2 | exact hr3 | exact hfo2 | exact hfo3 | exact hv3 | exact hv | exact hpo | exact hw3.1 | exact hr4 | exact hfo4 | fail "lk") rfl ?_
            first | refine z_beq 122 rfl rfl (fun hc119 => ?_) (fun hc119 => ?_)
            · refine z_aload 137 rfl rfl rfl ?_
              refine z_aload 138 rfl rfl rfl ?_
              refine z_get 141 rfl rfl (by first | exact hr.1 | exact hr2 | exact hr3 | exact hfo2 | exact hfo3 | exact hv3 | exact hv | exact hpo | exact hw3.1 | exact hr4 | exact hfo4 | fail "lk") rfl ?_
              refine z_get 144 rfl rfl (by first | exact hr.1 | exact hr2 | exact hr3 | exact hfo2 | exact hfo3 | exact hv3 | exact hv | exact hpo | exact hw3.1 | exact hr4 | exact hfo4 | fail "lk") rfl ?_
              refine z_put 147 rfl rfl (by first | exact hr.1 | exact hr2 | exact hr3 | exact hfo2 | exact hfo3 | exact hv3 | exact hv | exact hpo | exact hw3.1 | exact hr4 | exact hfo4 | fail "lk") rfl (mFi rfl) ?_
              obtain ⟨h4, hhh4⟩ : ∃ h9 : mH, h9 = mSet h3 a0 (oRd R (a0 + 1) p rule st (shG H (lk K E H st pn bs).2.1) mal) := ⟨_, rfl⟩
              refine z_gen h4 hhh4.symm ?_
              have hr4 : h4.2 a0 = oRd R (a0 + 1) p rule st (shG H (lk K E H st pn bs).2.1) mal := by rw [hhh4]; exact mg_eq _ _ _
              have kh4 : ∀ x, x ≠ a0 → h4.2 x = h3.2 x := fun x hx => by rw [hhh4]; exact mg_ne hx rfl
              have zh4 : h4.1 = h3.1 := by rw [hhh4]; rfl
              have hfo4 : h4.2 (a0 + 1) = _ := (kh4 _ (by omega)).trans hfo3
              refine z_aload 148 rfl rfl rfl ?_
              refine z_get 151 rfl rfl (by first | exact hr.1 | exact hr2 | exact hr3 | exact hfo2 | exact hfo3 | exact hv3 | exact hv | exact hpo | exact hw3.1 | exact hr4 | exact hfo4 | fail "lk") rfl ?_
              refine z_get 154 rfl rfl (by first | exact hr.1 | exact hr2 | exact hr3 | exact hfo2 | exact hfo3 | exact hv3 | exact hv | exact hpo | exact hw3.1 | exact hr4 | exact hfo4 | fail "lk") rfl ?_
              refine z_ireti rfl (Nat.le_refl _) (Nat.le_refl _) ?_
              have hsk := hc119
              have e9 : rd1 K E H rule rs last st pn bs = (1, st, shG H (lk K E H st pn bs).2.1, [], 0) := by rw [rd1, if_neg (fun h9 => by rw [hc60] at h9; exact absurd h9.2 (by decide)), if_neg hc78, if_pos hc109, if_neg (by rw [hsk]; decide)]
              rw [e9] at q
              rw [show rI (1, st, shG H (lk K E H st pn bs).2.1, [], 0) = nI 1 from if_neg (fun h9 => absurd (show (1 : Nat) = 0 from h9.1) (by decide)), show pnR (1, st, shG H (lk K E H st pn bs).2.1, [], 0) = shG H (lk K E H st pn bs).2.1 from if_neg (fun h9 => absurd (show (1 : Nat) = 0 from h9.1) (by decide)), List.append_nil] at q
              rw [hl2e]
              exact q h4 ⟨hr4, hA3.e (kh4 _ (by omega))⟩ (hw3.e (fun x x1 x2 => kh4 x (by omega))) ⟨zh4.trans hF3.1, fun x hx => (kh4 x (by simp only [nin] at hx; omega)).trans (hF3.2 x hx)⟩
            · refine z_aload 123 rfl rfl rfl ?_
              refine z_aload 124 rfl rfl rfl ?_
              refine z_get 127 rfl rfl (by first | exact hr.1 | exact hr2 | exact hr3 | exact hfo2 | exact hfo3 | exact hv3 | exact hv | exact hpo | exact hw3.1 | exact hr4 | exact hfo4 | fail "lk") rfl ?_
              refine z_get 130 rfl rfl (by first | exact hr.1 | exact hr2 | exact hr3 | exact hfo2 | exact hfo3 | exact hv3 | exact hv | exact hpo | exact hw3.1 | exact hr4 | exact hfo4 | fail "lk") rfl ?_
              refine z_put 133 rfl rfl (by first | exact hr.1 | exact hr2 | exact hr3 | exact hfo2 | exact hfo3 | exact hv3 | exact hv | exact hpo | exact hw3.1 | exact hr4 | exact hfo4 | fail "lk") rfl (mFi rfl) ?_
              refine z_goto rfl ?_
              obtain ⟨h4, hhh4⟩ : ∃ h9 : mH, h9 = mSet h3 a0 (oRd R (a0 + 1) p rule (shG H (lk K E H st pn bs).2.1) 4 mal) := ⟨_, rfl⟩
              refine z_gen h4 hhh4.symm ?_
              have hr4 : h4.2 a0 = oRd R (a0 + 1) p rule (shG H (lk K E H st pn bs).2.1) 4 mal := by rw [hhh4]; exact mg_eq _ _ _
              have kh4 : ∀ x, x ≠ a0 → h4.2 x = h3.2 x := fun x hx => by rw [hhh4]; exact mg_ne hx rfl
              have zh4 : h4.1 = h3.1 := by rw [hhh4]; rfl
              have hfo4 : h4.2 (a0 + 1) = _ := (kh4 _ (by omega)).trans hfo3
              refine z_aload 148 rfl rfl rfl ?_
              refine z_get 151 rfl rfl (by first | exact hr.1 | exact hr2 | exact hr3 | exact hfo2 | exact hfo3 | exact hv3 | exact hv | exact hpo | exact hw3.1 | exact hr4 | exact hfo4 | fail "lk") rfl ?_
              refine z_get 154 rfl rfl (by first | exact hr.1 | exact hr2 | exact hr3 | exact hfo2 | exact hfo3 | exact hv3 | exact hv | exact hpo | exact hw3.1 | exact hr4 | exact hfo4 | fail "lk") rfl ?_
              refine z_ireti rfl (Nat.le_refl _) (Nat.le_refl _) ?_
              have hsk := hc119
              have e9 : rd1 K E H rule rs last st pn bs = (1, shG H (lk K E H st pn bs).2.1, pn, [], 0) := by rw [rd1, if_neg (fun h9 => by rw [hc60] at h9; exact absurd h9.2 (by decide)), if_neg hc78, if_pos hc109, if_pos hsk]
              rw [e9] at q
              rw [show rI (1, shG H (lk K E H st pn bs).2.1, pn, [], 0) = nI 1 from if_neg (fun h9 => absurd (show (1 : Nat) = 0 from h9.1) (by decide)), show pnR (1, shG H (lk K E H st pn bs).2.1, pn, [], 0) = pn from if_neg (fun h9 => absurd (show (1 : Nat) = 0 from h9.1) (by decide)), List.append_nil] at q
              have hr4 : h4.2 a0 = oRd R (a0 + 1) p rule (shG H (lk K E H st pn bs).2.1) pn mal := hr4.trans (oRd_pn hpn4)
              rw [hl2e]
              exact q h4 ⟨hr4, hA3.e (kh4 _ (by omega))⟩ (hw3.e (fun x x1 x2 => kh4 x (by omega))) ⟨zh4.trans hF3.1, fun x hx => (kh4 x (by simp only [nin] at hx; omega)).trans (hF3.2 x hx)⟩
        · refine z_aload 83 rfl rfl rfl ?_
          refine z_aload 84 rfl rfl rfl ?_
          refine z_get 87 rfl rfl (by first | exact hr.1 | exact hr2 | exact hr3 | exact hfo2 | exact hfo3 | exact hv3 | exact hv | exact hpo | exact hw3.1 | exact hr4 | exact hfo4 | fail "lk") rfl ?_
          refine z_get 90 rfl rfl (by first | exact hr.1 | exact hr2 | exact hr3 | exact hfo2 | exact hfo3 | exact hv3 | exact hv | exact hpo | exact hw3.1 | exact hr4 | exact hfo4 | fail "lk") rfl ?_
          refine z_cv1 93 rfl rfl (by first | exact hr.1 | exact hr2 | exact hr3 | exact hfo2 | exact hfo3 | exact hv3 | exact hv | exact hpo | exact hw3.1 | exact hr4 | exact hfo4 | fail "lk") rfl (Nat.le_refl _) (Nat.le_refl _) ?_
          rw [(hx2 hc78).2]
          have hlb := lk_b (K := K) (st := st) (pn := pn) hW hb hl1 hc78
          refine w_addPoint hw3 hn hlb.2.2 hl (fun h4 hw4 hF4 => ?_)
          have hfo4 : h4.2 (a0 + 1) = oFound (nI (lk K E H st pn bs).1) l2 p2 g2 s2 := (hF4.2 _ (by omega)).trans hfo3
          have hr4 : h4.2 a0 = oRd R (a0 + 1) p rule st 4 mal := (hF4.2 a0 (by omega)).trans hr3
          refine z_aload 94 rfl rfl rfl ?_
          refine z_get 97 rfl rfl (by first | exact hr.1 | exact hr2 | exact hr3 | exact hfo2 | exact hfo3 | exact hv3 | exact hv | exact hpo | exact hw3.1 | exact hr4 | exact hfo4 | fail "lk") rfl ?_
          refine z_get 100 rfl rfl (by first | exact hr.1 | exact hr2 | exact hr3 | exact hfo2 | exact hfo3 | exact hv3 | exact hv | exact hpo | exact hw3.1 | exact hr4 | exact hfo4 | fail "lk") rfl ?_
          refine z_ireti rfl (Nat.le_refl _) (Nat.le_refl _) ?_
          have e9 : rd1 K E H rule rs last st pn bs = ((lk K E H st pn bs).2.1, st, 4, puU (lk K E H st pn bs).2.2, 0) := by rw [rd1, if_neg (fun h9 => by rw [hc60] at h9; exact absurd h9.2 (by decide)), if_pos hc78]
          rw [e9] at q
          rw [show rI ((lk K E H st pn bs).2.1, st, 4, puU (lk K E H st pn bs).2.2, 0) = nI (lk K E H st pn bs).2.1 from if_neg (fun h9 => absurd (show (0 : Nat) = 1 from h9.2) (by decide)), show pnR ((lk K E H st pn bs).2.1, st, 4, puU (lk K E H st pn bs).2.2, 0) = 4 from if_neg (fun h9 => absurd (show (0 : Nat) = 1 from h9.2) (by decide))] at q
          rw [(hx2 hc78).1]
          exact q h4 ⟨(hF4.2 a0 (by omega)).trans hr3, hA3.e (hF4.2 _ (by omega))⟩ hw4 (hF3.trans (hF4.toL (fun x hx => by simp only [nin] at hx; omega)))
      · refine z_push 64 (nI 0) rfl rfl rfl ?_
        refine z_ireti rfl (Nat.le_refl _) (Nat.le_refl _) ?_
        have e9 : rd1 K E H rule rs last st pn bs = (0, st, pn, [], 0) := by rw [rd1, if_pos ⟨hc55, hc60⟩]
        rw [e9] at q
        rw [List.append_nil] at q
        exact q h2 ⟨hr2, hd2.A⟩ hw2 ⟨hF.1, fun x hx => by simp only [nin] at hx; exact hF.2 x (by omega)⟩
