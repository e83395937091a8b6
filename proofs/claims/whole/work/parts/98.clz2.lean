/-! the exchange made -/
def A0 : Ab := ([], [], [], (0, []), (65533, 63), [], fun _ => none, 0, (0, 0, 0), 0)
theorem z_ac {d : Nat} {t : mK} {bc bs : Nat} {Q : mP} {pc : Nat} {L : List (Option Value)} {st : List Value} {nc ns : Nat} (a : Nat) (c o : mC) (h0 : mH) (ha : 1 ≠ a) (k : ∀ h, h.2 1 = o → h.2 a = c → (∀ x, x ≠ 1 → x ≠ a → h.2 x = h0.2 x) → h.1 = a + 1 → mZ d t bc bs Q pc L st h nc ns) : mZ d t bc bs Q pc L st (mSet (mNw a h0 c) 1 o) nc ns :=
  k _ (mg_eq _ _ _) (mg_ne (fun h => ha h.symm) (mw_eq _ _ _)) (fun x h1 h2 => mg_ne h1 (mw_ne h2 rfl)) rfl
set_option maxRecDepth 100000 in
theorem c_X_init {d : Nat} {h : mH}  {Q : mP} (h0e : h.2 1 = .inr (.inr (11, [.null, .int 0, .null, .null, .null, .null, .int 0, .null, .null, .null, .null, .null, .null, .int 0, .null, .null, .int 0]))) (hz : h.1 = 2)  (q : ∀ h', h'.1 = 96 → CI h' A0 (fun _ => 0) none 7 9 → h'.2 0 = h.2 0 → Q none h') : mWP (d + 4) 107 [.ref 1] h Q := by
  refine z_in [some (.ref 1), none, none, none] (by rfl) rfl rfl rfl ?_
  refine z_aload 1 rfl rfl rfl ?_
  refine z_oi 4 rfl rfl rfl ?_
  refine z_aload 5 rfl rfl rfl ?_
  refine z_push 7 (nI 10) rfl rfl rfl ?_
  refine z_newqA 10 2 hz rfl rfl rfl (by omega) (by omega) (by omega) ?_
  refine z_put 13 rfl rfl (by repeat (first | exact h0e | exact o1 | exact p2 | exact o2 | exact p3 | exact o3 | exact p4 | exact o4 | exact p5 | exact o5 | exact p6 | exact o6 | exact o7 | exact o8 | exact o9 | exact p10 | exact p11 | exact o11 | exact p12 | exact o12 | exact p13 | exact o13 | exact p14 | exact m14 | exact o14 | exact r14.1 | exact p15 | exact m15 | exact o15 | exact r15.1 | exact p16 | exact m16 | exact o16 | exact r16.1 | exact p17 | exact m17 | exact o17 | exact r17.1 | exact mg_eq _ _ _ | exact mw_eq _ _ _ | refine mg_ne (by decide) ?_ | refine mw_ne (by decide) ?_)) rfl (mFa rfl) ?_
  refine z_ac 2 (.inr (.inl (2, 10, fun _ => none))) (.inr (.inr (11, [.ref 2, .int 0, .null, .null, .null, .null, .int 0, .null, .null, .null, .null, .null, .null, .int 0, .null, .null, .int 0]))) h (by decide) (fun g1 o1 e1 k1 z1 => ?_)
  have t1 : ∀ x, x < 2 → x ≠ 1 → g1.2 x = h.2 x := fun x hx h1 => k1 x h1 (by omega)
  refine z_aload 14 rfl rfl rfl ?_
  refine z_newA 17 3 z1 rfl rfl (by omega) (by omega) ?_
  first | refine z_dup 18 rfl rfl ?_ | refine z_dupi 18 rfl rfl ?_
  refine z_push 21 (nI 1000) rfl rfl rfl ?_
  refine z_ci1 24 rfl rfl rfl (by omega) (by omega) ?_
  refine c_Rw_init (n := 1000) (mw_eq _ _ _) rfl (by decide) (fun b2 y2 r2 f2 => ?_)
  have p2 : b2.2 1 = .inr (.inr (11, [.ref 2, .int 0, .null, .null, .null, .null, .int 0, .null, .null, .null, .null, .null, .null, .int 0, .null, .null, .int 0])) := (f2 1 (by decide)).trans (mw_ne (by decide) o1)
  refine z_put 27 rfl rfl (by repeat (first | exact h0e | exact o1 | exact p2 | exact o2 | exact p3 | exact o3 | exact p4 | exact o4 | exact p5 | exact o5 | exact p6 | exact o6 | exact o7 | exact o8 | exact o9 | exact p10 | exact p11 | exact o11 | exact p12 | exact o12 | exact p13 | exact o13 | exact p14 | exact m14 | exact o14 | exact r14.1 | exact p15 | exact m15 | exact o15 | exact r15.1 | exact p16 | exact m16 | exact o16 | exact r16.1 | exact p17 | exact m17 | exact o17 | exact r17.1 | exact mg_eq _ _ _ | exact mw_eq _ _ _ | refine mg_ne (by decide) ?_ | refine mw_ne (by decide) ?_)) rfl (mFo rfl) ?_
  refine z_ab 1 (.inr (.inr (11, [.ref 2, .int 0, .null, .ref 3, .null, .null, .int 0, .null, .null, .null, .null, .null, .null, .int 0, .null, .null, .int 0]))) b2 (mg_eq _ _ _) (fun x hx => by simp only [mSet, if_neg hx]) rfl (fun g2 o2 k2 w2 => ?_)
  have z2 : g2.1 = 5 := w2.trans y2
  have e2 := r2.e (h' := g2) (fun x x1 x2 => k2 x (by omega))
  have t2 : ∀ x, x < 3 → x ≠ 1 → g2.2 x = g1.2 x := fun x hx h1 => (k2 x h1).trans ((f2 x hx).trans (mw_ne (by omega) rfl))
  refine z_aload 28 rfl rfl rfl ?_
  refine z_newA 31 5 z2 rfl rfl (by omega) (by omega) ?_
  first | refine z_dup 32 rfl rfl ?_ | refine z_dupi 32 rfl rfl ?_
  refine z_push 35 (nI 1000) rfl rfl rfl ?_
  refine z_ci1 38 rfl rfl rfl (by omega) (by omega) ?_
  refine c_Rw_init (n := 1000) (mw_eq _ _ _) rfl (by decide) (fun b3 y3 r3 f3 => ?_)
  have p3 : b3.2 1 = .inr (.inr (11, [.ref 2, .int 0, .null, .ref 3, .null, .null, .int 0, .null, .null, .null, .null, .null, .null, .int 0, .null, .null, .int 0])) := (f3 1 (by decide)).trans (mw_ne (by decide) o2)
  refine z_put 41 rfl rfl (by repeat (first | exact h0e | exact o1 | exact p2 | exact o2 | exact p3 | exact o3 | exact p4 | exact o4 | exact p5 | exact o5 | exact p6 | exact o6 | exact o7 | exact o8 | exact o9 | exact p10 | exact p11 | exact o11 | exact p12 | exact o12 | exact p13 | exact o13 | exact p14 | exact m14 | exact o14 | exact r14.1 | exact p15 | exact m15 | exact o15 | exact r15.1 | exact p16 | exact m16 | exact o16 | exact r16.1 | exact p17 | exact m17 | exact o17 | exact r17.1 | exact mg_eq _ _ _ | exact mw_eq _ _ _ | refine mg_ne (by decide) ?_ | refine mw_ne (by decide) ?_)) rfl (mFo rfl) ?_
  refine z_ab 1 (.inr (.inr (11, [.ref 2, .int 0, .null, .ref 3, .ref 5, .null, .int 0, .null, .null, .null, .null, .null, .null, .int 0, .null, .null, .int 0]))) b3 (mg_eq _ _ _) (fun x hx => by simp only [mSet, if_neg hx]) rfl (fun g3 o3 k3 w3 => ?_)
  have z3 : g3.1 = 7 := w3.trans y3
  have e3 := r3.e (h' := g3) (fun x x1 x2 => k3 x (by omega))
  have t3 : ∀ x, x < 5 → x ≠ 1 → g3.2 x = g2.2 x := fun x hx h1 => (k3 x h1).trans ((f3 x hx).trans (mw_ne (by omega) rfl))
  refine z_aload 42 rfl rfl rfl ?_
  refine z_newA 45 7 z3 rfl rfl (by omega) (by omega) ?_
  first | refine z_dup 46 rfl rfl ?_ | refine z_dupi 46 rfl rfl ?_
  refine z_push 49 (nI 6000) rfl rfl rfl ?_
  refine z_ci1 52 rfl rfl rfl (by omega) (by omega) ?_
  refine c_Rw_init (n := 6000) (mw_eq _ _ _) rfl (by decide) (fun b4 y4 r4 f4 => ?_)
  have p4 : b4.2 1 = .inr (.inr (11, [.ref 2, .int 0, .null, .ref 3, .ref 5, .null, .int 0, .null, .null, .null, .null, .null, .null, .int 0, .null, .null, .int 0])) := (f4 1 (by decide)).trans (mw_ne (by decide) o3)
  refine z_put 55 rfl rfl (by repeat (first | exact h0e | exact o1 | exact p2 | exact o2 | exact p3 | exact o3 | exact p4 | exact o4 | exact p5 | exact o5 | exact p6 | exact o6 | exact o7 | exact o8 | exact o9 | exact p10 | exact p11 | exact o11 | exact p12 | exact o12 | exact p13 | exact o13 | exact p14 | exact m14 | exact o14 | exact r14.1 | exact p15 | exact m15 | exact o15 | exact r15.1 | exact p16 | exact m16 | exact o16 | exact r16.1 | exact p17 | exact m17 | exact o17 | exact r17.1 | exact mg_eq _ _ _ | exact mw_eq _ _ _ | refine mg_ne (by decide) ?_ | refine mw_ne (by decide) ?_)) rfl (mFo rfl) ?_
  refine z_aload 56 rfl rfl rfl ?_
  refine z_push 57 (nI 0) rfl rfl rfl ?_
  refine z_put 60 rfl rfl (by repeat (first | exact h0e | exact o1 | exact p2 | exact o2 | exact p3 | exact o3 | exact p4 | exact o4 | exact p5 | exact o5 | exact p6 | exact o6 | exact o7 | exact o8 | exact o9 | exact p10 | exact p11 | exact o11 | exact p12 | exact o12 | exact p13 | exact o13 | exact p14 | exact m14 | exact o14 | exact r14.1 | exact p15 | exact m15 | exact o15 | exact r15.1 | exact p16 | exact m16 | exact o16 | exact r16.1 | exact p17 | exact m17 | exact o17 | exact r17.1 | exact mg_eq _ _ _ | exact mw_eq _ _ _ | refine mg_ne (by decide) ?_ | refine mw_ne (by decide) ?_)) rfl (mFi rfl) ?_
  refine z_ab 1 (.inr (.inr (11, [.ref 2, .int 0, .null, .ref 3, .ref 5, .ref 7, .int (nI 0), .null, .null, .null, .null, .null, .null, .int 0, .null, .null, .int 0]))) b4 (mg_eq _ _ _) (fun x hx => by simp only [mSet, if_neg hx]) rfl (fun g4 o4 k4 w4 => ?_)
  have z4 : g4.1 = 9 := w4.trans y4
  have e4 := r4.e (h' := g4) (fun x x1 x2 => k4 x (by omega))
  have t4 : ∀ x, x < 7 → x ≠ 1 → g4.2 x = g3.2 x := fun x hx h1 => (k4 x h1).trans ((f4 x hx).trans (mw_ne (by omega) rfl))
  refine z_aload 61 rfl rfl rfl ?_
  refine z_newA 64 9 z4 rfl rfl (by omega) (by omega) ?_
  first | refine z_dup 65 rfl rfl ?_ | refine z_dupi 65 rfl rfl ?_
  refine z_push 68 (nI 6000) rfl rfl rfl ?_
  refine z_ci1 71 rfl rfl rfl (by omega) (by omega) ?_
  refine c_Rw_init (n := 6000) (mw_eq _ _ _) rfl (by decide) (fun b5 y5 r5 f5 => ?_)
  have p5 : b5.2 1 = .inr (.inr (11, [.ref 2, .int 0, .null, .ref 3, .ref 5, .ref 7, .int (nI 0), .null, .null, .null, .null, .null, .null, .int 0, .null, .null, .int 0])) := (f5 1 (by decide)).trans (mw_ne (by decide) o4)
  refine z_put 74 rfl rfl (by repeat (first | exact h0e | exact o1 | exact p2 | exact o2 | exact p3 | exact o3 | exact p4 | exact o4 | exact p5 | exact o5 | exact p6 | exact o6 | exact o7 | exact o8 | exact o9 | exact p10 | exact p11 | exact o11 | exact p12 | exact o12 | exact p13 | exact o13 | exact p14 | exact m14 | exact o14 | exact r14.1 | exact p15 | exact m15 | exact o15 | exact r15.1 | exact p16 | exact m16 | exact o16 | exact r16.1 | exact p17 | exact m17 | exact o17 | exact r17.1 | exact mg_eq _ _ _ | exact mw_eq _ _ _ | refine mg_ne (by decide) ?_ | refine mw_ne (by decide) ?_)) rfl (mFo rfl) ?_
  refine z_ab 1 (.inr (.inr (11, [.ref 2, .int 0, .null, .ref 3, .ref 5, .ref 7, .int (nI 0), .ref 9, .null, .null, .null, .null, .null, .int 0, .null, .null, .int 0]))) b5 (mg_eq _ _ _) (fun x hx => by simp only [mSet, if_neg hx]) rfl (fun g5 o5 k5 w5 => ?_)
  have z5 : g5.1 = 11 := w5.trans y5
  have e5 := r5.e (h' := g5) (fun x x1 x2 => k5 x (by omega))
  have t5 : ∀ x, x < 9 → x ≠ 1 → g5.2 x = g4.2 x := fun x hx h1 => (k5 x h1).trans ((f5 x hx).trans (mw_ne (by omega) rfl))
  refine z_aload 75 rfl rfl rfl ?_
  refine z_newA 78 11 z5 rfl rfl (by omega) (by omega) ?_
  first | refine z_dup 79 rfl rfl ?_ | refine z_dupi 79 rfl rfl ?_
  refine z_push 82 (nI 2000) rfl rfl rfl ?_
  refine z_ci1 85 rfl rfl rfl (by omega) (by omega) ?_
  refine c_Rw_init (n := 2000) (mw_eq _ _ _) rfl (by decide) (fun b6 y6 r6 f6 => ?_)
  have p6 : b6.2 1 = .inr (.inr (11, [.ref 2, .int 0, .null, .ref 3, .ref 5, .ref 7, .int (nI 0), .ref 9, .null, .null, .null, .null, .null, .int 0, .null, .null, .int 0])) := (f6 1 (by decide)).trans (mw_ne (by decide) o5)
  refine z_put 88 rfl rfl (by repeat (first | exact h0e | exact o1 | exact p2 | exact o2 | exact p3 | exact o3 | exact p4 | exact o4 | exact p5 | exact o5 | exact p6 | exact o6 | exact o7 | exact o8 | exact o9 | exact p10 | exact p11 | exact o11 | exact p12 | exact o12 | exact p13 | exact o13 | exact p14 | exact m14 | exact o14 | exact r14.1 | exact p15 | exact m15 | exact o15 | exact r15.1 | exact p16 | exact m16 | exact o16 | exact r16.1 | exact p17 | exact m17 | exact o17 | exact r17.1 | exact mg_eq _ _ _ | exact mw_eq _ _ _ | refine mg_ne (by decide) ?_ | refine mw_ne (by decide) ?_)) rfl (mFo rfl) ?_
  refine z_ab 1 (.inr (.inr (11, [.ref 2, .int 0, .null, .ref 3, .ref 5, .ref 7, .int (nI 0), .ref 9, .ref 11, .null, .null, .null, .null, .int 0, .null, .null, .int 0]))) b6 (mg_eq _ _ _) (fun x hx => by simp only [mSet, if_neg hx]) rfl (fun g6 o6 k6 w6 => ?_)
  have z6 : g6.1 = 13 := w6.trans y6
  have e6 := r6.e (h' := g6) (fun x x1 x2 => k6 x (by omega))
  have t6 : ∀ x, x < 11 → x ≠ 1 → g6.2 x = g5.2 x := fun x hx h1 => (k6 x h1).trans ((f6 x hx).trans (mw_ne (by omega) rfl))
  refine z_aload 89 rfl rfl rfl ?_
  refine z_push 90 (nI 4) rfl rfl rfl ?_
  refine z_newqA 93 13 z6 rfl rfl rfl (by omega) (by omega) (by omega) ?_
  refine z_put 96 rfl rfl (by repeat (first | exact h0e | exact o1 | exact p2 | exact o2 | exact p3 | exact o3 | exact p4 | exact o4 | exact p5 | exact o5 | exact p6 | exact o6 | exact o7 | exact o8 | exact o9 | exact p10 | exact p11 | exact o11 | exact p12 | exact o12 | exact p13 | exact o13 | exact p14 | exact m14 | exact o14 | exact r14.1 | exact p15 | exact m15 | exact o15 | exact r15.1 | exact p16 | exact m16 | exact o16 | exact r16.1 | exact p17 | exact m17 | exact o17 | exact r17.1 | exact mg_eq _ _ _ | exact mw_eq _ _ _ | refine mg_ne (by decide) ?_ | refine mw_ne (by decide) ?_)) rfl (mFa rfl) ?_
  refine z_ac 13 (.inr (.inl (3, 4, fun _ => none))) (.inr (.inr (11, [.ref 2, .int 0, .null, .ref 3, .ref 5, .ref 7, .int (nI 0), .ref 9, .ref 11, .null, .null, .null, .ref 13, .int 0, .null, .null, .int 0]))) g6 (by decide) (fun g7 o7 e7 k7 z7 => ?_)
  have t7 : ∀ x, x < 13 → x ≠ 1 → g7.2 x = g6.2 x := fun x hx h1 => k7 x h1 (by omega)
  refine z_aload 97 rfl rfl rfl ?_
  refine z_push 98 (nI 3) rfl rfl rfl ?_
  refine z_newaA 100 14 z7 rfl rfl rfl (by omega) (by omega) (by omega) ?_
  refine z_put 103 rfl rfl (by repeat (first | exact h0e | exact o1 | exact p2 | exact o2 | exact p3 | exact o3 | exact p4 | exact o4 | exact p5 | exact o5 | exact p6 | exact o6 | exact o7 | exact o8 | exact o9 | exact p10 | exact p11 | exact o11 | exact p12 | exact o12 | exact p13 | exact o13 | exact p14 | exact m14 | exact o14 | exact r14.1 | exact p15 | exact m15 | exact o15 | exact r15.1 | exact p16 | exact m16 | exact o16 | exact r16.1 | exact p17 | exact m17 | exact o17 | exact r17.1 | exact mg_eq _ _ _ | exact mw_eq _ _ _ | refine mg_ne (by decide) ?_ | refine mw_ne (by decide) ?_)) rfl (mFa rfl) ?_
  refine z_ac 14 (.inl (0, 3, fun _ => 0)) (.inr (.inr (11, [.ref 2, .int 0, .null, .ref 3, .ref 5, .ref 7, .int (nI 0), .ref 9, .ref 11, .null, .null, .null, .ref 13, .int 0, .ref 14, .null, .int 0]))) g7 (by decide) (fun g8 o8 e8 k8 z8 => ?_)
  have t8 : ∀ x, x < 14 → x ≠ 1 → g8.2 x = g7.2 x := fun x hx h1 => k8 x h1 (by omega)
  refine z_aload 104 rfl rfl rfl ?_
  refine z_push 105 (nI 3) rfl rfl rfl ?_
  refine z_newaA 107 15 z8 rfl rfl rfl (by omega) (by omega) (by omega) ?_
  refine z_put 110 rfl rfl (by repeat (first | exact h0e | exact o1 | exact p2 | exact o2 | exact p3 | exact o3 | exact p4 | exact o4 | exact p5 | exact o5 | exact p6 | exact o6 | exact o7 | exact o8 | exact o9 | exact p10 | exact p11 | exact o11 | exact p12 | exact o12 | exact p13 | exact o13 | exact p14 | exact m14 | exact o14 | exact r14.1 | exact p15 | exact m15 | exact o15 | exact r15.1 | exact p16 | exact m16 | exact o16 | exact r16.1 | exact p17 | exact m17 | exact o17 | exact r17.1 | exact mg_eq _ _ _ | exact mw_eq _ _ _ | refine mg_ne (by decide) ?_ | refine mw_ne (by decide) ?_)) rfl (mFa rfl) ?_
  refine z_ac 15 (.inl (0, 3, fun _ => 0)) (.inr (.inr (11, [.ref 2, .int 0, .null, .ref 3, .ref 5, .ref 7, .int (nI 0), .ref 9, .ref 11, .null, .null, .null, .ref 13, .int 0, .ref 14, .ref 15, .int 0]))) g8 (by decide) (fun g9 o9 e9 k9 z9 => ?_)
  have t9 : ∀ x, x < 15 → x ≠ 1 → g9.2 x = g8.2 x := fun x hx h1 => k9 x h1 (by omega)
  refine z_newA 113 16 z9 rfl rfl (by omega) (by omega) ?_
  first | refine z_dup 114 rfl rfl ?_ | refine z_dupi 114 rfl rfl ?_
  refine z_ci0 117 rfl rfl rfl (by omega) (by omega) ?_
  refine c_Ru_init (mw_eq _ _ _) rfl (fun b10 y10 r10 f10 => ?_)
  have p10 : b10.2 1 = .inr (.inr (11, [.ref 2, .int 0, .null, .ref 3, .ref 5, .ref 7, .int (nI 0), .ref 9, .ref 11, .null, .null, .null, .ref 13, .int 0, .ref 14, .ref 15, .int 0])) := (f10 1 (by decide)).trans (mw_ne (by decide) o9)
  have o10 := p10
  have z10 : b10.1 = 21 := y10
  have e10 := r10
  have t10 : ∀ x, x < 16 → x ≠ 1 → b10.2 x = g9.2 x := fun x hx h1 => (f10 x hx).trans (mw_ne (by omega) rfl)
  refine z_astore 118 rfl rfl rfl rfl ?_
  refine z_newA 121 21 z10 rfl rfl (by omega) (by omega) ?_
  first | refine z_dup 122 rfl rfl ?_ | refine z_dupi 122 rfl rfl ?_
  refine z_push 123 (nI 3) rfl rfl rfl ?_
  refine z_ci1 126 rfl rfl rfl (by omega) (by omega) ?_
  refine c_Pg_initK (mw_eq _ _ _) rfl (by decide) (by decide) (fun b11 y11 r11 f11 => ?_)
  have p11 : b11.2 1 = .inr (.inr (11, [.ref 2, .int 0, .null, .ref 3, .ref 5, .ref 7, .int (nI 0), .ref 9, .ref 11, .null, .null, .null, .ref 13, .int 0, .ref 14, .ref 15, .int 0])) := (f11 1 (by decide)).trans (mw_ne (by decide) o10)
  refine z_astore 127 rfl rfl rfl rfl ?_
  refine z_aload 128 rfl rfl rfl ?_
  refine z_aload 129 rfl rfl rfl ?_
  refine z_put 132 rfl rfl (by repeat (first | exact h0e | exact o1 | exact p2 | exact o2 | exact p3 | exact o3 | exact p4 | exact o4 | exact p5 | exact o5 | exact p6 | exact o6 | exact o7 | exact o8 | exact o9 | exact p10 | exact p11 | exact o11 | exact p12 | exact o12 | exact p13 | exact o13 | exact p14 | exact m14 | exact o14 | exact r14.1 | exact p15 | exact m15 | exact o15 | exact r15.1 | exact p16 | exact m16 | exact o16 | exact r16.1 | exact p17 | exact m17 | exact o17 | exact r17.1 | exact mg_eq _ _ _ | exact mw_eq _ _ _ | refine mg_ne (by decide) ?_ | refine mw_ne (by decide) ?_)) rfl (mFo rfl) ?_
  refine z_ab 1 (.inr (.inr (11, [.ref 2, .int 0, .null, .ref 3, .ref 5, .ref 7, .int (nI 0), .ref 9, .ref 11, .ref 16, .null, .null, .ref 13, .int 0, .ref 14, .ref 15, .int 0]))) b11 (mg_eq _ _ _) (fun x hx => by simp only [mSet, if_neg hx]) rfl (fun g11 o11 k11 w11 => ?_)
  have z11 : g11.1 = 41 := w11.trans y11
  have e11 := r11.e (h' := g11) (fun x x1 x2 => k11 x (by omega))
  have t11 : ∀ x, x < 21 → x ≠ 1 → g11.2 x = b10.2 x := fun x hx h1 => (k11 x h1).trans ((f11 x hx).trans (mw_ne (by omega) rfl))
  refine z_aload 133 rfl rfl rfl ?_
  refine z_newA 136 41 z11 rfl rfl (by omega) (by omega) ?_
  first | refine z_dup 137 rfl rfl ?_ | refine z_dupi 137 rfl rfl ?_
  refine z_aload 138 rfl rfl rfl ?_
  refine z_aload 139 rfl rfl rfl ?_
  refine z_ci2 142 rfl rfl rfl (by omega) (by omega) ?_
  refine c_Rd_init (mw_eq _ _ _) rfl (fun b12 y12 r12 f12 => ?_)
  have p12 : b12.2 1 = .inr (.inr (11, [.ref 2, .int 0, .null, .ref 3, .ref 5, .ref 7, .int (nI 0), .ref 9, .ref 11, .ref 16, .null, .null, .ref 13, .int 0, .ref 14, .ref 15, .int 0])) := (f12 1 (by decide)).trans (mw_ne (by decide) o11)
  refine z_put 145 rfl rfl (by repeat (first | exact h0e | exact o1 | exact p2 | exact o2 | exact p3 | exact o3 | exact p4 | exact o4 | exact p5 | exact o5 | exact p6 | exact o6 | exact o7 | exact o8 | exact o9 | exact p10 | exact p11 | exact o11 | exact p12 | exact o12 | exact p13 | exact o13 | exact p14 | exact m14 | exact o14 | exact r14.1 | exact p15 | exact m15 | exact o15 | exact r15.1 | exact p16 | exact m16 | exact o16 | exact r16.1 | exact p17 | exact m17 | exact o17 | exact r17.1 | exact mg_eq _ _ _ | exact mw_eq _ _ _ | refine mg_ne (by decide) ?_ | refine mw_ne (by decide) ?_)) rfl (mFo rfl) ?_
  refine z_ab 1 (.inr (.inr (11, [.ref 2, .int 0, .null, .ref 3, .ref 5, .ref 7, .int (nI 0), .ref 9, .ref 11, .ref 16, .ref 41, .null, .ref 13, .int 0, .ref 14, .ref 15, .int 0]))) b12 (mg_eq _ _ _) (fun x hx => by simp only [mSet, if_neg hx]) rfl (fun g12 o12 k12 w12 => ?_)
  have z12 : g12.1 = 43 := w12.trans y12
  have e12 := r12.e (h' := g12) (fun x x1 x2 => k12 x (by omega))
  have t12 : ∀ x, x < 41 → x ≠ 1 → g12.2 x = g11.2 x := fun x hx h1 => (k12 x h1).trans ((f12 x hx).trans (mw_ne (by omega) rfl))
  refine z_aload 146 rfl rfl rfl ?_
  refine z_newA 149 43 z12 rfl rfl (by omega) (by omega) ?_
  first | refine z_dup 150 rfl rfl ?_ | refine z_dupi 150 rfl rfl ?_
  refine z_aload 151 rfl rfl rfl ?_
  refine z_aload 152 rfl rfl rfl ?_
  refine z_ci2 155 rfl rfl rfl (by omega) (by omega) ?_
  refine c_Wr_init (mw_eq _ _ _) rfl (fun b13 y13 r13 f13 => ?_)
  have p13 : b13.2 1 = .inr (.inr (11, [.ref 2, .int 0, .null, .ref 3, .ref 5, .ref 7, .int (nI 0), .ref 9, .ref 11, .ref 16, .ref 41, .null, .ref 13, .int 0, .ref 14, .ref 15, .int 0])) := (f13 1 (by decide)).trans (mw_ne (by decide) o12)
  refine z_put 158 rfl rfl (by repeat (first | exact h0e | exact o1 | exact p2 | exact o2 | exact p3 | exact o3 | exact p4 | exact o4 | exact p5 | exact o5 | exact p6 | exact o6 | exact o7 | exact o8 | exact o9 | exact p10 | exact p11 | exact o11 | exact p12 | exact o12 | exact p13 | exact o13 | exact p14 | exact m14 | exact o14 | exact r14.1 | exact p15 | exact m15 | exact o15 | exact r15.1 | exact p16 | exact m16 | exact o16 | exact r16.1 | exact p17 | exact m17 | exact o17 | exact r17.1 | exact mg_eq _ _ _ | exact mw_eq _ _ _ | refine mg_ne (by decide) ?_ | refine mw_ne (by decide) ?_)) rfl (mFo rfl) ?_
  refine z_ab 1 (.inr (.inr (11, [.ref 2, .int 0, .null, .ref 3, .ref 5, .ref 7, .int (nI 0), .ref 9, .ref 11, .ref 16, .ref 41, .ref 43, .ref 13, .int 0, .ref 14, .ref 15, .int 0]))) b13 (mg_eq _ _ _) (fun x hx => by simp only [mSet, if_neg hx]) rfl (fun g13 o13 k13 w13 => ?_)
  have z13 : g13.1 = 48 := w13.trans y13
  have e13 := r13.e (h' := g13) (fun x x1 x2 => k13 x (by omega))
  have t13 : ∀ x, x < 43 → x ≠ 1 → g13.2 x = g12.2 x := fun x hx h1 => (k13 x h1).trans ((f13 x hx).trans (mw_ne (by omega) rfl))
  refine z_push 159 (nI 0) rfl rfl rfl ?_
  refine z_istore 160 rfl rfl rfl rfl ?_
  refine z_iload 161 rfl rfl rfl ?_
  refine z_push 162 (nI 4) rfl rfl rfl ?_
  refine z_nge 165 rfl rfl (by omega) (by omega) (fun h9 => absurd h9 (by omega)) (fun _ => ?_)
  refine z_aload 166 rfl rfl rfl ?_
  refine z_get 169 rfl rfl (by repeat (first | exact h0e | exact o1 | exact p2 | exact o2 | exact p3 | exact o3 | exact p4 | exact o4 | exact p5 | exact o5 | exact p6 | exact o6 | exact o7 | exact o8 | exact o9 | exact p10 | exact p11 | exact o11 | exact p12 | exact o12 | exact p13 | exact o13 | exact p14 | exact m14 | exact o14 | exact r14.1 | exact p15 | exact m15 | exact o15 | exact r15.1 | exact p16 | exact m16 | exact o16 | exact r16.1 | exact p17 | exact m17 | exact o17 | exact r17.1 | exact mg_eq _ _ _ | exact mw_eq _ _ _ | refine mg_ne (by decide) ?_ | refine mw_ne (by decide) ?_)) rfl ?_
  refine z_iload 170 rfl rfl rfl ?_
  refine z_newA 173 48 z13 rfl rfl (by omega) (by omega) ?_
  first | refine z_dup 174 rfl rfl ?_ | refine z_dupi 174 rfl rfl ?_
  refine z_aload 175 rfl rfl rfl ?_
  refine z_aload 176 rfl rfl rfl ?_
  refine z_ci2 179 rfl rfl rfl (by omega) (by omega) ?_
  refine c_Mc_init (mw_eq _ _ _) rfl (fun b14 y14 r14 f14 => ?_)
  have p14 : b14.2 13 = .inr (.inl (3, 4, (fun _ => none))) := (f14 13 (by decide)).trans (mw_ne (by decide) ((t13 13 (by decide) (by decide)).trans ((t12 13 (by decide) (by decide)).trans ((t11 13 (by decide) (by decide)).trans ((t10 13 (by decide) (by decide)).trans ((t9 13 (by decide) (by decide)).trans ((t8 13 (by decide) (by decide)).trans e7)))))))
  refine z_qst 180 rfl rfl (by repeat (first | exact h0e | exact o1 | exact p2 | exact o2 | exact p3 | exact o3 | exact p4 | exact o4 | exact p5 | exact o5 | exact p6 | exact o6 | exact o7 | exact o8 | exact o9 | exact p10 | exact p11 | exact o11 | exact p12 | exact o12 | exact p13 | exact o13 | exact p14 | exact m14 | exact o14 | exact r14.1 | exact p15 | exact m15 | exact o15 | exact r15.1 | exact p16 | exact m16 | exact o16 | exact r16.1 | exact p17 | exact m17 | exact o17 | exact r17.1 | exact mg_eq _ _ _ | exact mw_eq _ _ _ | refine mg_ne (by decide) ?_ | refine mw_ne (by decide) ?_)) (by repeat (first | exact h0e | exact o1 | exact p2 | exact o2 | exact p3 | exact o3 | exact p4 | exact o4 | exact p5 | exact o5 | exact p6 | exact o6 | exact o7 | exact o8 | exact o9 | exact p10 | exact p11 | exact o11 | exact p12 | exact o12 | exact p13 | exact o13 | exact p14 | exact m14 | exact o14 | exact r14.1 | exact p15 | exact m15 | exact o15 | exact r15.1 | exact p16 | exact m16 | exact o16 | exact r16.1 | exact p17 | exact m17 | exact o17 | exact r17.1 | exact mg_eq _ _ _ | exact mw_eq _ _ _ | refine mg_ne (by decide) ?_ | refine mw_ne (by decide) ?_)) (by decide) rfl (by omega) (by omega) ?_
  refine z_ab 13 (.inr (.inl (3, 4, (va_up (fun _ => none) 0 (some 48))))) b14 (mg_eq _ _ _) (fun x hx => by simp only [mSet, if_neg hx]) rfl (fun g14 m14 k14 w14 => ?_)
  have z14 : g14.1 = 60 := w14.trans y14
  have e14 := r14.e (h' := g14) (fun x x1 x2 => k14 x (by omega))
  have t14 : ∀ x, x < 48 → x ≠ 13 → g14.2 x = g13.2 x := fun x hx h1 => (k14 x h1).trans ((f14 x hx).trans (mw_ne (by omega) rfl))
  have o14 : g14.2 1 = .inr (.inr (11, [.ref 2, .int 0, .null, .ref 3, .ref 5, .ref 7, .int (nI 0), .ref 9, .ref 11, .ref 16, .ref 41, .ref 43, .ref 13, .int 0, .ref 14, .ref 15, .int 0])) := (t14 1 (by decide) (by decide)).trans o13
  refine z_iinc 183 (nI 1) rfl rfl rfl rfl (by decide) ?_
  refine z_goto rfl ?_
  refine z_iload 161 rfl rfl rfl ?_
  refine z_push 162 (nI 4) rfl rfl rfl ?_
  refine z_nge 165 rfl rfl (by omega) (by omega) (fun h9 => absurd h9 (by omega)) (fun _ => ?_)
  refine z_aload 166 rfl rfl rfl ?_
  refine z_get 169 rfl rfl (by repeat (first | exact h0e | exact o1 | exact p2 | exact o2 | exact p3 | exact o3 | exact p4 | exact o4 | exact p5 | exact o5 | exact p6 | exact o6 | exact o7 | exact o8 | exact o9 | exact p10 | exact p11 | exact o11 | exact p12 | exact o12 | exact p13 | exact o13 | exact p14 | exact m14 | exact o14 | exact r14.1 | exact p15 | exact m15 | exact o15 | exact r15.1 | exact p16 | exact m16 | exact o16 | exact r16.1 | exact p17 | exact m17 | exact o17 | exact r17.1 | exact mg_eq _ _ _ | exact mw_eq _ _ _ | refine mg_ne (by decide) ?_ | refine mw_ne (by decide) ?_)) rfl ?_
  refine z_iload 170 rfl rfl rfl ?_
  refine z_newA 173 60 z14 rfl rfl (by omega) (by omega) ?_
  first | refine z_dup 174 rfl rfl ?_ | refine z_dupi 174 rfl rfl ?_
  refine z_aload 175 rfl rfl rfl ?_
  refine z_aload 176 rfl rfl rfl ?_
  refine z_ci2 179 rfl rfl rfl (by omega) (by omega) ?_
  refine c_Mc_init (mw_eq _ _ _) rfl (fun b15 y15 r15 f15 => ?_)
  have p15 : b15.2 13 = .inr (.inl (3, 4, (va_up (fun _ => none) 0 (some 48)))) := (f15 13 (by decide)).trans (mw_ne (by decide) m14)
  refine z_qst 180 rfl rfl (by repeat (first | exact h0e | exact o1 | exact p2 | exact o2 | exact p3 | exact o3 | exact p4 | exact o4 | exact p5 | exact o5 | exact p6 | exact o6 | exact o7 | exact o8 | exact o9 | exact p10 | exact p11 | exact o11 | exact p12 | exact o12 | exact p13 | exact o13 | exact p14 | exact m14 | exact o14 | exact r14.1 | exact p15 | exact m15 | exact o15 | exact r15.1 | exact p16 | exact m16 | exact o16 | exact r16.1 | exact p17 | exact m17 | exact o17 | exact r17.1 | exact mg_eq _ _ _ | exact mw_eq _ _ _ | refine mg_ne (by decide) ?_ | refine mw_ne (by decide) ?_)) (by repeat (first | exact h0e | exact o1 | exact p2 | exact o2 | exact p3 | exact o3 | exact p4 | exact o4 | exact p5 | exact o5 | exact p6 | exact o6 | exact o7 | exact o8 | exact o9 | exact p10 | exact p11 | exact o11 | exact p12 | exact o12 | exact p13 | exact o13 | exact p14 | exact m14 | exact o14 | exact r14.1 | exact p15 | exact m15 | exact o15 | exact r15.1 | exact p16 | exact m16 | exact o16 | exact r16.1 | exact p17 | exact m17 | exact o17 | exact r17.1 | exact mg_eq _ _ _ | exact mw_eq _ _ _ | refine mg_ne (by decide) ?_ | refine mw_ne (by decide) ?_)) (by decide) rfl (by omega) (by omega) ?_
  refine z_ab 13 (.inr (.inl (3, 4, (va_up (va_up (fun _ => none) 0 (some 48)) 1 (some 60))))) b15 (mg_eq _ _ _) (fun x hx => by simp only [mSet, if_neg hx]) rfl (fun g15 m15 k15 w15 => ?_)
  have z15 : g15.1 = 72 := w15.trans y15
  have e15 := r15.e (h' := g15) (fun x x1 x2 => k15 x (by omega))
  have t15 : ∀ x, x < 60 → x ≠ 13 → g15.2 x = g14.2 x := fun x hx h1 => (k15 x h1).trans ((f15 x hx).trans (mw_ne (by omega) rfl))
  have o15 : g15.2 1 = .inr (.inr (11, [.ref 2, .int 0, .null, .ref 3, .ref 5, .ref 7, .int (nI 0), .ref 9, .ref 11, .ref 16, .ref 41, .ref 43, .ref 13, .int 0, .ref 14, .ref 15, .int 0])) := (t15 1 (by decide) (by decide)).trans o14
  refine z_iinc 183 (nI 2) rfl rfl rfl rfl (by decide) ?_
  refine z_goto rfl ?_
  refine z_iload 161 rfl rfl rfl ?_
  refine z_push 162 (nI 4) rfl rfl rfl ?_
  refine z_nge 165 rfl rfl (by omega) (by omega) (fun h9 => absurd h9 (by omega)) (fun _ => ?_)
  refine z_aload 166 rfl rfl rfl ?_
  refine z_get 169 rfl rfl (by repeat (first | exact h0e | exact o1 | exact p2 | exact o2 | exact p3 | exact o3 | exact p4 | exact o4 | exact p5 | exact o5 | exact p6 | exact o6 | exact o7 | exact o8 | exact o9 | exact p10 | exact p11 | exact o11 | exact p12 | exact o12 | exact p13 | exact o13 | exact p14 | exact m14 | exact o14 | exact r14.1 | exact p15 | exact m15 | exact o15 | exact r15.1 | exact p16 | exact m16 | exact o16 | exact r16.1 | exact p17 | exact m17 | exact o17 | exact r17.1 | exact mg_eq _ _ _ | exact mw_eq _ _ _ | refine mg_ne (by decide) ?_ | refine mw_ne (by decide) ?_)) rfl ?_
  refine z_iload 170 rfl rfl rfl ?_
  refine z_newA 173 72 z15 rfl rfl (by omega) (by omega) ?_
  first | refine z_dup 174 rfl rfl ?_ | refine z_dupi 174 rfl rfl ?_
  refine z_aload 175 rfl rfl rfl ?_
  refine z_aload 176 rfl rfl rfl ?_
  refine z_ci2 179 rfl rfl rfl (by omega) (by omega) ?_
  refine c_Mc_init (mw_eq _ _ _) rfl (fun b16 y16 r16 f16 => ?_)
  have p16 : b16.2 13 = .inr (.inl (3, 4, (va_up (va_up (fun _ => none) 0 (some 48)) 1 (some 60)))) := (f16 13 (by decide)).trans (mw_ne (by decide) m15)
  refine z_qst 180 rfl rfl (by repeat (first | exact h0e | exact o1 | exact p2 | exact o2 | exact p3 | exact o3 | exact p4 | exact o4 | exact p5 | exact o5 | exact p6 | exact o6 | exact o7 | exact o8 | exact o9 | exact p10 | exact p11 | exact o11 | exact p12 | exact o12 | exact p13 | exact o13 | exact p14 | exact m14 | exact o14 | exact r14.1 | exact p15 | exact m15 | exact o15 | exact r15.1 | exact p16 | exact m16 | exact o16 | exact r16.1 | exact p17 | exact m17 | exact o17 | exact r17.1 | exact mg_eq _ _ _ | exact mw_eq _ _ _ | refine mg_ne (by decide) ?_ | refine mw_ne (by decide) ?_)) (by repeat (first | exact h0e | exact o1 | exact p2 | exact o2 | exact p3 | exact o3 | exact p4 | exact o4 | exact p5 | exact o5 | exact p6 | exact o6 | exact o7 | exact o8 | exact o9 | exact p10 | exact p11 | exact o11 | exact p12 | exact o12 | exact p13 | exact o13 | exact p14 | exact m14 | exact o14 | exact r14.1 | exact p15 | exact m15 | exact o15 | exact r15.1 | exact p16 | exact m16 | exact o16 | exact r16.1 | exact p17 | exact m17 | exact o17 | exact r17.1 | exact mg_eq _ _ _ | exact mw_eq _ _ _ | refine mg_ne (by decide) ?_ | refine mw_ne (by decide) ?_)) (by decide) rfl (by omega) (by omega) ?_
  refine z_ab 13 (.inr (.inl (3, 4, (va_up (va_up (va_up (fun _ => none) 0 (some 48)) 1 (some 60)) 2 (some 72))))) b16 (mg_eq _ _ _) (fun x hx => by simp only [mSet, if_neg hx]) rfl (fun g16 m16 k16 w16 => ?_)
  have z16 : g16.1 = 84 := w16.trans y16
  have e16 := r16.e (h' := g16) (fun x x1 x2 => k16 x (by omega))
  have t16 : ∀ x, x < 72 → x ≠ 13 → g16.2 x = g15.2 x := fun x hx h1 => (k16 x h1).trans ((f16 x hx).trans (mw_ne (by omega) rfl))
  have o16 : g16.2 1 = .inr (.inr (11, [.ref 2, .int 0, .null, .ref 3, .ref 5, .ref 7, .int (nI 0), .ref 9, .ref 11, .ref 16, .ref 41, .ref 43, .ref 13, .int 0, .ref 14, .ref 15, .int 0])) := (t16 1 (by decide) (by decide)).trans o15
  refine z_iinc 183 (nI 3) rfl rfl rfl rfl (by decide) ?_
  refine z_goto rfl ?_
  refine z_iload 161 rfl rfl rfl ?_
  refine z_push 162 (nI 4) rfl rfl rfl ?_
  refine z_nge 165 rfl rfl (by omega) (by omega) (fun h9 => absurd h9 (by omega)) (fun _ => ?_)
  refine z_aload 166 rfl rfl rfl ?_
  refine z_get 169 rfl rfl (by repeat (first | exact h0e | exact o1 | exact p2 | exact o2 | exact p3 | exact o3 | exact p4 | exact o4 | exact p5 | exact o5 | exact p6 | exact o6 | exact o7 | exact o8 | exact o9 | exact p10 | exact p11 | exact o11 | exact p12 | exact o12 | exact p13 | exact o13 | exact p14 | exact m14 | exact o14 | exact r14.1 | exact p15 | exact m15 | exact o15 | exact r15.1 | exact p16 | exact m16 | exact o16 | exact r16.1 | exact p17 | exact m17 | exact o17 | exact r17.1 | exact mg_eq _ _ _ | exact mw_eq _ _ _ | refine mg_ne (by decide) ?_ | refine mw_ne (by decide) ?_)) rfl ?_
  refine z_iload 170 rfl rfl rfl ?_
  refine z_newA 173 84 z16 rfl rfl (by omega) (by omega) ?_
  first | refine z_dup 174 rfl rfl ?_ | refine z_dupi 174 rfl rfl ?_
  refine z_aload 175 rfl rfl rfl ?_
  refine z_aload 176 rfl rfl rfl ?_
  refine z_ci2 179 rfl rfl rfl (by omega) (by omega) ?_
  refine c_Mc_init (mw_eq _ _ _) rfl (fun b17 y17 r17 f17 => ?_)
  have p17 : b17.2 13 = .inr (.inl (3, 4, (va_up (va_up (va_up (fun _ => none) 0 (some 48)) 1 (some 60)) 2 (some 72)))) := (f17 13 (by decide)).trans (mw_ne (by decide) m16)
  refine z_qst 180 rfl rfl (by repeat (first | exact h0e | exact o1 | exact p2 | exact o2 | exact p3 | exact o3 | exact p4 | exact o4 | exact p5 | exact o5 | exact p6 | exact o6 | exact o7 | exact o8 | exact o9 | exact p10 | exact p11 | exact o11 | exact p12 | exact o12 | exact p13 | exact o13 | exact p14 | exact m14 | exact o14 | exact r14.1 | exact p15 | exact m15 | exact o15 | exact r15.1 | exact p16 | exact m16 | exact o16 | exact r16.1 | exact p17 | exact m17 | exact o17 | exact r17.1 | exact mg_eq _ _ _ | exact mw_eq _ _ _ | refine mg_ne (by decide) ?_ | refine mw_ne (by decide) ?_)) (by repeat (first | exact h0e | exact o1 | exact p2 | exact o2 | exact p3 | exact o3 | exact p4 | exact o4 | exact p5 | exact o5 | exact p6 | exact o6 | exact o7 | exact o8 | exact o9 | exact p10 | exact p11 | exact o11 | exact p12 | exact o12 | exact p13 | exact o13 | exact p14 | exact m14 | exact o14 | exact r14.1 | exact p15 | exact m15 | exact o15 | exact r15.1 | exact p16 | exact m16 | exact o16 | exact r16.1 | exact p17 | exact m17 | exact o17 | exact r17.1 | exact mg_eq _ _ _ | exact mw_eq _ _ _ | refine mg_ne (by decide) ?_ | refine mw_ne (by decide) ?_)) (by decide) rfl (by omega) (by omega) ?_
  refine z_ab 13 (.inr (.inl (3, 4, (va_up (va_up (va_up (va_up (fun _ => none) 0 (some 48)) 1 (some 60)) 2 (some 72)) 3 (some 84))))) b17 (mg_eq _ _ _) (fun x hx => by simp only [mSet, if_neg hx]) rfl (fun g17 m17 k17 w17 => ?_)
  have z17 : g17.1 = 96 := w17.trans y17
  have e17 := r17.e (h' := g17) (fun x x1 x2 => k17 x (by omega))
  have t17 : ∀ x, x < 84 → x ≠ 13 → g17.2 x = g16.2 x := fun x hx h1 => (k17 x h1).trans ((f17 x hx).trans (mw_ne (by omega) rfl))
  have o17 : g17.2 1 = .inr (.inr (11, [.ref 2, .int 0, .null, .ref 3, .ref 5, .ref 7, .int (nI 0), .ref 9, .ref 11, .ref 16, .ref 41, .ref 43, .ref 13, .int 0, .ref 14, .ref 15, .int 0])) := (t17 1 (by decide) (by decide)).trans o16
  refine z_iinc 183 (nI 4) rfl rfl rfl rfl (by decide) ?_
  refine z_goto rfl ?_
  refine z_iload 161 rfl rfl rfl ?_
  refine z_push 162 (nI 4) rfl rfl rfl ?_
  refine z_nge 165 rfl rfl (by omega) (by omega) (fun _ => ?_) (fun h9 => absurd h9 (by omega))
  refine z_vret rfl (by omega) (by omega) ?_
  have G17 : ∀ x, x < 96 → x ≠ 1 → x ≠ 13 → g17.2 x = g17.2 x := fun _ _ _ _ => rfl
  have G16 : ∀ x, x < 84 → x ≠ 1 → x ≠ 13 → g17.2 x = g16.2 x := fun x hx h1 h2 => (G17 x (by omega) h1 h2).trans (t17 x hx h2)
  have G15 : ∀ x, x < 72 → x ≠ 1 → x ≠ 13 → g17.2 x = g15.2 x := fun x hx h1 h2 => (G16 x (by omega) h1 h2).trans (t16 x hx h2)
  have G14 : ∀ x, x < 60 → x ≠ 1 → x ≠ 13 → g17.2 x = g14.2 x := fun x hx h1 h2 => (G15 x (by omega) h1 h2).trans (t15 x hx h2)
  have G13 : ∀ x, x < 48 → x ≠ 1 → x ≠ 13 → g17.2 x = g13.2 x := fun x hx h1 h2 => (G14 x (by omega) h1 h2).trans (t14 x hx h2)
  have G12 : ∀ x, x < 43 → x ≠ 1 → x ≠ 13 → g17.2 x = g12.2 x := fun x hx h1 h2 => (G13 x (by omega) h1 h2).trans (t13 x hx h1)
  have G11 : ∀ x, x < 41 → x ≠ 1 → x ≠ 13 → g17.2 x = g11.2 x := fun x hx h1 h2 => (G12 x (by omega) h1 h2).trans (t12 x hx h1)
  have G10 : ∀ x, x < 21 → x ≠ 1 → x ≠ 13 → g17.2 x = b10.2 x := fun x hx h1 h2 => (G11 x (by omega) h1 h2).trans (t11 x hx h1)
  have G9 : ∀ x, x < 16 → x ≠ 1 → x ≠ 13 → g17.2 x = g9.2 x := fun x hx h1 h2 => (G10 x (by omega) h1 h2).trans (t10 x hx h1)
  have G8 : ∀ x, x < 15 → x ≠ 1 → x ≠ 13 → g17.2 x = g8.2 x := fun x hx h1 h2 => (G9 x (by omega) h1 h2).trans (t9 x hx h1)
  have G7 : ∀ x, x < 14 → x ≠ 1 → x ≠ 13 → g17.2 x = g7.2 x := fun x hx h1 h2 => (G8 x (by omega) h1 h2).trans (t8 x hx h1)
  have G6 : ∀ x, x < 13 → x ≠ 1 → x ≠ 13 → g17.2 x = g6.2 x := fun x hx h1 h2 => (G7 x (by omega) h1 h2).trans (t7 x hx h1)
  have G5 : ∀ x, x < 11 → x ≠ 1 → x ≠ 13 → g17.2 x = g5.2 x := fun x hx h1 h2 => (G6 x (by omega) h1 h2).trans (t6 x hx h1)
  have G4 : ∀ x, x < 9 → x ≠ 1 → x ≠ 13 → g17.2 x = g4.2 x := fun x hx h1 h2 => (G5 x (by omega) h1 h2).trans (t5 x hx h1)
  have G3 : ∀ x, x < 7 → x ≠ 1 → x ≠ 13 → g17.2 x = g3.2 x := fun x hx h1 h2 => (G4 x (by omega) h1 h2).trans (t4 x hx h1)
  have G2 : ∀ x, x < 5 → x ≠ 1 → x ≠ 13 → g17.2 x = g2.2 x := fun x hx h1 h2 => (G3 x (by omega) h1 h2).trans (t3 x hx h1)
  have G1 : ∀ x, x < 3 → x ≠ 1 → x ≠ 13 → g17.2 x = g1.2 x := fun x hx h1 h2 => (G2 x (by omega) h1 h2).trans (t2 x hx h1)
  have hM : ∀ d, d < 4 → McAt g17 (48 + 12 * d) 16 21 false (-1) 0 0 4 0 [] 0 0 0 [] := by
    intro d hd
    rcases (show d = 0 ∨ d = 1 ∨ d = 2 ∨ d = 3 by omega) with rfl | rfl | rfl | rfl
    · exact (e14.e (fun x x1 x2 => G14 x (by omega) (by omega) (by omega)))
    · exact (e15.e (fun x x1 x2 => G15 x (by omega) (by omega) (by omega)))
    · exact (e16.e (fun x x1 x2 => G16 x (by omega) (by omega) (by omega)))
    · exact e17
  refine q g17 z17 ⟨o17, Or.inl ⟨rfl, rfl⟩, ⟨Nat.zero_le _, ⟨fun _ => none, ((G1 2 (by decide) (by decide) (by decide)).trans e1), fun j hj => absurd hj (Nat.not_lt_zero j)⟩, fun j hj => absurd hj (Nat.not_lt_zero j), fun i j hi => absurd hi (Nat.not_lt_zero i), fun s hs => by cases hs⟩, (e2.e (fun x x1 x2 => G2 x (by omega) (by omega) (by omega))), (e3.e (fun x x1 x2 => G3 x (by omega) (by omega) (by omega))), (e4.e (fun x x1 x2 => G4 x (by omega) (by omega) (by omega))), ⟨⟨[], (e5.e (fun x x1 x2 => G5 x (by omega) (by omega) (by omega)))⟩, ⟨[], (e6.e (fun x x1 x2 => G6 x (by omega) (by omega) (by omega)))⟩, ⟨_, _, _, _, _, (e12.e (fun x x1 x2 => G12 x (by omega) (by omega) (by omega)))⟩, ⟨_, _, _, _, _, (e13.e (fun x x1 x2 => G13 x (by omega) (by omega) (by omega)))⟩, _, ((G9 15 (by decide) (by decide) (by decide)).trans e9)⟩, ⟨fun _ => 0, ((G8 14 (by decide) (by decide) (by decide)).trans e8), rfl, rfl, rfl⟩, (e10.e (fun x x1 x2 => G10 x (by omega) (by omega) (by omega))), ⟨(va_up (va_up (va_up (va_up (fun _ => none) 0 (some 48)) 1 (some 60)) 2 (some 72)) 3 (some 84)), m17, fun j hj => ?_⟩, fun d hd => ⟨_, _, _, _, _, _, _, _, _, _, hM d hd⟩⟩ ?_
  · rcases (show j = 0 ∨ j = 1 ∨ j = 2 ∨ j = 3 by omega) with rfl | rfl | rfl | rfl <;> rfl
  · exact (G1 0 (by decide) (by decide) (by decide)).trans (t1 0 (by decide) (by decide))
