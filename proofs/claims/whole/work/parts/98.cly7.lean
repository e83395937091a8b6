/-! a page made -/
set_option maxRecDepth 100000 in
theorem c_Pg_init0 {d : Nat} {h : mH} {p : Nat} {Q : mP} (h0e : h.2 p = .inr (.inr (4, [.int 0, .int 0, .null, .null, .null, .null, .null, .null, .int 0, .int 0]))) (hz : h.1 = p + 1)  (q : ∀ h', h'.1 = p + 20 → PgO h' p [] [] → (∀ x, x < p → h'.2 x = h.2 x) → Q none h') : mWP (d + 2) 33 [.ref p, .int (nI 0)] h Q := by
  refine z_in [some (.ref p), some (.int (nI 0)), none] (by rfl) rfl rfl rfl ?_
  refine z_aload 1 rfl rfl rfl ?_
  refine z_oi 4 rfl rfl rfl ?_
  refine z_aload 5 rfl rfl rfl ?_
  refine z_newA 8 (p + 1) hz rfl rfl (by omega) (by omega) ?_
  first | refine z_dup 9 rfl rfl ?_ | refine z_dupi 9 rfl rfl ?_
  refine z_ci0 12 rfl rfl rfl (by omega) (by omega) ?_
  refine c_Ro_init (mw_eq _ _ _) rfl (fun h2 z2 hR2 hf2 => ?_)
  have hp2 : h2.2 p = _ := (hf2 p (by omega)).trans (mw_ne (by omega) h0e)
  refine z_put 15 rfl rfl (by repeat (first | exact h0e | exact hp2 | exact hp3 | exact hp4 | exact hp5 | exact hp6 | exact hp7 | exact mg_eq _ _ _ | exact mw_eq _ _ _ | refine mg_ne (by omega) ?_ | refine mw_ne (by omega) ?_)) rfl (mFo rfl) ?_
  refine z_aload 16 rfl rfl rfl ?_
  refine z_push 17 (nI 1) rfl rfl rfl ?_
  refine z_put 20 rfl rfl (by repeat (first | exact h0e | exact hp2 | exact hp3 | exact hp4 | exact hp5 | exact hp6 | exact hp7 | exact mg_eq _ _ _ | exact mw_eq _ _ _ | refine mg_ne (by omega) ?_ | refine mw_ne (by omega) ?_)) rfl (mFi rfl) ?_
  refine z_aload 21 rfl rfl rfl ?_
  refine z_iload 22 rfl rfl rfl ?_
  refine z_put 25 rfl rfl (by repeat (first | exact h0e | exact hp2 | exact hp3 | exact hp4 | exact hp5 | exact hp6 | exact hp7 | exact mg_eq _ _ _ | exact mw_eq _ _ _ | refine mg_ne (by omega) ?_ | refine mw_ne (by omega) ?_)) rfl (mFi rfl) ?_
  refine z_iload 26 rfl rfl rfl ?_
  refine z_zne 29 rfl rfl (by omega) (fun h9 => absurd rfl h9) (fun _ => ?_)
  refine z_push 30 (nI 1) rfl rfl rfl ?_
  refine z_goto rfl ?_
  refine z_istore 35 rfl rfl rfl rfl ?_
  refine z_aload 36 rfl rfl rfl ?_
  refine z_iload 37 rfl rfl rfl ?_
  refine z_zne 40 rfl rfl (by omega) (fun _ => ?_) (fun h9 => absurd h9 (by omega))
  refine z_push 45 (nI 0) rfl rfl rfl ?_
  refine z_put 48 rfl rfl (by repeat (first | exact h0e | exact hp2 | exact hp3 | exact hp4 | exact hp5 | exact hp6 | exact hp7 | exact mg_eq _ _ _ | exact mw_eq _ _ _ | refine mg_ne (by omega) ?_ | refine mw_ne (by omega) ?_)) rfl (mFb rfl (by decide)) ?_
  refine z_ab p (.inr (.inr (4, [.int (nI 0), .int (bI false), .null, .null, .ref (p + 1), .null, .null, .null, .int 0, .int (nI 1)]))) h2 (mg_eq _ _ _) (fun x hx => by simp only [mSet, if_neg hx]) rfl (fun h3 hp3 kh3 zh3 => ?_)
  refine z_aload 49 rfl rfl rfl ?_
  refine z_newA 52 (p + 6) (zh3.trans z2) rfl rfl (by omega) (by omega) ?_
  first | refine z_dup 53 rfl rfl ?_ | refine z_dupi 53 rfl rfl ?_
  refine z_iload 54 rfl rfl rfl ?_
  refine z_zeq 57 rfl rfl (by omega) (fun h9 => absurd h9 (by omega)) (fun _ => ?_)
  refine z_push 59 (nI 100) rfl rfl rfl ?_
  refine z_goto rfl ?_
  refine z_ci1 66 rfl rfl rfl (by omega) (by omega) ?_
  refine c_En_init (n := 100) (mw_eq _ _ _) rfl (by decide) (fun h4 z4 hE4 hf4 => ?_)
  have hp4 : h4.2 p = _ := (hf4 p (by omega)).trans (mw_ne (by omega) hp3)
  refine z_put 69 rfl rfl (by repeat (first | exact h0e | exact hp2 | exact hp3 | exact hp4 | exact hp5 | exact hp6 | exact hp7 | exact mg_eq _ _ _ | exact mw_eq _ _ _ | refine mg_ne (by omega) ?_ | refine mw_ne (by omega) ?_)) rfl (mFo rfl) ?_
  refine z_ab p (.inr (.inr (4, [.int (nI 0), .int (bI false), .ref (p + 6), .null, .ref (p + 1), .null, .null, .null, .int 0, .int (nI 1)]))) h4 (mg_eq _ _ _) (fun x hx => by simp only [mSet, if_neg hx]) rfl (fun h5 hp5 kh5 zh5 => ?_)
  refine z_aload 70 rfl rfl rfl ?_
  refine z_newA 73 (p + 12) (zh5.trans z4) rfl rfl (by omega) (by omega) ?_
  first | refine z_dup 74 rfl rfl ?_ | refine z_dupi 74 rfl rfl ?_
  refine z_iload 75 rfl rfl rfl ?_
  refine z_zeq 78 rfl rfl (by omega) (fun h9 => absurd h9 (by omega)) (fun _ => ?_)
  refine z_push 80 (nI 10) rfl rfl rfl ?_
  refine z_goto rfl ?_
  refine z_ci1 87 rfl rfl rfl (by omega) (by omega) ?_
  refine c_Sh_init (n := 10) (mw_eq _ _ _) rfl (by decide) (fun h6 z6 hS6 hf6 => ?_)
  have hp6 : h6.2 p = _ := (hf6 p (by omega)).trans (mw_ne (by omega) hp5)
  refine z_put 90 rfl rfl (by repeat (first | exact h0e | exact hp2 | exact hp3 | exact hp4 | exact hp5 | exact hp6 | exact hp7 | exact mg_eq _ _ _ | exact mw_eq _ _ _ | refine mg_ne (by omega) ?_ | refine mw_ne (by omega) ?_)) rfl (mFo rfl) ?_
  refine z_ab p (.inr (.inr (4, [.int (nI 0), .int (bI false), .ref (p + 6), .ref (p + 12), .ref (p + 1), .null, .null, .null, .int 0, .int (nI 1)]))) h6 (mg_eq _ _ _) (fun x hx => by simp only [mSet, if_neg hx]) rfl (fun h7 hp7 kh7 zh7 => ?_)
  refine z_aload 91 rfl rfl rfl ?_
  refine z_iload 92 rfl rfl rfl ?_
  refine z_zeq 95 rfl rfl (by omega) (fun h9 => absurd h9 (by omega)) (fun _ => ?_)
  refine z_push 98 (nI 1024) rfl rfl rfl ?_
  refine z_goto rfl ?_
  refine z_newaA 104 (p + 17) (zh7.trans z6) rfl rfl rfl (by omega) (by omega) (by omega) ?_
  refine z_put 107 rfl rfl (by repeat (first | exact h0e | exact hp2 | exact hp3 | exact hp4 | exact hp5 | exact hp6 | exact hp7 | exact mg_eq _ _ _ | exact mw_eq _ _ _ | refine mg_ne (by omega) ?_ | refine mw_ne (by omega) ?_)) rfl (mFa rfl) ?_
  refine z_aload 108 rfl rfl rfl ?_
  refine z_iload 109 rfl rfl rfl ?_
  refine z_zeq 112 rfl rfl (by omega) (fun h9 => absurd h9 (by omega)) (fun _ => ?_)
  refine z_push 114 (nI 110) rfl rfl rfl ?_
  refine z_goto rfl ?_
  refine z_newaA 120 (p + 18) rfl rfl rfl rfl (by omega) (by omega) (by omega) ?_
  refine z_put 123 rfl rfl (by repeat (first | exact h0e | exact hp2 | exact hp3 | exact hp4 | exact hp5 | exact hp6 | exact hp7 | exact mg_eq _ _ _ | exact mw_eq _ _ _ | refine mg_ne (by omega) ?_ | refine mw_ne (by omega) ?_)) rfl (mFa rfl) ?_
  refine z_aload 124 rfl rfl rfl ?_
  refine z_iload 125 rfl rfl rfl ?_
  refine z_zeq 128 rfl rfl (by omega) (fun h9 => absurd h9 (by omega)) (fun _ => ?_)
  refine z_push 130 (nI 100) rfl rfl rfl ?_
  refine z_goto rfl ?_
  refine z_newaA 136 (p + 19) rfl rfl rfl rfl (by omega) (by omega) (by omega) ?_
  refine z_put 139 rfl rfl (by repeat (first | exact h0e | exact hp2 | exact hp3 | exact hp4 | exact hp5 | exact hp6 | exact hp7 | exact mg_eq _ _ _ | exact mw_eq _ _ _ | refine mg_ne (by omega) ?_ | refine mw_ne (by omega) ?_)) rfl (mFa rfl) ?_
  refine z_vret rfl (by omega) (by omega) ?_
  have f34 : ∀ x, x < p + 6 → h4.2 x = h3.2 x := fun x hx => (hf4 x hx).trans (mw_ne (by omega) rfl)
  have f56 : ∀ x, x < p + 12 → h6.2 x = h5.2 x := fun x hx => (hf6 x hx).trans (mw_ne (by omega) rfl)
  have f02 : ∀ x, x < p + 1 → h2.2 x = h.2 x := fun x hx => (hf2 x hx).trans (mw_ne (by omega) rfl)
  have hR7 := hR2.e (h' := h7) (fun x x1 x2 => (kh7 x (by omega)).trans ((f56 x (by omega)).trans ((kh5 x (by omega)).trans ((f34 x (by omega)).trans (kh3 x (by omega))))))
  have hE7 := hE4.e (h' := h7) (fun x x1 x2 => (kh7 x (by omega)).trans ((f56 x (by omega)).trans (kh5 x (by omega))))
  have hS7 := hS6.e (h' := h7) (fun x x1 x2 => kh7 x (by omega))
  have f70 : ∀ x, x < p → h7.2 x = h.2 x := fun x hx => (kh7 x (by omega)).trans ((f56 x (by omega)).trans ((kh5 x (by omega)).trans ((f34 x (by omega)).trans ((kh3 x (by omega)).trans (f02 x (by omega))))))
  have feE : ∀ hh : mH, (∀ x, x < p + 17 → x ≠ p → hh.2 x = h7.2 x) → EnA hh (p + 6) 100 [] := fun hh hf => hE7.e (fun x x1 x2 => hf x (by omega) (by omega))
  have feS : ∀ hh : mH, (∀ x, x < p + 17 → x ≠ p → hh.2 x = h7.2 x) → ShA hh (p + 12) 10 [] := fun hh hf => hS7.e (fun x x1 x2 => hf x (by omega) (by omega))
  have feR : ∀ hh : mH, (∀ x, x < p + 17 → x ≠ p → hh.2 x = h7.2 x) → RoAt hh (p + 1) (fun _ => nI 0) (fun _ => nI 0) (fun _ => nI 0) (fun _ => nI 0) := fun hh hf => hR7.e (fun x x1 x2 => hf x (by omega) (by omega))
  exact q _ rfl ⟨0, 1, fun _ => 0, fun _ => 0, fun _ => 0, fun _ => nI 0, fun _ => nI 0, fun _ => nI 0, fun _ => 0, ⟨(by repeat (first | exact h0e | exact hp2 | exact hp3 | exact hp4 | exact hp5 | exact hp6 | exact hp7 | exact mg_eq _ _ _ | exact mw_eq _ _ _ | refine mg_ne (by omega) ?_ | refine mw_ne (by omega) ?_)), feE _ (fun x hx x2 => by repeat (first | with_reducible rfl | refine mg_ne (by omega) ?_ | refine mw_ne (by omega) ?_)), feS _ (fun x hx x2 => by repeat (first | with_reducible rfl | refine mg_ne (by omega) ?_ | refine mw_ne (by omega) ?_)), (by repeat (first | exact h0e | exact hp2 | exact hp3 | exact hp4 | exact hp5 | exact hp6 | exact hp7 | exact mg_eq _ _ _ | exact mw_eq _ _ _ | refine mg_ne (by omega) ?_ | refine mw_ne (by omega) ?_)), (by repeat (first | exact h0e | exact hp2 | exact hp3 | exact hp4 | exact hp5 | exact hp6 | exact hp7 | exact mg_eq _ _ _ | exact mw_eq _ _ _ | refine mg_ne (by omega) ?_ | refine mw_ne (by omega) ?_))⟩, (by repeat (first | exact h0e | exact hp2 | exact hp3 | exact hp4 | exact hp5 | exact hp6 | exact hp7 | exact mg_eq _ _ _ | exact mw_eq _ _ _ | refine mg_ne (by omega) ?_ | refine mw_ne (by omega) ?_)), feR _ (fun x hx x2 => by repeat (first | with_reducible rfl | refine mg_ne (by omega) ?_ | refine mw_ne (by omega) ?_)), fun _ _ => rfl⟩ (fun x hx => by repeat (first | with_reducible exact f70 x hx | refine mg_ne (by omega) ?_ | refine mw_ne (by omega) ?_))
set_option maxRecDepth 100000 in
theorem c_Pg_initK {d : Nat} {h : mH} {p K : Nat} {Q : mP} (h0e : h.2 p = .inr (.inr (4, [.int 0, .int 0, .null, .null, .null, .null, .null, .null, .int 0, .int 0]))) (hz : h.1 = p + 1) (hK : K ≠ 0) (hK4 : K < 4)  (q : ∀ h', h'.1 = p + 20 → PgC h' p K [] [] → (∀ x, x < p → h'.2 x = h.2 x) → Q none h') : mWP (d + 2) 33 [.ref p, .int (nI K)] h Q := by
  refine z_in [some (.ref p), some (.int (nI K)), none] (by rfl) rfl rfl rfl ?_
  refine z_aload 1 rfl rfl rfl ?_
  refine z_oi 4 rfl rfl rfl ?_
  refine z_aload 5 rfl rfl rfl ?_
  refine z_newA 8 (p + 1) hz rfl rfl (by omega) (by omega) ?_
  first | refine z_dup 9 rfl rfl ?_ | refine z_dupi 9 rfl rfl ?_
  refine z_ci0 12 rfl rfl rfl (by omega) (by omega) ?_
  refine c_Ro_init (mw_eq _ _ _) rfl (fun h2 z2 hR2 hf2 => ?_)
  have hp2 : h2.2 p = _ := (hf2 p (by omega)).trans (mw_ne (by omega) h0e)
  refine z_put 15 rfl rfl (by repeat (first | exact h0e | exact hp2 | exact hp3 | exact hp4 | exact hp5 | exact hp6 | exact hp7 | exact mg_eq _ _ _ | exact mw_eq _ _ _ | refine mg_ne (by omega) ?_ | refine mw_ne (by omega) ?_)) rfl (mFo rfl) ?_
  refine z_aload 16 rfl rfl rfl ?_
  refine z_push 17 (nI 1) rfl rfl rfl ?_
  refine z_put 20 rfl rfl (by repeat (first | exact h0e | exact hp2 | exact hp3 | exact hp4 | exact hp5 | exact hp6 | exact hp7 | exact mg_eq _ _ _ | exact mw_eq _ _ _ | refine mg_ne (by omega) ?_ | refine mw_ne (by omega) ?_)) rfl (mFi rfl) ?_
  refine z_aload 21 rfl rfl rfl ?_
  refine z_iload 22 rfl rfl rfl ?_
  refine z_put 25 rfl rfl (by repeat (first | exact h0e | exact hp2 | exact hp3 | exact hp4 | exact hp5 | exact hp6 | exact hp7 | exact mg_eq _ _ _ | exact mw_eq _ _ _ | refine mg_ne (by omega) ?_ | refine mw_ne (by omega) ?_)) rfl (mFi rfl) ?_
  refine z_iload 26 rfl rfl rfl ?_
  refine z_zne 29 rfl rfl (by omega) (fun _ => ?_) (fun h9 => absurd h9 hK)
  refine z_push 34 (nI 0) rfl rfl rfl ?_
  refine z_istore 35 rfl rfl rfl rfl ?_
  refine z_aload 36 rfl rfl rfl ?_
  refine z_iload 37 rfl rfl rfl ?_
  refine z_zne 40 rfl rfl (by omega) (fun h9 => absurd h9 (by omega)) (fun _ => ?_)
  refine z_push 41 (nI 1) rfl rfl rfl ?_
  refine z_goto rfl ?_
  refine z_put 48 rfl rfl (by repeat (first | exact h0e | exact hp2 | exact hp3 | exact hp4 | exact hp5 | exact hp6 | exact hp7 | exact mg_eq _ _ _ | exact mw_eq _ _ _ | refine mg_ne (by omega) ?_ | refine mw_ne (by omega) ?_)) rfl (mFb rfl (by decide)) ?_
  refine z_ab p (.inr (.inr (4, [.int (nI K), .int (bI true), .null, .null, .ref (p + 1), .null, .null, .null, .int 0, .int (nI 1)]))) h2 (mg_eq _ _ _) (fun x hx => by simp only [mSet, if_neg hx]) rfl (fun h3 hp3 kh3 zh3 => ?_)
  refine z_aload 49 rfl rfl rfl ?_
  refine z_newA 52 (p + 6) (zh3.trans z2) rfl rfl (by omega) (by omega) ?_
  first | refine z_dup 53 rfl rfl ?_ | refine z_dupi 53 rfl rfl ?_
  refine z_iload 54 rfl rfl rfl ?_
  refine z_zeq 57 rfl rfl (by omega) (fun _ => ?_) (fun h9 => absurd h9 (by omega))
  refine z_push 63 (nI 0) rfl rfl rfl ?_
  refine z_ci1 66 rfl rfl rfl (by omega) (by omega) ?_
  refine c_En_init (n := 0) (mw_eq _ _ _) rfl (by decide) (fun h4 z4 hE4 hf4 => ?_)
  have hp4 : h4.2 p = _ := (hf4 p (by omega)).trans (mw_ne (by omega) hp3)
  refine z_put 69 rfl rfl (by repeat (first | exact h0e | exact hp2 | exact hp3 | exact hp4 | exact hp5 | exact hp6 | exact hp7 | exact mg_eq _ _ _ | exact mw_eq _ _ _ | refine mg_ne (by omega) ?_ | refine mw_ne (by omega) ?_)) rfl (mFo rfl) ?_
  refine z_ab p (.inr (.inr (4, [.int (nI K), .int (bI true), .ref (p + 6), .null, .ref (p + 1), .null, .null, .null, .int 0, .int (nI 1)]))) h4 (mg_eq _ _ _) (fun x hx => by simp only [mSet, if_neg hx]) rfl (fun h5 hp5 kh5 zh5 => ?_)
  refine z_aload 70 rfl rfl rfl ?_
  refine z_newA 73 (p + 12) (zh5.trans z4) rfl rfl (by omega) (by omega) ?_
  first | refine z_dup 74 rfl rfl ?_ | refine z_dupi 74 rfl rfl ?_
  refine z_iload 75 rfl rfl rfl ?_
  refine z_zeq 78 rfl rfl (by omega) (fun _ => ?_) (fun h9 => absurd h9 (by omega))
  refine z_push 84 (nI 0) rfl rfl rfl ?_
  refine z_ci1 87 rfl rfl rfl (by omega) (by omega) ?_
  refine c_Sh_init (n := 0) (mw_eq _ _ _) rfl (by decide) (fun h6 z6 hS6 hf6 => ?_)
  have hp6 : h6.2 p = _ := (hf6 p (by omega)).trans (mw_ne (by omega) hp5)
  refine z_put 90 rfl rfl (by repeat (first | exact h0e | exact hp2 | exact hp3 | exact hp4 | exact hp5 | exact hp6 | exact hp7 | exact mg_eq _ _ _ | exact mw_eq _ _ _ | refine mg_ne (by omega) ?_ | refine mw_ne (by omega) ?_)) rfl (mFo rfl) ?_
  refine z_ab p (.inr (.inr (4, [.int (nI K), .int (bI true), .ref (p + 6), .ref (p + 12), .ref (p + 1), .null, .null, .null, .int 0, .int (nI 1)]))) h6 (mg_eq _ _ _) (fun x hx => by simp only [mSet, if_neg hx]) rfl (fun h7 hp7 kh7 zh7 => ?_)
  refine z_aload 91 rfl rfl rfl ?_
  refine z_iload 92 rfl rfl rfl ?_
  refine z_zeq 95 rfl rfl (by omega) (fun _ => ?_) (fun h9 => absurd h9 (by omega))
  refine z_push 102 (nI 0) rfl rfl rfl ?_
  refine z_newaA 104 (p + 17) (zh7.trans z6) rfl rfl rfl (by omega) (by omega) (by omega) ?_
  refine z_put 107 rfl rfl (by repeat (first | exact h0e | exact hp2 | exact hp3 | exact hp4 | exact hp5 | exact hp6 | exact hp7 | exact mg_eq _ _ _ | exact mw_eq _ _ _ | refine mg_ne (by omega) ?_ | refine mw_ne (by omega) ?_)) rfl (mFa rfl) ?_
  refine z_aload 108 rfl rfl rfl ?_
  refine z_iload 109 rfl rfl rfl ?_
  refine z_zeq 112 rfl rfl (by omega) (fun _ => ?_) (fun h9 => absurd h9 (by omega))
  refine z_push 118 (nI 0) rfl rfl rfl ?_
  refine z_newaA 120 (p + 18) rfl rfl rfl rfl (by omega) (by omega) (by omega) ?_
  refine z_put 123 rfl rfl (by repeat (first | exact h0e | exact hp2 | exact hp3 | exact hp4 | exact hp5 | exact hp6 | exact hp7 | exact mg_eq _ _ _ | exact mw_eq _ _ _ | refine mg_ne (by omega) ?_ | refine mw_ne (by omega) ?_)) rfl (mFa rfl) ?_
  refine z_aload 124 rfl rfl rfl ?_
  refine z_iload 125 rfl rfl rfl ?_
  refine z_zeq 128 rfl rfl (by omega) (fun _ => ?_) (fun h9 => absurd h9 (by omega))
  refine z_push 134 (nI 0) rfl rfl rfl ?_
  refine z_newaA 136 (p + 19) rfl rfl rfl rfl (by omega) (by omega) (by omega) ?_
  refine z_put 139 rfl rfl (by repeat (first | exact h0e | exact hp2 | exact hp3 | exact hp4 | exact hp5 | exact hp6 | exact hp7 | exact mg_eq _ _ _ | exact mw_eq _ _ _ | refine mg_ne (by omega) ?_ | refine mw_ne (by omega) ?_)) rfl (mFa rfl) ?_
  refine z_vret rfl (by omega) (by omega) ?_
  have f34 : ∀ x, x < p + 6 → h4.2 x = h3.2 x := fun x hx => (hf4 x hx).trans (mw_ne (by omega) rfl)
  have f56 : ∀ x, x < p + 12 → h6.2 x = h5.2 x := fun x hx => (hf6 x hx).trans (mw_ne (by omega) rfl)
  have f02 : ∀ x, x < p + 1 → h2.2 x = h.2 x := fun x hx => (hf2 x hx).trans (mw_ne (by omega) rfl)
  have hR7 := hR2.e (h' := h7) (fun x x1 x2 => (kh7 x (by omega)).trans ((f56 x (by omega)).trans ((kh5 x (by omega)).trans ((f34 x (by omega)).trans (kh3 x (by omega))))))
  have hE7 := hE4.e (h' := h7) (fun x x1 x2 => (kh7 x (by omega)).trans ((f56 x (by omega)).trans (kh5 x (by omega))))
  have hS7 := hS6.e (h' := h7) (fun x x1 x2 => kh7 x (by omega))
  have f70 : ∀ x, x < p → h7.2 x = h.2 x := fun x hx => (kh7 x (by omega)).trans ((f56 x (by omega)).trans ((kh5 x (by omega)).trans ((f34 x (by omega)).trans ((kh3 x (by omega)).trans (f02 x (by omega))))))
  have feE : ∀ hh : mH, (∀ x, x < p + 17 → x ≠ p → hh.2 x = h7.2 x) → EnA hh (p + 6) 0 [] := fun hh hf => hE7.e (fun x x1 x2 => hf x (by omega) (by omega))
  have feS : ∀ hh : mH, (∀ x, x < p + 17 → x ≠ p → hh.2 x = h7.2 x) → ShA hh (p + 12) 0 [] := fun hh hf => hS7.e (fun x x1 x2 => hf x (by omega) (by omega))
  have feR : ∀ hh : mH, (∀ x, x < p + 17 → x ≠ p → hh.2 x = h7.2 x) → RoAt hh (p + 1) (fun _ => nI 0) (fun _ => nI 0) (fun _ => nI 0) (fun _ => nI 0) := fun hh hf => hR7.e (fun x x1 x2 => hf x (by omega) (by omega))
  exact q _ rfl (Or.inr ⟨hK, hK4, rfl, rfl, 0, fun _ => nI 0, fun _ => nI 0, fun _ => nI 0, fun _ => nI 0, (by repeat (first | exact h0e | exact hp2 | exact hp3 | exact hp4 | exact hp5 | exact hp6 | exact hp7 | exact mg_eq _ _ _ | exact mw_eq _ _ _ | refine mg_ne (by omega) ?_ | refine mw_ne (by omega) ?_)), feE _ (fun x hx x2 => by repeat (first | with_reducible rfl | refine mg_ne (by omega) ?_ | refine mw_ne (by omega) ?_)), feS _ (fun x hx x2 => by repeat (first | with_reducible rfl | refine mg_ne (by omega) ?_ | refine mw_ne (by omega) ?_)), feR _ (fun x hx x2 => by repeat (first | with_reducible rfl | refine mg_ne (by omega) ?_ | refine mw_ne (by omega) ?_)), fun j hj => ⟨rfl, rfl, rfl⟩⟩) (fun x hx => by repeat (first | with_reducible exact f70 x hx | refine mg_ne (by omega) ?_ | refine mw_ne (by omega) ?_))
