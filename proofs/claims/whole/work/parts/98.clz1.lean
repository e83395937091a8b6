/-! readers, writers, rules and machines made -/
set_option maxRecDepth 100000 in
theorem c_Ru_init {d : Nat} {h : mH} {e : Nat} {Q : mP} (h0e : h.2 e = .inr (.inr (8, [.int 0, .int 0, .int 0, .null, .null, .null, .null]))) (hz : h.1 = e + 1)  (q : ∀ h', h'.1 = e + 5 → RuAt h' e 65533 63 [] → (∀ x, x < e → h'.2 x = h.2 x) → Q none h') : mWP (d + 1) 80 [.ref e] h Q := by
  refine z_in [some (.ref e)] (by rfl) rfl rfl rfl ?_
  refine z_aload 1 rfl rfl rfl ?_
  refine z_oi 4 rfl rfl rfl ?_
  refine z_aload 5 rfl rfl rfl ?_
  refine z_push 7 (nI 65533) rfl rfl rfl ?_
  refine z_put 10 rfl rfl (by repeat (first | exact h0e | exact mg_eq _ _ _ | exact mw_eq _ _ _ | refine mg_ne (by omega) ?_ | refine mw_ne (by omega) ?_)) rfl (mFi rfl) ?_
  refine z_aload 11 rfl rfl rfl ?_
  refine z_push 13 (nI 63) rfl rfl rfl ?_
  refine z_put 16 rfl rfl (by repeat (first | exact h0e | exact mg_eq _ _ _ | exact mw_eq _ _ _ | refine mg_ne (by omega) ?_ | refine mw_ne (by omega) ?_)) rfl (mFi rfl) ?_
  refine z_aload 17 rfl rfl rfl ?_
  refine z_push 19 (nI 41) rfl rfl rfl ?_
  refine z_newaA 21 (e + 1) hz rfl rfl rfl (by omega) (by omega) (by omega) ?_
  refine z_put 24 rfl rfl (by repeat (first | exact h0e | exact mg_eq _ _ _ | exact mw_eq _ _ _ | refine mg_ne (by omega) ?_ | refine mw_ne (by omega) ?_)) rfl (mFa rfl) ?_
  refine z_aload 25 rfl rfl rfl ?_
  refine z_push 27 (nI 41) rfl rfl rfl ?_
  refine z_newaA 29 (e + 2) rfl rfl rfl rfl (by omega) (by omega) (by omega) ?_
  refine z_put 32 rfl rfl (by repeat (first | exact h0e | exact mg_eq _ _ _ | exact mw_eq _ _ _ | refine mg_ne (by omega) ?_ | refine mw_ne (by omega) ?_)) rfl (mFa rfl) ?_
  refine z_aload 33 rfl rfl rfl ?_
  refine z_push 36 (nI 164) rfl rfl rfl ?_
  refine z_newaA 38 (e + 3) rfl rfl rfl rfl (by omega) (by omega) (by omega) ?_
  refine z_put 41 rfl rfl (by repeat (first | exact h0e | exact mg_eq _ _ _ | exact mw_eq _ _ _ | refine mg_ne (by omega) ?_ | refine mw_ne (by omega) ?_)) rfl (mFa rfl) ?_
  refine z_aload 42 rfl rfl rfl ?_
  refine z_push 44 (nI 41) rfl rfl rfl ?_
  refine z_newaA 46 (e + 4) rfl rfl rfl rfl (by omega) (by omega) (by omega) ?_
  refine z_put 49 rfl rfl (by repeat (first | exact h0e | exact mg_eq _ _ _ | exact mw_eq _ _ _ | refine mg_ne (by omega) ?_ | refine mw_ne (by omega) ?_)) rfl (mFa rfl) ?_
  refine z_vret rfl (by omega) (by omega) ?_
  refine q _ rfl ⟨(by repeat (first | exact h0e | exact mg_eq _ _ _ | exact mw_eq _ _ _ | refine mg_ne (by omega) ?_ | refine mw_ne (by omega) ?_)), Nat.zero_le _, fun _ => 0, fun _ => 0, fun _ => 0, fun _ => 0, (by repeat (first | exact h0e | exact mg_eq _ _ _ | exact mw_eq _ _ _ | refine mg_ne (by omega) ?_ | refine mw_ne (by omega) ?_)), (by repeat (first | exact h0e | exact mg_eq _ _ _ | exact mw_eq _ _ _ | refine mg_ne (by omega) ?_ | refine mw_ne (by omega) ?_)), (by repeat (first | exact h0e | exact mg_eq _ _ _ | exact mw_eq _ _ _ | refine mg_ne (by omega) ?_ | refine mw_ne (by omega) ?_)), (by repeat (first | exact h0e | exact mg_eq _ _ _ | exact mw_eq _ _ _ | refine mg_ne (by omega) ?_ | refine mw_ne (by omega) ?_)), fun k hk => absurd hk (Nat.not_lt_zero k)⟩ (fun x hx => by repeat (first | with_reducible rfl | refine mg_ne (by omega) ?_ | refine mw_ne (by omega) ?_))
set_option maxRecDepth 100000 in
theorem c_Fo_init {d : Nat} {h : mH} {e : Nat} {Q : mP}  (q : Q none h) : mWP (d + 1) 17 [.ref e] h Q := by
  refine z_in [some (.ref e)] (by rfl) rfl rfl rfl ?_
  refine z_aload 1 rfl rfl rfl ?_
  refine z_oi 4 rfl rfl rfl ?_
  refine z_vret rfl (Nat.le_refl _) (Nat.le_refl _) ?_
  exact q
set_option maxRecDepth 100000 in
theorem c_Rd_init {d : Nat} {h : mH} {e R p : Nat} {Q : mP} (h0e : h.2 e = .inr (.inr (5, [.null, .null, .null, .int 0, .int 0, .int 0, .int 0]))) (hz : h.1 = e + 1)  (q : ∀ h', h'.1 = e + 2 → RdAt h' e R p 0 0 4 0 → (∀ x, x < e → h'.2 x = h.2 x) → Q none h') : mWP (d + 2) 58 [.ref e, .ref R, .ref p] h Q := by
  refine z_in [some (.ref e), some (.ref R), some (.ref p)] (by rfl) rfl rfl rfl ?_
  refine z_aload 1 rfl rfl rfl ?_
  refine z_oi 4 rfl rfl rfl ?_
  refine z_aload 5 rfl rfl rfl ?_
  refine z_newA 8 (e + 1) hz rfl rfl (by omega) (by omega) ?_
  first | refine z_dup 9 rfl rfl ?_ | refine z_dupi 9 rfl rfl ?_
  refine z_ci0 12 rfl rfl rfl (by omega) (by omega) ?_
  refine c_Fo_init ?_
  refine z_put 15 rfl rfl (by repeat (first | exact h0e | exact mg_eq _ _ _ | exact mw_eq _ _ _ | refine mg_ne (by omega) ?_ | refine mw_ne (by omega) ?_)) rfl (mFo rfl) ?_
  refine z_aload 16 rfl rfl rfl ?_
  refine z_push 17 (nI 4) rfl rfl rfl ?_
  refine z_put 20 rfl rfl (by repeat (first | exact h0e | exact mg_eq _ _ _ | exact mw_eq _ _ _ | refine mg_ne (by omega) ?_ | refine mw_ne (by omega) ?_)) rfl (mFi rfl) ?_
  refine z_aload 21 rfl rfl rfl ?_
  refine z_aload 22 rfl rfl rfl ?_
  refine z_put 25 rfl rfl (by repeat (first | exact h0e | exact mg_eq _ _ _ | exact mw_eq _ _ _ | refine mg_ne (by omega) ?_ | refine mw_ne (by omega) ?_)) rfl (mFo rfl) ?_
  refine z_aload 26 rfl rfl rfl ?_
  refine z_aload 27 rfl rfl rfl ?_
  refine z_put 30 rfl rfl (by repeat (first | exact h0e | exact mg_eq _ _ _ | exact mw_eq _ _ _ | refine mg_ne (by omega) ?_ | refine mw_ne (by omega) ?_)) rfl (mFo rfl) ?_
  refine z_vret rfl (by omega) (by omega) ?_
  refine q _ rfl ⟨(by repeat (first | exact h0e | exact mg_eq _ _ _ | exact mw_eq _ _ _ | refine mg_ne (by omega) ?_ | refine mw_ne (by omega) ?_)), 0, 0, 0, 0, 0, (by repeat (first | exact h0e | exact mg_eq _ _ _ | exact mw_eq _ _ _ | refine mg_ne (by omega) ?_ | refine mw_ne (by omega) ?_)), Or.inl rfl⟩ (fun x hx => by repeat (first | with_reducible rfl | refine mg_ne (by omega) ?_ | refine mw_ne (by omega) ?_))
set_option maxRecDepth 100000 in
theorem c_Wr_init {d : Nat} {h : mH} {e R p : Nat} {Q : mP} (h0e : h.2 e = .inr (.inr (10, [.null, .null, .null, .null, .int 0, .int 0]))) (hz : h.1 = e + 1)  (q : ∀ h', h'.1 = e + 5 → WrAt h' e R p 0 0 [] [] → (∀ x, x < e → h'.2 x = h.2 x) → Q none h') : mWP (d + 2) 100 [.ref e, .ref R, .ref p] h Q := by
  refine z_in [some (.ref e), some (.ref R), some (.ref p)] (by rfl) rfl rfl rfl ?_
  refine z_aload 1 rfl rfl rfl ?_
  refine z_oi 4 rfl rfl rfl ?_
  refine z_aload 5 rfl rfl rfl ?_
  refine z_newA 8 (e + 1) hz rfl rfl (by omega) (by omega) ?_
  first | refine z_dup 9 rfl rfl ?_ | refine z_dupi 9 rfl rfl ?_
  refine z_push 12 (nI 128) rfl rfl rfl ?_
  refine z_ci1 15 rfl rfl rfl (by omega) (by omega) ?_
  refine c_Rw_init (n := 128) (mw_eq _ _ _) rfl (by decide) (fun h2 z2 hr2 hf2 => ?_)
  have hp2 : h2.2 e = _ := (hf2 e (by omega)).trans (mw_ne (by omega) h0e)
  refine z_put 18 rfl rfl (by repeat (first | exact h0e | exact hp2 | exact hp3 | exact hp4 | exact mg_eq _ _ _ | exact mw_eq _ _ _ | refine mg_ne (by omega) ?_ | refine mw_ne (by omega) ?_)) rfl (mFo rfl) ?_
  refine z_ab e (.inr (.inr (10, [.null, .ref (e + 1), .null, .null, .int 0, .int 0]))) h2 (mg_eq _ _ _) (fun x hx => by simp only [mSet, if_neg hx]) rfl (fun h3 hp3 kh3 zh3 => ?_)
  refine z_aload 19 rfl rfl rfl ?_
  refine z_newA 22 (e + 3) (zh3.trans z2) rfl rfl (by omega) (by omega) ?_
  first | refine z_dup 23 rfl rfl ?_ | refine z_dupi 23 rfl rfl ?_
  refine z_push 25 (nI 20) rfl rfl rfl ?_
  refine z_ci1 28 rfl rfl rfl (by omega) (by omega) ?_
  refine c_Rw_init (n := 20) (mw_eq _ _ _) rfl (by decide) (fun h4 z4 hr4 hf4 => ?_)
  have hp4 : h4.2 e = _ := (hf4 e (by omega)).trans (mw_ne (by omega) hp3)
  refine z_put 31 rfl rfl (by repeat (first | exact h0e | exact hp2 | exact hp3 | exact hp4 | exact mg_eq _ _ _ | exact mw_eq _ _ _ | refine mg_ne (by omega) ?_ | refine mw_ne (by omega) ?_)) rfl (mFo rfl) ?_
  refine z_aload 32 rfl rfl rfl ?_
  refine z_aload 33 rfl rfl rfl ?_
  refine z_put 36 rfl rfl (by repeat (first | exact h0e | exact hp2 | exact hp3 | exact hp4 | exact mg_eq _ _ _ | exact mw_eq _ _ _ | refine mg_ne (by omega) ?_ | refine mw_ne (by omega) ?_)) rfl (mFo rfl) ?_
  refine z_aload 37 rfl rfl rfl ?_
  refine z_aload 38 rfl rfl rfl ?_
  refine z_put 41 rfl rfl (by repeat (first | exact h0e | exact hp2 | exact hp3 | exact hp4 | exact mg_eq _ _ _ | exact mw_eq _ _ _ | refine mg_ne (by omega) ?_ | refine mw_ne (by omega) ?_)) rfl (mFo rfl) ?_
  refine z_ab e (oWr R e p 0 0) h4 (mg_eq _ _ _) (fun x hx => by simp only [mSet, if_neg hx]) rfl (fun h5 hp5 kh5 zh5 => ?_)
  refine z_vret rfl (by omega) (by omega) ?_
  exact q h5 (zh5.trans z4) ⟨hp5, hr2.e (fun x x1 x2 => (kh5 x (by omega)).trans ((hf4 x (by omega)).trans (mw_ne (by omega) (kh3 x (by omega))))), hr4.e (fun x x1 x2 => kh5 x (by omega))⟩ (fun x hx => (kh5 x (by omega)).trans ((hf4 x (by omega)).trans (mw_ne (by omega) ((kh3 x (by omega)).trans ((hf2 x (by omega)).trans (mw_ne (by omega) rfl))))))
set_option maxRecDepth 100000 in
theorem c_Mc_init {d : Nat} {h : mH} {e R p : Nat} {Q : mP} (h0e : h.2 e = .inr (.inr (3, [.null, .null, .int 0, .int 0, .null, .int 0, .int 0, .int 0, .null, .null, .int 0, .int 0]))) (hz : h.1 = e + 1)  (q : ∀ h', h'.1 = e + 12 → McAt h' e R p false (-1) 0 0 4 0 [] 0 0 0 [] → (∀ x, x < e → h'.2 x = h.2 x) → Q none h') : mWP (d + 3) 22 [.ref e, .ref R, .ref p] h Q := by
  refine z_in [some (.ref e), some (.ref R), some (.ref p)] (by rfl) rfl rfl rfl ?_
  refine z_aload 1 rfl rfl rfl ?_
  refine z_oi 4 rfl rfl rfl ?_
  refine z_aload 5 rfl rfl rfl ?_
  refine z_push 6 (-1) rfl rfl rfl ?_
  refine z_put 9 rfl rfl (by repeat (first | exact h0e | exact hp1 | exact hp2 | exact hp3 | exact hp4 | exact hp5 | exact hp6 | exact hp7 | exact mg_eq _ _ _ | exact mw_eq _ _ _ | refine mg_ne (by omega) ?_ | refine mw_ne (by omega) ?_)) rfl (mFi rfl) ?_
  refine z_aload 10 rfl rfl rfl ?_
  refine z_push 11 (nI 4) rfl rfl rfl ?_
  refine z_newaA 13 (e + 1) hz rfl rfl rfl (by omega) (by omega) (by omega) ?_
  refine z_put 16 rfl rfl (by repeat (first | exact h0e | exact hp1 | exact hp2 | exact hp3 | exact hp4 | exact hp5 | exact hp6 | exact hp7 | exact mg_eq _ _ _ | exact mw_eq _ _ _ | refine mg_ne (by omega) ?_ | refine mw_ne (by omega) ?_)) rfl (mFa rfl) ?_
  refine z_aload 17 rfl rfl rfl ?_
  refine z_newA 20 (e + 2) rfl rfl rfl (by omega) (by omega) ?_
  first | refine z_dup 21 rfl rfl ?_ | refine z_dupi 21 rfl rfl ?_
  refine z_push 24 (nI 128) rfl rfl rfl ?_
  refine z_ci1 27 rfl rfl rfl (by omega) (by omega) ?_
  refine c_Rw_init (n := 128) (mw_eq _ _ _) rfl (by decide) (fun h2 z2 hr2 hf2 => ?_)
  have hp2 : h2.2 e = .inr (.inr (3, [.null, .null, .int 0, .int (-1), .ref (e + 1), .int 0, .int 0, .int 0, .null, .null, .int 0, .int 0])) := (hf2 e (by omega)).trans (mw_ne (by omega) (mg_eq _ _ _))
  have hk2 : h2.2 (e + 1) = aI 4 (fun _ => 0) := (hf2 (e + 1) (by omega)).trans (mw_ne (by omega) (mg_ne (by omega) (mw_eq _ _ _)))
  have ff2 : ∀ x, x < e → h2.2 x = h.2 x := fun x hx => (hf2 x (by omega)).trans (mw_ne (by omega) (mg_ne (by omega) (mw_ne (by omega) (mg_ne (by omega) rfl))))
  refine z_put 30 rfl rfl (by repeat (first | exact h0e | exact hp1 | exact hp2 | exact hp3 | exact hp4 | exact hp5 | exact hp6 | exact hp7 | exact mg_eq _ _ _ | exact mw_eq _ _ _ | refine mg_ne (by omega) ?_ | refine mw_ne (by omega) ?_)) rfl (mFo rfl) ?_
  refine z_ab e (.inr (.inr (3, [.null, .null, .int 0, .int (-1), .ref (e + 1), .int 0, .int 0, .int 0, .ref (e + 2), .null, .int 0, .int 0]))) h2 (mg_eq _ _ _) (fun x hx => by simp only [mSet, if_neg hx]) rfl (fun h3 hp3 kh3 zh3 => ?_)
  refine z_aload 31 rfl rfl rfl ?_
  refine z_push 34 (nI 429) rfl rfl rfl ?_
  refine z_newaA 36 (e + 4) (zh3.trans z2) rfl rfl rfl (by omega) (by omega) (by omega) ?_
  refine z_put 39 rfl rfl (by repeat (first | exact h0e | exact hp1 | exact hp2 | exact hp3 | exact hp4 | exact hp5 | exact hp6 | exact hp7 | exact mg_eq _ _ _ | exact mw_eq _ _ _ | refine mg_ne (by omega) ?_ | refine mw_ne (by omega) ?_)) rfl (mFa rfl) ?_
  refine z_aload 40 rfl rfl rfl ?_
  refine z_newA 43 (e + 5) rfl rfl rfl (by omega) (by omega) ?_
  first | refine z_dup 44 rfl rfl ?_ | refine z_dupi 44 rfl rfl ?_
  refine z_aload 45 rfl rfl rfl ?_
  refine z_aload 46 rfl rfl rfl ?_
  refine z_ci2 49 rfl rfl rfl (by omega) (by omega) ?_
  refine c_Rd_init (mw_eq _ _ _) rfl (fun h4 z4 hr4 hf4 => ?_)
  have hp4 : h4.2 e = .inr (.inr (3, [.null, .null, .int 0, .int (-1), .ref (e + 1), .int 0, .int 0, .int 0, .ref (e + 2), .ref (e + 4), .int 0, .int 0])) := (hf4 e (by omega)).trans (mw_ne (by omega) (mg_eq _ _ _))
  have hg4 : h4.2 (e + 4) = aI 429 (fun _ => 0) := (hf4 (e + 4) (by omega)).trans (mw_ne (by omega) (mg_ne (by omega) (mw_eq _ _ _)))
  have ff4 : ∀ x, x < e + 4 → x ≠ e → h4.2 x = h3.2 x := fun x hx hx2 => (hf4 x (by omega)).trans (mw_ne (by omega) (mg_ne (by omega) (mw_ne (by omega) rfl)))
  refine z_put 52 rfl rfl (by repeat (first | exact h0e | exact hp1 | exact hp2 | exact hp3 | exact hp4 | exact hp5 | exact hp6 | exact hp7 | exact mg_eq _ _ _ | exact mw_eq _ _ _ | refine mg_ne (by omega) ?_ | refine mw_ne (by omega) ?_)) rfl (mFo rfl) ?_
  refine z_ab e (.inr (.inr (3, [.ref (e + 5), .null, .int 0, .int (-1), .ref (e + 1), .int 0, .int 0, .int 0, .ref (e + 2), .ref (e + 4), .int 0, .int 0]))) h4 (mg_eq _ _ _) (fun x hx => by simp only [mSet, if_neg hx]) rfl (fun h5 hp5 kh5 zh5 => ?_)
  refine z_aload 53 rfl rfl rfl ?_
  refine z_newA 56 (e + 7) (zh5.trans z4) rfl rfl (by omega) (by omega) ?_
  first | refine z_dup 57 rfl rfl ?_ | refine z_dupi 57 rfl rfl ?_
  refine z_aload 58 rfl rfl rfl ?_
  refine z_aload 59 rfl rfl rfl ?_
  refine z_ci2 62 rfl rfl rfl (by omega) (by omega) ?_
  refine c_Wr_init (mw_eq _ _ _) rfl (fun h6 z6 hr6 hf6 => ?_)
  have hp6 : h6.2 e = _ := (hf6 e (by omega)).trans (mw_ne (by omega) hp5)
  have ff6 : ∀ x, x < e + 7 → h6.2 x = h5.2 x := fun x hx => (hf6 x (by omega)).trans (mw_ne (by omega) rfl)
  refine z_put 65 rfl rfl (by repeat (first | exact h0e | exact hp1 | exact hp2 | exact hp3 | exact hp4 | exact hp5 | exact hp6 | exact hp7 | exact mg_eq _ _ _ | exact mw_eq _ _ _ | refine mg_ne (by omega) ?_ | refine mw_ne (by omega) ?_)) rfl (mFo rfl) ?_
  refine z_ab e (oMc e false (-1) 0 0 0 0 0) h6 (mg_eq _ _ _) (fun x hx => by simp only [mSet, if_neg hx]) rfl (fun h7 hp7 kh7 zh7 => ?_)
  refine z_vret rfl (by omega) (by omega) ?_
  have g75 : ∀ x, x < e + 7 → x ≠ e → h7.2 x = h5.2 x := fun x hx hx2 => (kh7 x hx2).trans (ff6 x hx)
  have g73 : ∀ x, x < e + 4 → x ≠ e → h7.2 x = h3.2 x := fun x hx hx2 => (g75 x (by omega) hx2).trans ((kh5 x hx2).trans (ff4 x hx hx2))
  exact q h7 (zh7.trans z6) ⟨hp7, ⟨Nat.zero_le _, fun _ => 0, (g73 _ (by omega) (by omega)).trans ((kh3 _ (by omega)).trans hk2), fun j hj => absurd hj (Nat.not_lt_zero j)⟩, ⟨[], hr2.e (fun x x1 x2 => (g73 x (by omega) (by omega)).trans (kh3 x (by omega)))⟩, ⟨by decide, Nat.zero_le _, fun _ => 0, (g75 _ (by omega) (by omega)).trans ((kh5 _ (by omega)).trans hg4), fun j hj => absurd hj (Nat.not_lt_zero j)⟩, ⟨0, hr4.e (fun x x1 x2 => (g75 x (by omega) (by omega)).trans (kh5 x (by omega)))⟩, [], [], hr6.e (fun x x1 x2 => kh7 x (by omega))⟩ (fun x hx => (g73 x (by omega) (by omega)).trans ((kh3 x (by omega)).trans (ff2 x hx)))
