/-! cells made: rules, and the constructors of rows -/
section ZN
variable {d : Nat} {t : mK} {bc bs : Nat} {Q : mP} {pc len b c : Nat} {a : Int} {ts : List Nat} {L : mL} {st : List Value} {h : mH} {nc ns : Nat}
def mNw (a : Nat) (h : mH) (e : mC) : mH := (a + 1, fun k => if k = a then e else h.2 k)
theorem mw_eq (a : Nat) (h : mH) (e : mC) : (mNw a h e).2 a = e := by simp [mNw]
theorem mw_ne {h : mH} {a x : Nat} {e e' : mC} (hn : x ≠ a) (hx : h.2 x = e') : (mNw a h e).2 x = e' := by simp [mNw, hn, hx]
theorem z_newaA {n : Int32} {j : Nat} (pc' : Nat) (ad : Nat) (hz : h.1 = ad) (hi : mAt t pc = some (len, 40, a, b, c, ts)) (hp : pc + len = pc') (hij : n = nI j) (hj : j ≤ 100000) (hc : nc + 1 ≤ bc) (hs : ns + j ≤ bs) (k : mZ d t bc bs Q pc' L (.ref ad :: st) (mNw ad h (.inl (c, j, fun _ => 0))) (nc + 1) (ns + j)) : mZ d t bc bs Q pc L (.int n :: st) h nc ns := by
  subst hz; exact z_newa pc' hi hp hij hj hc hs k
theorem z_newqA {n : Int32} {j : Nat} (pc' : Nat) (ad : Nat) (hz : h.1 = ad) (hi : mAt t pc = some (len, 41, a, b, c, ts)) (hp : pc + len = pc') (hij : n = nI j) (hj : j ≤ 100000) (hc : nc + 1 ≤ bc) (hs : ns + j ≤ bs) (k : mZ d t bc bs Q pc' L (.ref ad :: st) (mNw ad h (.inr (.inl (c, j, fun _ => none)))) (nc + 1) (ns + j)) : mZ d t bc bs Q pc L (.int n :: st) h nc ns := by
  subst hz; exact z_newq pc' hi hp hij hj hc hs k
theorem z_newA (pc' : Nat) (ad : Nat) (hz : h.1 = ad) (hi : mAt t pc = some (len, 42, a, b, c, ts)) (hp : pc + len = pc') (hc : nc + 1 ≤ bc) (hs : ns + c ≤ bs) (k : mZ d t bc bs Q pc' L (.ref ad :: st) (mNw ad h (.inr (.inr (b, mDf b c)))) (nc + 1) (ns + c)) : mZ d t bc bs Q pc L st h nc ns := by
  subst hz; exact z_new pc' hi hp hc hs k
theorem z_ci0 {x ci mc ms : Nat} (pc' : Nat) (hi : mAt t pc = some (len, 52, a, b, 0, [ci, mc, ms])) (hp : pc + len = pc') (hr : Nat.ble (mCat st) 8 = true) (hc : nc + mc ≤ bc) (hs : ns + ms ≤ bs) (kk : mWP d b [.ref x] h (fun v h' => match v with | some w => mZ d t bc bs Q pc' L (w :: st) h' (nc + mc) (ns + ms) | none => mZ d t bc bs Q pc' L st h' (nc + mc) (ns + ms))) : mZ d t bc bs Q pc L (.ref x :: st) h nc ns := by
  refine z_ci pc' _ hi hp rfl rfl rfl hr hc hs ?_
  refine mWP_mono d _ _ _ _ _ (fun v h' hk => ?_) kk
  cases v <;> exact hk
theorem z_cvb0 {x ci mc ms : Nat} {fs : List Value} (pc' : Nat) (hi : mAt t pc = some (len, 50, a, b, 0, [ci, mc, ms])) (hp : pc + len = pc') (hx : h.2 x = .inr (.inr (ci, fs))) (hr : Nat.ble (mCat st) 8 = true) (hc : nc + mc ≤ bc) (hs : ns + ms ≤ bs) (kk : mWP d b [.ref x] h (fun v h' => match v with | some w => mZ d t bc bs Q pc' L (w :: st) h' (nc + mc) (ns + ms) | none => mZ d t bc bs Q pc' L st h' (nc + mc) (ns + ms))) : mZ d t bc bs Q pc L (.ref x :: st) h nc ns := by
  refine z_cv pc' _ hi hp rfl rfl hx rfl hr hc hs ?_
  refine mWP_mono d _ _ _ _ _ (fun v h' hk => ?_) kk
  cases v <;> exact hk
theorem z_ci1 {x ci mc ms : Nat} {v1 : Value} (pc' : Nat) (hi : mAt t pc = some (len, 52, a, b, 1, [ci, mc, ms])) (hp : pc + len = pc') (hr : Nat.ble (mCat st) 8 = true) (hc : nc + mc ≤ bc) (hs : ns + ms ≤ bs) (kk : mWP d b [.ref x, v1] h (fun v h' => match v with | some w => mZ d t bc bs Q pc' L (w :: st) h' (nc + mc) (ns + ms) | none => mZ d t bc bs Q pc' L st h' (nc + mc) (ns + ms))) : mZ d t bc bs Q pc L (v1 :: .ref x :: st) h nc ns := by
  refine z_ci pc' _ hi hp rfl rfl rfl hr hc hs ?_
  refine mWP_mono d _ _ _ _ _ (fun v h' hk => ?_) kk
  cases v <;> exact hk
theorem z_cvb1 {x ci mc ms : Nat} {fs : List Value} {v1 : Value} (pc' : Nat) (hi : mAt t pc = some (len, 50, a, b, 1, [ci, mc, ms])) (hp : pc + len = pc') (hx : h.2 x = .inr (.inr (ci, fs))) (hr : Nat.ble (mCat st) 8 = true) (hc : nc + mc ≤ bc) (hs : ns + ms ≤ bs) (kk : mWP d b [.ref x, v1] h (fun v h' => match v with | some w => mZ d t bc bs Q pc' L (w :: st) h' (nc + mc) (ns + ms) | none => mZ d t bc bs Q pc' L st h' (nc + mc) (ns + ms))) : mZ d t bc bs Q pc L (v1 :: .ref x :: st) h nc ns := by
  refine z_cv pc' _ hi hp rfl rfl hx rfl hr hc hs ?_
  refine mWP_mono d _ _ _ _ _ (fun v h' hk => ?_) kk
  cases v <;> exact hk
theorem z_ci2 {x ci mc ms : Nat} {v1 v2 : Value} (pc' : Nat) (hi : mAt t pc = some (len, 52, a, b, 2, [ci, mc, ms])) (hp : pc + len = pc') (hr : Nat.ble (mCat st) 8 = true) (hc : nc + mc ≤ bc) (hs : ns + ms ≤ bs) (kk : mWP d b [.ref x, v1, v2] h (fun v h' => match v with | some w => mZ d t bc bs Q pc' L (w :: st) h' (nc + mc) (ns + ms) | none => mZ d t bc bs Q pc' L st h' (nc + mc) (ns + ms))) : mZ d t bc bs Q pc L (v2 :: v1 :: .ref x :: st) h nc ns := by
  refine z_ci pc' _ hi hp rfl rfl rfl hr hc hs ?_
  refine mWP_mono d _ _ _ _ _ (fun v h' hk => ?_) kk
  cases v <;> exact hk
theorem z_cvb2 {x ci mc ms : Nat} {fs : List Value} {v1 v2 : Value} (pc' : Nat) (hi : mAt t pc = some (len, 50, a, b, 2, [ci, mc, ms])) (hp : pc + len = pc') (hx : h.2 x = .inr (.inr (ci, fs))) (hr : Nat.ble (mCat st) 8 = true) (hc : nc + mc ≤ bc) (hs : ns + ms ≤ bs) (kk : mWP d b [.ref x, v1, v2] h (fun v h' => match v with | some w => mZ d t bc bs Q pc' L (w :: st) h' (nc + mc) (ns + ms) | none => mZ d t bc bs Q pc' L st h' (nc + mc) (ns + ms))) : mZ d t bc bs Q pc L (v2 :: v1 :: .ref x :: st) h nc ns := by
  refine z_cv pc' _ hi hp rfl rfl hx rfl hr hc hs ?_
  refine mWP_mono d _ _ _ _ _ (fun v h' hk => ?_) kk
  cases v <;> exact hk
theorem z_ci3 {x ci mc ms : Nat} {v1 v2 v3 : Value} (pc' : Nat) (hi : mAt t pc = some (len, 52, a, b, 3, [ci, mc, ms])) (hp : pc + len = pc') (hr : Nat.ble (mCat st) 8 = true) (hc : nc + mc ≤ bc) (hs : ns + ms ≤ bs) (kk : mWP d b [.ref x, v1, v2, v3] h (fun v h' => match v with | some w => mZ d t bc bs Q pc' L (w :: st) h' (nc + mc) (ns + ms) | none => mZ d t bc bs Q pc' L st h' (nc + mc) (ns + ms))) : mZ d t bc bs Q pc L (v3 :: v2 :: v1 :: .ref x :: st) h nc ns := by
  refine z_ci pc' _ hi hp rfl rfl rfl hr hc hs ?_
  refine mWP_mono d _ _ _ _ _ (fun v h' hk => ?_) kk
  cases v <;> exact hk
theorem z_cvb3 {x ci mc ms : Nat} {fs : List Value} {v1 v2 v3 : Value} (pc' : Nat) (hi : mAt t pc = some (len, 50, a, b, 3, [ci, mc, ms])) (hp : pc + len = pc') (hx : h.2 x = .inr (.inr (ci, fs))) (hr : Nat.ble (mCat st) 8 = true) (hc : nc + mc ≤ bc) (hs : ns + ms ≤ bs) (kk : mWP d b [.ref x, v1, v2, v3] h (fun v h' => match v with | some w => mZ d t bc bs Q pc' L (w :: st) h' (nc + mc) (ns + ms) | none => mZ d t bc bs Q pc' L st h' (nc + mc) (ns + ms))) : mZ d t bc bs Q pc L (v3 :: v2 :: v1 :: .ref x :: st) h nc ns := by
  refine z_cv pc' _ hi hp rfl rfl hx rfl hr hc hs ?_
  refine mWP_mono d _ _ _ _ _ (fun v h' hk => ?_) kk
  cases v <;> exact hk
end ZN
set_option maxRecDepth 100000 in
theorem c_En_init {d : Nat} {h : mH} {e n : Nat} {Q : mP} (h0e : h.2 e = .inr (.inr (0, [.null, .null, .null, .null, .null, .int 0]))) (hz : h.1 = e + 1) (hn : n ≤ 100)  (q : ∀ h', h'.1 = e + 6 → EnA h' e n [] → (∀ x, x < e → h'.2 x = h.2 x) → Q none h') : mWP (d + 1) 0 [.ref e, .int (nI n)] h Q := by
  refine z_in [some (.ref e), some (.int (nI n)), none] (by rfl) rfl rfl rfl ?_
  refine z_aload 1 rfl rfl rfl ?_
  refine z_oi 4 rfl rfl rfl ?_
  refine z_iload 5 rfl rfl rfl ?_
  refine z_push 6 (nI 0) rfl rfl rfl ?_
  refine z_max 9 _ rfl rfl rfl (by omega) (by omega) (show _ = nI n from (zmaxN (by omega) (by decide)).trans (by rw [Nat.max_eq_left (Nat.zero_le _)])) ?_
  refine z_istore 10 rfl rfl rfl rfl ?_
  refine z_aload 11 rfl rfl rfl ?_
  refine z_iload 12 rfl rfl rfl ?_
  refine z_newaA 14 (e + 1) hz rfl rfl rfl (by omega) (by omega) (by omega) ?_
  refine z_put 17 rfl rfl (by repeat (first | exact h0e | exact mg_eq _ _ _ | exact mw_eq _ _ _ | refine mg_ne (by omega) ?_ | refine mw_ne (by omega) ?_)) rfl (mFa rfl) ?_
  refine z_aload 18 rfl rfl rfl ?_
  refine z_iload 19 rfl rfl rfl ?_
  refine z_newaA 21 (e + 2) rfl rfl rfl rfl (by omega) (by omega) (by omega) ?_
  refine z_put 24 rfl rfl (by repeat (first | exact h0e | exact mg_eq _ _ _ | exact mw_eq _ _ _ | refine mg_ne (by omega) ?_ | refine mw_ne (by omega) ?_)) rfl (mFa rfl) ?_
  refine z_aload 25 rfl rfl rfl ?_
  refine z_iload 26 rfl rfl rfl ?_
  refine z_newaA 28 (e + 3) rfl rfl rfl rfl (by omega) (by omega) (by omega) ?_
  refine z_put 31 rfl rfl (by repeat (first | exact h0e | exact mg_eq _ _ _ | exact mw_eq _ _ _ | refine mg_ne (by omega) ?_ | refine mw_ne (by omega) ?_)) rfl (mFa rfl) ?_
  refine z_aload 32 rfl rfl rfl ?_
  refine z_iload 33 rfl rfl rfl ?_
  refine z_newaA 35 (e + 4) rfl rfl rfl rfl (by omega) (by omega) (by omega) ?_
  refine z_put 38 rfl rfl (by repeat (first | exact h0e | exact mg_eq _ _ _ | exact mw_eq _ _ _ | refine mg_ne (by omega) ?_ | refine mw_ne (by omega) ?_)) rfl (mFa rfl) ?_
  refine z_aload 39 rfl rfl rfl ?_
  refine z_iload 40 rfl rfl rfl ?_
  refine z_newaA 42 (e + 5) rfl rfl rfl rfl (by omega) (by omega) (by omega) ?_
  refine z_put 45 rfl rfl (by repeat (first | exact h0e | exact mg_eq _ _ _ | exact mw_eq _ _ _ | refine mg_ne (by omega) ?_ | refine mw_ne (by omega) ?_)) rfl (mFa rfl) ?_
  refine z_vret rfl (by omega) (by omega) ?_
  refine q _ rfl ⟨Nat.zero_le _, fun _ => 0, fun _ => 0, fun _ => 0, fun _ => 0, fun _ => false, ⟨(by repeat (first | exact h0e | exact mg_eq _ _ _ | exact mw_eq _ _ _ | refine mg_ne (by omega) ?_ | refine mw_ne (by omega) ?_)), (by repeat (first | exact h0e | exact mg_eq _ _ _ | exact mw_eq _ _ _ | refine mg_ne (by omega) ?_ | refine mw_ne (by omega) ?_)), (by repeat (first | exact h0e | exact mg_eq _ _ _ | exact mw_eq _ _ _ | refine mg_ne (by omega) ?_ | refine mw_ne (by omega) ?_)), (by repeat (first | exact h0e | exact mg_eq _ _ _ | exact mw_eq _ _ _ | refine mg_ne (by omega) ?_ | refine mw_ne (by omega) ?_)), (by repeat (first | exact h0e | exact mg_eq _ _ _ | exact mw_eq _ _ _ | refine mg_ne (by omega) ?_ | refine mw_ne (by omega) ?_)), (by repeat (first | exact h0e | exact mg_eq _ _ _ | exact mw_eq _ _ _ | refine mg_ne (by omega) ?_ | refine mw_ne (by omega) ?_))⟩, fun k hk => absurd hk (Nat.not_lt_zero k)⟩ (fun x hx => by repeat (first | with_reducible rfl | refine mg_ne (by omega) ?_ | refine mw_ne (by omega) ?_))
set_option maxRecDepth 100000 in
theorem c_Sh_init {d : Nat} {h : mH} {e n : Nat} {Q : mP} (h0e : h.2 e = .inr (.inr (9, [.null, .null, .null, .null, .int 0]))) (hz : h.1 = e + 1) (hn : n ≤ 10)  (q : ∀ h', h'.1 = e + 5 → ShA h' e n [] → (∀ x, x < e → h'.2 x = h.2 x) → Q none h') : mWP (d + 1) 90 [.ref e, .int (nI n)] h Q := by
  refine z_in [some (.ref e), some (.int (nI n)), none] (by rfl) rfl rfl rfl ?_
  refine z_aload 1 rfl rfl rfl ?_
  refine z_oi 4 rfl rfl rfl ?_
  refine z_iload 5 rfl rfl rfl ?_
  refine z_push 6 (nI 0) rfl rfl rfl ?_
  refine z_max 9 _ rfl rfl rfl (by omega) (by omega) (show _ = nI n from (zmaxN (by omega) (by decide)).trans (by rw [Nat.max_eq_left (Nat.zero_le _)])) ?_
  refine z_istore 10 rfl rfl rfl rfl ?_
  refine z_aload 11 rfl rfl rfl ?_
  refine z_iload 12 rfl rfl rfl ?_
  refine z_newaA 14 (e + 1) hz rfl rfl rfl (by omega) (by omega) (by omega) ?_
  refine z_put 17 rfl rfl (by repeat (first | exact h0e | exact mg_eq _ _ _ | exact mw_eq _ _ _ | refine mg_ne (by omega) ?_ | refine mw_ne (by omega) ?_)) rfl (mFa rfl) ?_
  refine z_aload 18 rfl rfl rfl ?_
  refine z_iload 19 rfl rfl rfl ?_
  refine z_newaA 21 (e + 2) rfl rfl rfl rfl (by omega) (by omega) (by omega) ?_
  refine z_put 24 rfl rfl (by repeat (first | exact h0e | exact mg_eq _ _ _ | exact mw_eq _ _ _ | refine mg_ne (by omega) ?_ | refine mw_ne (by omega) ?_)) rfl (mFa rfl) ?_
  refine z_aload 25 rfl rfl rfl ?_
  refine z_iload 26 rfl rfl rfl ?_
  refine z_newaA 28 (e + 3) rfl rfl rfl rfl (by omega) (by omega) (by omega) ?_
  refine z_put 31 rfl rfl (by repeat (first | exact h0e | exact mg_eq _ _ _ | exact mw_eq _ _ _ | refine mg_ne (by omega) ?_ | refine mw_ne (by omega) ?_)) rfl (mFa rfl) ?_
  refine z_aload 32 rfl rfl rfl ?_
  refine z_iload 33 rfl rfl rfl ?_
  refine z_newaA 35 (e + 4) rfl rfl rfl rfl (by omega) (by omega) (by omega) ?_
  refine z_put 38 rfl rfl (by repeat (first | exact h0e | exact mg_eq _ _ _ | exact mw_eq _ _ _ | refine mg_ne (by omega) ?_ | refine mw_ne (by omega) ?_)) rfl (mFa rfl) ?_
  refine z_vret rfl (by omega) (by omega) ?_
  refine q _ rfl ⟨Nat.zero_le _, fun _ => 0, fun _ => 0, fun _ => 0, fun _ => false, ⟨(by repeat (first | exact h0e | exact mg_eq _ _ _ | exact mw_eq _ _ _ | refine mg_ne (by omega) ?_ | refine mw_ne (by omega) ?_)), (by repeat (first | exact h0e | exact mg_eq _ _ _ | exact mw_eq _ _ _ | refine mg_ne (by omega) ?_ | refine mw_ne (by omega) ?_)), (by repeat (first | exact h0e | exact mg_eq _ _ _ | exact mw_eq _ _ _ | refine mg_ne (by omega) ?_ | refine mw_ne (by omega) ?_)), (by repeat (first | exact h0e | exact mg_eq _ _ _ | exact mw_eq _ _ _ | refine mg_ne (by omega) ?_ | refine mw_ne (by omega) ?_)), (by repeat (first | exact h0e | exact mg_eq _ _ _ | exact mw_eq _ _ _ | refine mg_ne (by omega) ?_ | refine mw_ne (by omega) ?_))⟩, fun k hk => absurd hk (Nat.not_lt_zero k)⟩ (fun x hx => by repeat (first | with_reducible rfl | refine mg_ne (by omega) ?_ | refine mw_ne (by omega) ?_))
set_option maxRecDepth 100000 in
theorem c_Ro_init {d : Nat} {h : mH} {e : Nat} {Q : mP} (h0e : h.2 e = .inr (.inr (6, [.null, .null, .null, .null]))) (hz : h.1 = e + 1)  (q : ∀ h', h'.1 = e + 5 → RoAt h' e (fun _ => nI 0) (fun _ => nI 0) (fun _ => nI 0) (fun _ => nI 0) → (∀ x, x < e → h'.2 x = h.2 x) → Q none h') : mWP (d + 1) 62 [.ref e] h Q := by
  refine z_in [some (.ref e)] (by rfl) rfl rfl rfl ?_
  refine z_aload 1 rfl rfl rfl ?_
  refine z_oi 4 rfl rfl rfl ?_
  refine z_aload 5 rfl rfl rfl ?_
  refine z_push 7 (nI 20) rfl rfl rfl ?_
  refine z_newaA 9 (e + 1) hz rfl rfl rfl (by omega) (by omega) (by omega) ?_
  refine z_put 12 rfl rfl (by repeat (first | exact h0e | exact mg_eq _ _ _ | exact mw_eq _ _ _ | refine mg_ne (by omega) ?_ | refine mw_ne (by omega) ?_)) rfl (mFa rfl) ?_
  refine z_aload 13 rfl rfl rfl ?_
  refine z_push 15 (nI 20) rfl rfl rfl ?_
  refine z_newaA 17 (e + 2) rfl rfl rfl rfl (by omega) (by omega) (by omega) ?_
  refine z_put 20 rfl rfl (by repeat (first | exact h0e | exact mg_eq _ _ _ | exact mw_eq _ _ _ | refine mg_ne (by omega) ?_ | refine mw_ne (by omega) ?_)) rfl (mFa rfl) ?_
  refine z_aload 21 rfl rfl rfl ?_
  refine z_push 23 (nI 20) rfl rfl rfl ?_
  refine z_newaA 25 (e + 3) rfl rfl rfl rfl (by omega) (by omega) (by omega) ?_
  refine z_put 28 rfl rfl (by repeat (first | exact h0e | exact mg_eq _ _ _ | exact mw_eq _ _ _ | refine mg_ne (by omega) ?_ | refine mw_ne (by omega) ?_)) rfl (mFa rfl) ?_
  refine z_aload 29 rfl rfl rfl ?_
  refine z_push 30 (nI 4) rfl rfl rfl ?_
  refine z_newaA 32 (e + 4) rfl rfl rfl rfl (by omega) (by omega) (by omega) ?_
  refine z_put 35 rfl rfl (by repeat (first | exact h0e | exact mg_eq _ _ _ | exact mw_eq _ _ _ | refine mg_ne (by omega) ?_ | refine mw_ne (by omega) ?_)) rfl (mFa rfl) ?_
  refine z_vret rfl (by omega) (by omega) ?_
  refine q _ rfl ⟨(by repeat (first | exact h0e | exact mg_eq _ _ _ | exact mw_eq _ _ _ | refine mg_ne (by omega) ?_ | refine mw_ne (by omega) ?_)), (by repeat (first | exact h0e | exact mg_eq _ _ _ | exact mw_eq _ _ _ | refine mg_ne (by omega) ?_ | refine mw_ne (by omega) ?_)), (by repeat (first | exact h0e | exact mg_eq _ _ _ | exact mw_eq _ _ _ | refine mg_ne (by omega) ?_ | refine mw_ne (by omega) ?_)), (by repeat (first | exact h0e | exact mg_eq _ _ _ | exact mw_eq _ _ _ | refine mg_ne (by omega) ?_ | refine mw_ne (by omega) ?_)), (by repeat (first | exact h0e | exact mg_eq _ _ _ | exact mw_eq _ _ _ | refine mg_ne (by omega) ?_ | refine mw_ne (by omega) ?_))⟩ (fun x hx => by repeat (first | with_reducible rfl | refine mg_ne (by omega) ?_ | refine mw_ne (by omega) ?_))
set_option maxRecDepth 100000 in
theorem c_Rw_init {d : Nat} {h : mH} {e n : Nat} {Q : mP} (h0e : h.2 e = .inr (.inr (7, [.null, .int 0]))) (hz : h.1 = e + 1) (hn : n ≤ 6000)  (q : ∀ h', h'.1 = e + 2 → RwAt h' e n [] → (∀ x, x < e → h'.2 x = h.2 x) → Q none h') : mWP (d + 1) 70 [.ref e, .int (nI n)] h Q := by
  refine z_in [some (.ref e), some (.int (nI n))] (by rfl) rfl rfl rfl ?_
  refine z_aload 1 rfl rfl rfl ?_
  refine z_oi 4 rfl rfl rfl ?_
  refine z_aload 5 rfl rfl rfl ?_
  refine z_iload 6 rfl rfl rfl ?_
  refine z_push 7 (nI 0) rfl rfl rfl ?_
  refine z_max 10 _ rfl rfl rfl (by omega) (by omega) (show _ = nI n from (zmaxN (by omega) (by decide)).trans (by rw [Nat.max_eq_left (Nat.zero_le _)])) ?_
  refine z_newaA 12 (e + 1) hz rfl rfl rfl (by omega) (by omega) (by omega) ?_
  refine z_put 15 rfl rfl (by repeat (first | exact h0e | exact mg_eq _ _ _ | exact mw_eq _ _ _ | refine mg_ne (by omega) ?_ | refine mw_ne (by omega) ?_)) rfl (mFa rfl) ?_
  refine z_vret rfl (by omega) (by omega) ?_
  refine q _ rfl ⟨(by repeat (first | exact h0e | exact mg_eq _ _ _ | exact mw_eq _ _ _ | refine mg_ne (by omega) ?_ | refine mw_ne (by omega) ?_)), Nat.zero_le _, fun _ => 0, (by repeat (first | exact h0e | exact mg_eq _ _ _ | exact mw_eq _ _ _ | refine mg_ne (by omega) ?_ | refine mw_ne (by omega) ?_)), fun k hk => absurd hk (Nat.not_lt_zero k)⟩ (fun x hx => by repeat (first | with_reducible rfl | refine mg_ne (by omega) ?_ | refine mw_ne (by omega) ?_))
