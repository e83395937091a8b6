/-! Row -/
abbrev oRow (v : Nat) (c : Int32) : mC := .inr (.inr (7, [.ref v, .int c]))
abbrev aI (n : Nat) (f : Nat → Int32) : mC := .inl (0, n, f)
abbrev aZ (n : Nat) (f : Nat → Int32) : mC := .inl (1, n, f)
set_option maxRecDepth 10000 in
theorem c_Row_clear {d : Nat} {h : mH} {r v : Nat} {c : Int32} {Q : mP} (h1 : h.2 r = oRow v c) (q : Q none (mSet h r (oRow v 0))) : mWP (d + 1) 71 [.ref r] h Q := by
  refine z_in [some (.ref r)] (by rfl) rfl rfl rfl ?_
  refine z_aload 1 rfl rfl rfl ?_
  refine z_push 2 (nI 0) rfl rfl rfl ?_
  refine z_put 5 rfl rfl h1 rfl (mFi rfl) ?_
  refine z_vret rfl (Nat.le_refl _) (Nat.le_refl _) ?_
  exact q
set_option maxRecDepth 10000 in
theorem c_Row_add {d : Nat} {h : mH} {r v n c : Nat} {f : Nat → Int32} {x : Int32} {Q : mP} (h1 : h.2 r = oRow v (nI c)) (h2 : h.2 v = aI n f) (hn : n < 2 ^ 31) (hc : c ≤ n) (q1 : c < n → Q (some (.int 1)) (mSet (mSet h v (aI n (upd f c x))) r (oRow v (nI (c + 1))))) (q0 : n = c → Q (some (.int 0)) h) : mWP (d + 1) 72 [.ref r, .int x] h Q := by
  refine z_in [some (.ref r), some (.int x)] (by rfl) rfl rfl rfl ?_
  refine z_aload 1 rfl rfl rfl ?_
  refine z_get 4 rfl rfl (by first | exact h1 | exact h2 | exact mg_k h1 h2 (by simp) ) rfl ?_
  refine z_aload 5 rfl rfl rfl ?_
  refine z_get 8 rfl rfl (by first | exact h1 | exact h2 | exact mg_k h1 h2 (by simp) ) rfl ?_
  refine z_alen 9 rfl rfl (by first | exact h1 | exact h2 | exact mg_k h1 h2 (by simp) ) (by decide) ?_
  first | refine z_nlt 12 rfl rfl (by omega) (by omega) (fun hc9 => ?_) (fun hc9 => ?_) | refine z_klt 12 rfl rfl (by omega) (fun hc9 => ?_) (fun hc9 => ?_) | refine z_hlt 12 rfl rfl (by omega) (fun hc9 => ?_) (fun hc9 => ?_) | refine z_tlt 12 rfl rfl (fun hc9 => ?_) (fun hc9 => ?_)
  · refine z_aload 15 rfl rfl rfl ?_
    refine z_get 18 rfl rfl (by first | exact h1 | exact h2 | exact mg_k h1 h2 (by simp) ) rfl ?_
    refine z_aload 19 rfl rfl rfl ?_
    refine z_get 22 rfl rfl (by first | exact h1 | exact h2 | exact mg_k h1 h2 (by simp) ) rfl ?_
    refine z_iload 23 rfl rfl rfl ?_
    refine z_ast 24 rfl rfl (by first | exact h1 | exact h2 | exact mg_k h1 h2 (by simp) ) rfl (by omega) (by omega) ?_
    refine z_aload 25 rfl rfl rfl ?_
    first | refine z_dup 26 rfl rfl ?_ | refine z_dupi 26 rfl rfl ?_
    refine z_get 29 rfl rfl (by first | exact h1 | exact h2 | exact mg_k h1 h2 (by simp) ) rfl ?_
    refine z_push 30 (nI 1) rfl rfl rfl ?_
    refine z_bop 31 _ rfl rfl (by first | with_reducible exact zb_0 _ _ | exact zd_0 _ _) ?_
    refine z_put 34 rfl rfl (by first | exact h1 | exact h2 | exact mg_k h1 h2 (by simp) ) rfl (mFi rfl) ?_
    refine z_push 35 (nI 1) rfl rfl rfl ?_
    refine z_iretb rfl (Nat.le_refl _) (Nat.le_refl _) (by first | decide | exact bI_01 _) ?_
    exact q1 (by omega)
  · refine z_push 13 (nI 0) rfl rfl rfl ?_
    refine z_iretb rfl (Nat.le_refl _) (Nat.le_refl _) (by first | decide | exact bI_01 _) ?_
    exact q0 (by omega)
