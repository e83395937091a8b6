/-! Row.isSame, isText, answer, small forms -/
def smP (f g : Nat → Int32) : Nat → Bool
  | 0 => true
  | n + 1 => smP f g n && decide (f n = g n)
/-- f and g agree from i on, m places -/
def smF (f g : Nat → Int32) : Nat → Nat → Bool
  | 0, _ => true
  | m + 1, i => if f i = g i then smF f g m (i + 1) else false
def jText (x y z : Int32) : Bool := jState x && decide (1 ≤ z.toInt ∧ z.toInt ≤ 3) && decide (0 ≤ y.toInt ∧ y.toInt < (nI 1 <<< ((nI 8 * z) &&& 31)).toInt)
set_option maxRecDepth 10000 in
theorem c_Row_isSame {d : Nat} {h : mH} {r v n c r2 v2 n2 c2 : Nat} {f g : Nat → Int32} {Q : mP} (h1 : h.2 r = oRow v (nI c)) (h2 : h.2 v = aI n f) (h3 : h.2 r2 = oRow v2 (nI c2)) (h4 : h.2 v2 = aI n2 g) (hn : n < 2 ^ 31) (hn2 : n2 < 2 ^ 31) (hc : c ≤ n) (hc2 : c2 ≤ n2) (q : Q (some (.int (bI (decide (c = c2) && smF f g c 0)))) h) : mWP (d + 1) 79 [.ref r, .ref r2] h Q := by
  have loop : c = c2 → ∀ m i, i + m = c → smF f g m i = smF f g c 0 → mZ d tk_79 0 0 Q 15 [some (.ref r), some (.ref r2), some (.int (nI i))] [] h 0 0 := by
    intro hcc
    have q0 : Q (some (.int (bI (smF f g c 0)))) h := by simpa [hcc] using q
    intro m
    induction m with
    | zero =>
      intro i hi hq
      obtain rfl : i = c := by omega
      refine z_iload 16 rfl rfl rfl ?_
      refine z_aload 17 rfl rfl rfl ?_
      refine z_get 20 rfl rfl h1 rfl ?_
      refine z_nge 23 rfl rfl (by omega) (by omega) (fun _ => ?_) (fun h9 => absurd h9 (by omega))
      refine z_push 47 (nI 1) rfl rfl rfl ?_
      refine z_iretb rfl (Nat.le_refl _) (Nat.le_refl _) (by decide) ?_
      rw [← hq] at q0
      exact q0
    | succ m ih =>
      intro i hi hq
      refine z_iload 16 rfl rfl rfl ?_
      refine z_aload 17 rfl rfl rfl ?_
      refine z_get 20 rfl rfl (by first | exact h1 | exact h2 | exact h3 | exact h4) rfl ?_
      first | refine z_nge 23 rfl rfl (by omega) (by omega) (fun hc20 => ?_) (fun hc20 => ?_) | refine z_kge 23 rfl rfl (by omega) (fun hc20 => ?_) (fun hc20 => ?_) | refine z_hge 23 rfl rfl (by omega) (fun hc20 => ?_) (fun hc20 => ?_) | refine z_tge 23 rfl rfl (fun hc20 => ?_) (fun hc20 => ?_)
      · refine z_push 47 (nI 1) rfl rfl rfl ?_
        refine z_iretb rfl (Nat.le_refl _) (Nat.le_refl _) (by first | decide | exact bI_01 _) ?_
        exact absurd hc20 (by omega)
      · refine z_aload 24 rfl rfl rfl ?_
        refine z_get 27 rfl rfl (by first | exact h1 | exact h2 | exact h3 | exact h4) rfl ?_
        refine z_iload 28 rfl rfl rfl ?_
        refine z_ald 29 rfl rfl (by first | exact h1 | exact h2 | exact h3 | exact h4) rfl (by omega) (by omega) ?_
        refine z_aload 30 rfl rfl rfl ?_
        refine z_get 33 rfl rfl (by first | exact h1 | exact h2 | exact h3 | exact h4) rfl ?_
        refine z_iload 34 rfl rfl rfl ?_
        refine z_ald 35 rfl rfl (by first | exact h1 | exact h2 | exact h3 | exact h4) rfl (by omega) (by omega) ?_
        refine z_ceq 38 rfl rfl (fun hc35 => ?_) (fun hc35 => ?_)
        · refine z_iinc 43 _ rfl rfl rfl rfl (by first | with_reducible exact zi_1 _ | rfl) ?_
          refine z_goto rfl ?_
          refine ih (i + 1) (by omega) ?_
          rw [← hq]
          simp [smF, hc35]
        · refine z_push 39 (nI 0) rfl rfl rfl ?_
          refine z_iretb rfl (Nat.le_refl _) (Nat.le_refl _) (by first | decide | exact bI_01 _) ?_
          refine zqo ?_ q0
          rw [← hq]
          simp [smF, hc35, bI, nI_0]
  refine z_in [some (.ref r), some (.ref r2), none] (by rfl) rfl rfl rfl ?_
  refine z_aload 1 rfl rfl rfl ?_
  refine z_get 4 rfl rfl (by first | exact h1 | exact h3) rfl ?_
  refine z_aload 5 rfl rfl rfl ?_
  refine z_get 8 rfl rfl (by first | exact h1 | exact h3) rfl ?_
  first | refine z_neq 11 rfl rfl (by omega) (by omega) (fun hc8 => ?_) (fun hc8 => ?_) | refine z_keq 11 rfl rfl (by omega) (fun hc8 => ?_) (fun hc8 => ?_) | refine z_heq 11 rfl rfl (by omega) (fun hc8 => ?_) (fun hc8 => ?_) | refine z_ceq 11 rfl rfl (fun hc8 => ?_) (fun hc8 => ?_)
  · refine z_push 14 (nI 0) rfl rfl rfl ?_
    refine z_istore 15 rfl rfl rfl rfl ?_
    exact loop hc8 c 0 (by omega) rfl
  · refine z_push 12 (nI 0) rfl rfl rfl ?_
    refine z_iretb rfl (Nat.le_refl _) (Nat.le_refl _) (by first | decide | exact bI_01 _) ?_
    refine zqo ?_ q
    simp [hc8, bI, nI_0]
set_option maxRecDepth 10000 in
theorem c_answer {d : Nat} {h : mH} {x : Nat} {fs : List Value} {a : Int32} {k : Nat} {Q : mP} (h1 : h.2 x = .inr (.inr (11, fs))) (hl : fs.length = 17) (hk : fs[16]? = some (.int (nI k))) (q0 : 0 ≤ a.toInt → Q (some (.int a)) h) (q1 : a.toInt < 0 → Q (some (.int a)) (mSet h x (.inr (.inr (11, fs.set 16 (.int (nI (k + 1)))))))) : mWP (d + 1) 139 [.ref x, .int a] h Q := by
  refine z_in [some (.ref x), some (.int a)] (by rfl) rfl rfl rfl ?_
  refine z_iload 1 rfl rfl rfl ?_
  first | refine z_zge 4 rfl rfl (by omega) (fun hc1 => ?_) (fun hc1 => ?_) | refine z_jge 4 rfl rfl (fun hc1 => ?_) (fun hc1 => ?_)
  · refine z_iload 15 rfl rfl rfl ?_
    refine z_ireti rfl (Nat.le_refl _) (Nat.le_refl _) ?_
    first | exact q0 (by omega) | exact q1 (by omega)
  · refine z_aload 5 rfl rfl rfl ?_
    first | refine z_dup 6 rfl rfl ?_ | refine z_dupi 6 rfl rfl ?_
    refine z_get 9 rfl rfl h1 hk ?_
    refine z_push 10 (nI 1) rfl rfl rfl ?_
    refine z_bop 11 _ rfl rfl (by first | with_reducible exact zb_0 _ _ | exact zd_0 _ _) ?_
    refine z_put 14 rfl rfl h1 (by rw [hl]; rfl) (mFi rfl) ?_
    refine z_iload 15 rfl rfl rfl ?_
    refine z_ireti rfl (Nat.le_refl _) (Nat.le_refl _) ?_
    first | exact q0 (by omega) | exact q1 (by omega)
