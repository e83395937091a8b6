/-! Routes.plan -/
theorem msS_hi {s g : Nat → Nat} {kf : Nat → Bool} {gl i : Nat} {w : Nat → Nat} (hw : ∀ j, 4 ≤ j → w j = 0) (hs : s i < 4) : ∀ j, 4 ≤ j → msS s g kf gl w i j = 0 := by
  intro j hj
  unfold msS updN
  rw [if_neg (by omega)]
  exact hw j hj
theorem msF_hi {s g : Nat → Nat} {kf : Nat → Bool} {gl : Nat} : ∀ (m i : Nat) {w : Nat → Nat}, (∀ j, 4 ≤ j → w j = 0) → (∀ j, j < i + m → s j < 4) → ∀ j, 4 ≤ j → msF s g kf gl m i w j = 0
  | 0, _, _, hw, _ => hw
  | m + 1, i, _, hw, hs => msF_hi m (i + 1) (msS_hi hw (hs i (by omega))) (fun j hj => hs j (by omega))
theorem msK_hi {s g : Nat → Nat} {kf : Nat → Bool} {gl c : Nat} (hs : ∀ j, j < c → s j < 4) : ∀ (k : Nat) {w : Nat → Nat}, (∀ j, 4 ≤ j → w j = 0) → ∀ j, 4 ≤ j → msK s g kf gl c k w j = 0
  | 0, _, hw => hw
  | k + 1, _, hw => msK_hi hs k (msF_hi c 0 hw (fun j hj => hs j (by omega)))
theorem mw0_hi {w : Nat → Nat} {k : Nat} (hw : ∀ j, 4 ≤ j → w j = 0) : mw0 w k = mw0 (fun _ => 0) k := by
  funext j
  unfold mw0
  split
  · rfl
  · split
    · rfl
    · exact hw j (by omega)
/-- how many shifts there are from each state to a goal -/
def wG (s g : Nat → Nat) (kf : Nat → Bool) (c gl : Nat) : Nat → Nat := msK s g kf gl c 3 (mw0 (fun _ => 0) (gSt gl))
theorem mw0_z (k : Nat) (hk : k < 4) : (∀ j, j < 4 → mw0 (fun _ => 0) k j ≤ 100) ∧ ∀ j, 4 ≤ j → mw0 (fun _ => 0) k j = 0 := by
  refine ⟨fun j hj => ?_, fun j hj => ?_⟩
  · unfold mw0
    split
    · omega
    · first | omega | (split <;> omega)
  · unfold mw0
    rw [if_neg (by omega), if_neg (by omega)]
def plV (s g v : Nat → Nat) (kf : Nat → Bool) (c j : Nat) : Int32 × Nat × Nat := wkR (wG s g kf c (j / 4)) s g v kf (j / 4) c (j % 4)
def plT (F : Nat → Int32) (T : Nat → Int32) (k : Nat) : Nat → Int32 := fun j => if j < k then F j else T j
theorem plT_s {F T : Nat → Int32} {k : Nat} : upd (plT F T k) k (F k) = plT F T (k + 1) := by
  funext j
  simp only [plT, upd]
  by_cases hj : j = k
  · subst hj; rw [if_pos rfl, if_pos (by omega)]
  · rw [if_neg hj]
    by_cases h2 : j < k
    · rw [if_pos h2, if_pos (by omega)]
    · rw [if_neg h2, if_neg (by omega)]
theorem plT_0 (F T : Nat → Int32) : plT F T 0 = T := by funext j; simp [plT]
set_option maxRecDepth 10000 in
theorem c_Ro_plan {d : Nat} {h : mH} {e sh n c : Nat} {T N A : Nat → Int32} {w0 : Nat → Nat} {s g v : Nat → Nat} {kf : Nat → Bool} {Q : mP} (hR : RoAt h e T N A (fun j => nI (w0 j))) (hw0 : ∀ j, 4 ≤ j → w0 j = 0) (hE : ShAt h sh n (fun j => nI (s j)) (fun j => nI (v j)) (fun j => nI (g j)) (fun j => bI (kf j)) c) (hd : e + 5 ≤ sh ∨ sh + 5 ≤ e) (hn : n < 2 ^ 31) (hc : c ≤ n) (hs : ∀ j, j < c → s j < 4) (hg : ∀ j, j < c → g j < 4) (hv : ∀ j, j < c → v j < 256) (q : ∀ h' (w : Nat → Nat), (∀ j, 4 ≤ j → w j = 0) → RoAt h' e (plT (fun j => (plV s g v kf c j).1) T (20)) (plT (fun j => nI (plV s g v kf c j).2.1) N (20)) (plT (fun j => nI (plV s g v kf c j).2.2) A (20)) (fun j => nI (w j)) → Fr e (e + 5) h h' → Q none h') : mWP (d + 4) 64 [.ref e, .ref sh] h Q := by
  have inner : ∀ m fr h1 gl, gl < 5 → fr + m = 4 → RoAt h1 e (plT (fun j => (plV s g v kf c j).1) T (gl * 4 + fr)) (plT (fun j => nI (plV s g v kf c j).2.1) N (gl * 4 + fr)) (plT (fun j => nI (plV s g v kf c j).2.2) A (gl * 4 + fr)) (fun j => nI (wG s g kf c gl j)) → Fr e (e + 5) h h1 → (∀ h2, RoAt h2 e (plT (fun j => (plV s g v kf c j).1) T (gl * 4 + 4)) (plT (fun j => nI (plV s g v kf c j).2.1) N (gl * 4 + 4)) (plT (fun j => nI (plV s g v kf c j).2.2) A (gl * 4 + 4)) (fun j => nI (wG s g kf c gl j)) → Fr e (e + 5) h h2 → mZ (d + 3) tk_64 0 0 Q 33 [some (.ref e), some (.ref sh), some (.int (nI gl)), some (.int (nI 4))] [] h2 0 0) → mZ (d + 3) tk_64 0 0 Q 15 [some (.ref e), some (.ref sh), some (.int (nI gl)), some (.int (nI fr))] [] h1 0 0 := by
    intro m
    induction m with
    | zero =>
      intro fr h1 gl hgl hm hR1 hf1 K
      obtain rfl : fr = 4 := by omega
      refine z_iload 16 rfl rfl rfl ?_
      refine z_push 17 (nI 4) rfl rfl rfl ?_
      refine z_nge 20 rfl rfl (by omega) (by omega) (fun _ => ?_) (fun h9 => absurd h9 (by omega))
      exact K h1 hR1 hf1
    | succ m ih' =>
      intro fr h1 gl hgl hm hR1 hf1 K
      have ih := fun fr h1 => ih' fr h1 gl hgl
      have hE1 := hE.fr hf1 (by omega)
      refine z_iload 16 rfl rfl rfl ?_
      refine z_push 17 (nI 4) rfl rfl rfl ?_
      first | refine z_nge 20 rfl rfl (by omega) (by omega) (fun hc17 => ?_) (fun hc17 => ?_) | refine z_kge 20 rfl rfl (by omega) (fun hc17 => ?_) (fun hc17 => ?_) | refine z_hge 20 rfl rfl (by omega) (fun hc17 => ?_) (fun hc17 => ?_) | refine z_tge 20 rfl rfl (fun hc17 => ?_) (fun hc17 => ?_)
      · exact absurd hc17 (by omega)
      · refine z_aload 21 rfl rfl rfl ?_
        refine z_aload 22 rfl rfl rfl ?_
        refine z_iload 23 rfl rfl rfl ?_
        refine z_iload 24 rfl rfl rfl ?_
        refine z_cv 27 _ rfl rfl rfl rfl (by repeat (first | exact hR1.1 | exact mg_eq _ _ _ | refine mg_ne (by omega) ?_)) rfl rfl (Nat.le_refl _) (Nat.le_refl _) ?_
        refine c_Ro_walk hR1 hE1 hd hn hc hs hg hv (fun j hj => msK_le hs 3 (mw0_z _ (gSt_lt hgl)).1 j hj) hgl (by omega) (fun h2 hR2 hf2 => ?_)
        have e9 : wkR (wG s g kf c gl) s g v kf gl c fr = plV s g v kf c (gl * 4 + fr) := by rw [plV, show (gl * 4 + fr) / 4 = gl by omega, show (gl * 4 + fr) % 4 = fr by omega]
        have hR3 : RoAt h2 e (plT (fun j => (plV s g v kf c j).1) T (gl * 4 + (fr + 1))) (plT (fun j => nI (plV s g v kf c j).2.1) N (gl * 4 + (fr + 1))) (plT (fun j => nI (plV s g v kf c j).2.2) A (gl * 4 + (fr + 1))) (fun j => nI (wG s g kf c gl j)) := by
          rw [show gl * 4 + (fr + 1) = gl * 4 + fr + 1 by omega, ← plT_s, ← plT_s, ← plT_s, ← e9]
          exact hR2
        refine z_iinc 30 _ rfl rfl rfl rfl (by first | with_reducible exact zi_1 _ | rfl) ?_
        refine z_goto rfl ?_
        exact ih (fr + 1) _ (by omega) hR3 (hf1.trans hf2) K
  have outer : ∀ k gl (w : Nat → Nat) h1 (o3 : Option Value), gl + k = 5 → (∀ j, 4 ≤ j → w j = 0) → RoAt h1 e (plT (fun j => (plV s g v kf c j).1) T (gl * 4)) (plT (fun j => nI (plV s g v kf c j).2.1) N (gl * 4)) (plT (fun j => nI (plV s g v kf c j).2.2) A (gl * 4)) (fun j => nI (w j)) → Fr e (e + 5) h h1 → mZ (d + 3) tk_64 0 0 Q 2 [some (.ref e), some (.ref sh), some (.int (nI gl)), o3] [] h1 0 0 := by
    intro k
    induction k with
    | zero =>
      intro gl w h1 o3 hk hw hR1 hf1
      obtain rfl : gl = 5 := by omega
      refine z_iload 3 rfl rfl rfl ?_
      refine z_push 4 (nI 4) rfl rfl rfl ?_
      refine z_ngt 7 rfl rfl (by omega) (by omega) (fun _ => ?_) (fun h9 => absurd h9 (by omega))
      refine z_vret rfl (Nat.le_refl _) (Nat.le_refl _) ?_
      exact q h1 w hw hR1 hf1
    | succ k ih =>
      intro gl w h1 o3 hk hw hR1 hf1
      have hgl : gl < 5 := by omega
      have hE1 := hE.fr hf1 (by omega)
      refine z_iload 3 rfl rfl rfl ?_
      refine z_push 4 (nI 4) rfl rfl rfl ?_
      first | refine z_ngt 7 rfl rfl (by omega) (by omega) (fun hc4 => ?_) (fun hc4 => ?_) | refine z_kgt 7 rfl rfl (by omega) (fun hc4 => ?_) (fun hc4 => ?_) | refine z_hgt 7 rfl rfl (by omega) (fun hc4 => ?_) (fun hc4 => ?_) | refine z_tgt 7 rfl rfl (fun hc4 => ?_) (fun hc4 => ?_)
      · exact absurd hc4 (by omega)
      · refine z_aload 8 rfl rfl rfl ?_
        refine z_aload 9 rfl rfl rfl ?_
        refine z_iload 10 rfl rfl rfl ?_
        refine z_cv 13 _ rfl rfl rfl rfl (by repeat (first | exact hR1.1 | exact mg_eq _ _ _ | refine mg_ne (by omega) ?_)) rfl rfl (Nat.le_refl _) (Nat.le_refl _) ?_
        refine c_Ro_measure hR1 hE1 hd hn hc hs hg hgl (fun h2 hR2 hf2 => ?_)
        rw [mw0_hi hw] at hR2
        refine z_push 14 (nI 0) rfl rfl rfl ?_
        refine z_istore 15 rfl rfl rfl rfl ?_
        refine inner 4 0 h2 gl hgl (by omega) hR2 (hf1.trans hf2) (fun h3 hR3 hf3 => ?_)
        refine z_iinc 36 _ rfl rfl rfl rfl (zi_1 _) ?_
        refine z_goto rfl ?_
        rw [show gl * 4 + 4 = (gl + 1) * 4 by omega] at hR3
        exact ih (gl + 1) _ h3 _ (by omega) (msK_hi hs 3 (mw0_z _ (gSt_lt hgl)).2) hR3 hf3
  refine z_in [some (.ref e), some (.ref sh), none, none] (by rfl) rfl rfl rfl ?_
  refine z_push 1 (nI 0) rfl rfl rfl ?_
  refine z_istore 2 rfl rfl rfl rfl ?_
  exact outer 5 0 w0 h _ (by omega) hw0 (by rw [Nat.zero_mul, plT_0, plT_0, plT_0]; exact hR) Fr.rfl
