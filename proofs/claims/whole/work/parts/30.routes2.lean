/-! Routes.measure -/
def updN (w : Nat → Nat) (k x : Nat) : Nat → Nat := fun j => if j = k then x else w j
theorem updN_nI (w : Nat → Nat) (k x : Nat) : upd (fun j => nI (w j)) k (nI x) = fun j => nI (updN w k x j) := by
  funext j
  simp only [upd, updN]
  split <;> rfl
def mw0 (w : Nat → Nat) (k : Nat) : Nat → Nat := fun j => if j = k then 0 else if j < 4 then 100 else w j
theorem mw0_ok (w : Nat → Nat) (k : Nat) : upd (fil9 (fun j => nI (w j)) (nI 100) 4) k (nI 0) = fun j => nI (mw0 w k j) := by
  funext j
  simp only [upd, fil9, mw0]
  split
  · rfl
  · split <;> rfl
def msS (s g : Nat → Nat) (kf : Nat → Bool) (gl : Nat) (w : Nat → Nat) (i : Nat) : Nat → Nat := updN w (s i) (min (w (s i)) (sBy w g kf gl i))
def msF (s g : Nat → Nat) (kf : Nat → Bool) (gl : Nat) : Nat → Nat → (Nat → Nat) → Nat → Nat
  | 0, _, w => w
  | m + 1, i, w => msF s g kf gl m (i + 1) (msS s g kf gl w i)
def msK (s g : Nat → Nat) (kf : Nat → Bool) (gl c : Nat) : Nat → (Nat → Nat) → Nat → Nat
  | 0, w => w
  | k + 1, w => msK s g kf gl c k (msF s g kf gl c 0 w)
theorem sBy_le {w g : Nat → Nat} {kf : Nat → Bool} {gl i : Nat} (hw : ∀ j, j < 4 → w j ≤ 100) (hg : g i < 4) : sBy w g kf gl i ≤ 101 := by
  unfold sBy
  have := hw (g i) hg
  split
  · omega
  · split <;> omega
theorem msS_le {s g : Nat → Nat} {kf : Nat → Bool} {gl i : Nat} {w : Nat → Nat} (hw : ∀ j, j < 4 → w j ≤ 100) (hs : s i < 4) : ∀ j, j < 4 → msS s g kf gl w i j ≤ 100 := by
  intro j hj
  unfold msS updN
  have := hw (s i) hs
  have := hw j hj
  split <;> omega
theorem msF_le {s g : Nat → Nat} {kf : Nat → Bool} {gl : Nat} : ∀ (m i : Nat) {w : Nat → Nat}, (∀ j, j < 4 → w j ≤ 100) → (∀ j, j < i + m → s j < 4) → ∀ j, j < 4 → msF s g kf gl m i w j ≤ 100
  | 0, _, _, hw, _ => hw
  | m + 1, i, _, hw, hs => msF_le m (i + 1) (msS_le hw (hs i (by omega))) (fun j hj => hs j (by omega))
theorem msK_le {s g : Nat → Nat} {kf : Nat → Bool} {gl c : Nat} (hs : ∀ j, j < c → s j < 4) : ∀ (k : Nat) {w : Nat → Nat}, (∀ j, j < 4 → w j ≤ 100) → ∀ j, j < 4 → msK s g kf gl c k w j ≤ 100
  | 0, _, hw => hw
  | k + 1, _, hw => msK_le hs k (msF_le c 0 hw (fun j hj => hs j (by omega)))
theorem gSt_lt {g : Nat} (h : g < 5) : gSt g < 4 := by unfold gSt; split <;> omega
set_option maxRecDepth 10000 in
theorem c_Ro_measure {d : Nat} {h : mH} {e sh n c gl : Nat} {T N A : Nat → Int32} {w0 : Nat → Nat} {V : Nat → Int32} {s g : Nat → Nat} {kf : Nat → Bool} {Q : mP} (hR : RoAt h e T N A (fun j => nI (w0 j))) (hE : ShAt h sh n (fun j => nI (s j)) V (fun j => nI (g j)) (fun j => bI (kf j)) c) (hd : e + 5 ≤ sh ∨ sh + 5 ≤ e) (hn : n < 2 ^ 31) (hc : c ≤ n) (hs : ∀ j, j < c → s j < 4) (hg : ∀ j, j < c → g j < 4) (hgl : gl < 5) (q : ∀ h', RoAt h' e T N A (fun j => nI (msK s g kf gl c 3 (mw0 w0 (gSt gl)) j)) → Fr e (e + 5) h h' → Q none h') : mWP (d + 2) 67 [.ref e, .ref sh, .int (nI gl)] h Q := by
  have inner : ∀ m i w h1 (o5 : Option Value) (rd : Int32), i + m = c → (∀ j, j < 4 → w j ≤ 100) → RoAt h1 e T N A (fun j => nI (w j)) → Fr e (e + 5) h h1 → (∀ h2 o6, RoAt h2 e T N A (fun j => nI (msF s g kf gl m i w j)) → Fr e (e + 5) h h2 → mZ (d + 1) tk_67 0 0 Q 78 [some (.ref e), some (.ref sh), some (.int (nI gl)), some (.int rd), some (.int (nI c)), o6] [] h2 0 0) → mZ (d + 1) tk_67 0 0 Q 29 [some (.ref e), some (.ref sh), some (.int (nI gl)), some (.int rd), some (.int (nI i)), o5] [] h1 0 0 := by
    intro m
    induction m with
    | zero =>
      intro i w h1 o5 rd hi hw hR1 hf1 K
      obtain rfl : i = c := by omega
      have hE1 := hE.fr hf1 (by omega)
      refine z_iload 31 rfl rfl rfl ?_
      refine z_aload 32 rfl rfl rfl ?_
      refine z_get 35 rfl rfl hE1.1 rfl ?_
      refine z_nge 38 rfl rfl (by omega) (by omega) (fun _ => ?_) (fun h9 => absurd h9 (by omega))
      exact K h1 o5 hR1 hf1
    | succ m ih' =>
      intro i w h1 o5 rd hi hw hR1 hf1 K
      have ih := fun i w h1 o5 => ih' i w h1 o5 rd
      have hE1 := hE.fr hf1 (by omega)
      obtain ⟨R0, R1, R2, R3, R4⟩ := id hR1
      obtain ⟨E0, E1, E2, E3, E4⟩ := id hE1
      have hsi := hs i (by omega)
      have hw9 := hw (s i) hsi
      have hb9 := sBy_le (kf := kf) (gl := gl) hw (hg i (by omega))
      refine z_iload 31 rfl rfl rfl ?_
      refine z_aload 32 rfl rfl rfl ?_
      refine z_get 35 rfl rfl (by repeat (first | exact R0 | exact R4 | exact E0 | exact E1 | exact E2 | exact E3 | exact E4 | exact mg_eq _ _ _ | refine mg_ne (by omega) ?_)) rfl ?_
      first | refine z_nge 38 rfl rfl (by omega) (by omega) (fun hc35 => ?_) (fun hc35 => ?_) | refine z_kge 38 rfl rfl (by omega) (fun hc35 => ?_) (fun hc35 => ?_) | refine z_hge 38 rfl rfl (by omega) (fun hc35 => ?_) (fun hc35 => ?_) | refine z_tge 38 rfl rfl (fun hc35 => ?_) (fun hc35 => ?_)
      · exact absurd hc35 (by omega)
      · refine z_aload 39 rfl rfl rfl ?_
        refine z_get 42 rfl rfl (by repeat (first | exact R0 | exact R4 | exact E0 | exact E1 | exact E2 | exact E3 | exact E4 | exact mg_eq _ _ _ | refine mg_ne (by omega) ?_)) rfl ?_
        refine z_iload 44 rfl rfl rfl ?_
        refine z_ald 45 rfl rfl (by repeat (first | exact R0 | exact R4 | exact E0 | exact E1 | exact E2 | exact E3 | exact E4 | exact mg_eq _ _ _ | refine mg_ne (by omega) ?_)) rfl (by omega) (by omega) ?_
        refine z_istore 47 rfl rfl rfl rfl ?_
        refine z_aload 48 rfl rfl rfl ?_
        refine z_get 51 rfl rfl (by repeat (first | exact R0 | exact R4 | exact E0 | exact E1 | exact E2 | exact E3 | exact E4 | exact mg_eq _ _ _ | refine mg_ne (by omega) ?_)) rfl ?_
        refine z_iload 53 rfl rfl rfl ?_
        refine z_aload 54 rfl rfl rfl ?_
        refine z_get 57 rfl rfl (by repeat (first | exact R0 | exact R4 | exact E0 | exact E1 | exact E2 | exact E3 | exact E4 | exact mg_eq _ _ _ | refine mg_ne (by omega) ?_)) rfl ?_
        refine z_iload 59 rfl rfl rfl ?_
        refine z_ald 60 rfl rfl (by repeat (first | exact R0 | exact R4 | exact E0 | exact E1 | exact E2 | exact E3 | exact E4 | exact mg_eq _ _ _ | refine mg_ne (by omega) ?_)) rfl (by omega) (by omega) ?_
        refine z_aload 61 rfl rfl rfl ?_
        refine z_aload 62 rfl rfl rfl ?_
        refine z_iload 64 rfl rfl rfl ?_
        refine z_iload 65 rfl rfl rfl ?_
        refine z_cv 68 _ rfl rfl rfl rfl (by repeat (first | exact R0 | exact R4 | exact E0 | exact E1 | exact E2 | exact E3 | exact E4 | exact mg_eq _ _ _ | refine mg_ne (by omega) ?_)) rfl rfl (Nat.le_refl _) (Nat.le_refl _) ?_
        refine c_Ro_stepsBy hR1 hE1 hn (by omega) (hg i (by omega)) hgl ?_
        refine z_min 71 _ rfl rfl rfl (Nat.le_refl _) (Nat.le_refl _) (zminN (by omega) (by omega)) ?_
        refine z_ast 72 rfl rfl (by repeat (first | exact R0 | exact R4 | exact E0 | exact E1 | exact E2 | exact E3 | exact E4 | exact mg_eq _ _ _ | refine mg_ne (by omega) ?_)) rfl (by omega) (by omega) ?_
        refine z_iinc 75 _ rfl rfl rfl rfl (by first | with_reducible exact zi_1 _ | rfl) ?_
        refine z_goto rfl ?_
        refine ih (i + 1) (msS s g kf gl w i) _ _ (by omega) (msS_le hw (hs i (by omega))) ⟨mg_ne (by omega) R0, mg_ne (by omega) R1, mg_ne (by omega) R2, mg_ne (by omega) R3, ?_⟩ (Fr.set hf1 (by omega) (by omega)) K
        rw [mg_eq, updN_nI]
        rfl
  have outer : ∀ k rd w h1 (o4 o5 : Option Value), rd + k = 4 → (∀ j, j < 4 → w j ≤ 100) → RoAt h1 e T N A (fun j => nI (w j)) → Fr e (e + 5) h h1 → (∀ h2, RoAt h2 e T N A (fun j => nI (msK s g kf gl c k w j)) → Fr e (e + 5) h h2 → Q none h2) → mZ (d + 1) tk_67 0 0 Q 21 [some (.ref e), some (.ref sh), some (.int (nI gl)), some (.int (nI rd)), o4, o5] [] h1 0 0 := by
    intro k
    induction k with
    | zero =>
      intro rd w h1 o4 o5 hrd hw hR1 hf1 hq
      refine z_iload 22 rfl rfl rfl ?_
      refine z_push 23 (nI 4) rfl rfl rfl ?_
      refine z_nge 26 rfl rfl (by omega) (by omega) (fun _ => ?_) (fun h9 => absurd h9 (by omega))
      refine z_vret rfl (Nat.le_refl _) (Nat.le_refl _) ?_
      exact hq h1 hR1 hf1
    | succ k ih =>
      intro rd w h1 o4 o5 hrd hw hR1 hf1 hq
      refine z_iload 22 rfl rfl rfl ?_
      refine z_push 23 (nI 4) rfl rfl rfl ?_
      refine z_nge 26 rfl rfl (by omega) (by omega) (fun h9 => absurd h9 (by omega)) (fun _ => ?_)
      refine z_push 27 (nI 0) rfl rfl rfl ?_
      refine z_istore 29 rfl rfl rfl rfl ?_
      refine inner c 0 w h1 o5 (nI rd) (by omega) hw hR1 hf1 (fun h2 o6 hR2 hf2 => ?_)
      refine z_iinc 81 _ rfl rfl rfl rfl (zi_1 _) ?_
      refine z_goto rfl ?_
      exact ih (rd + 1) _ h2 _ _ (by omega) (msF_le c 0 hw (fun j hj => hs j (by omega))) hR2 hf2 hq
  obtain ⟨R0, R1, R2, R3, R4⟩ := id hR
  have hg9 := gSt_lt hgl
  refine z_in [some (.ref e), some (.ref sh), some (.int (nI gl)), none, none, none] (by rfl) rfl rfl rfl ?_
  refine z_aload 1 rfl rfl rfl ?_
  refine z_get 4 rfl rfl (by repeat (first | exact R0 | exact R4 | exact mg_eq _ _ _ | refine mg_ne (by omega) ?_)) rfl ?_
  refine z_push 6 (nI 100) rfl rfl rfl ?_
  refine z_cs 9 _ rfl rfl rfl rfl rfl rfl (Nat.le_refl _) (Nat.le_refl _) ?_
  refine c_fill R4 (by omega) ?_
  refine z_aload 10 rfl rfl rfl ?_
  refine z_get 13 rfl rfl (by repeat (first | exact R0 | exact R4 | exact mg_eq _ _ _ | refine mg_ne (by omega) ?_)) rfl ?_
  refine z_iload 14 rfl rfl rfl ?_
  refine z_cs 17 _ rfl rfl rfl rfl rfl rfl (Nat.le_refl _) (Nat.le_refl _) ?_
  refine c_Ro_stateOf (by omega) ?_
  refine z_push 18 (nI 0) rfl rfl rfl ?_
  refine z_ast 19 rfl rfl (by repeat (first | exact R0 | exact R4 | exact mg_eq _ _ _ | refine mg_ne (by omega) ?_)) rfl (by omega) (by omega) ?_
  refine z_push 20 (nI 1) rfl rfl rfl ?_
  refine z_istore 21 rfl rfl rfl rfl ?_
  refine outer 3 1 (mw0 w0 (gSt gl)) _ _ _ (by omega) (fun j hj => by unfold mw0; split <;> (try split) <;> omega) ⟨mg_ne (by omega) (mg_ne (by omega) R0), mg_ne (by omega) (mg_ne (by omega) R1), mg_ne (by omega) (mg_ne (by omega) R2), mg_ne (by omega) (mg_ne (by omega) R3), ?_⟩ (Fr.set (Fr.set Fr.rfl (by omega) (by omega)) (by omega) (by omega)) q
  rw [mg_eq, mw0_ok]
