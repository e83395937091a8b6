/-! the class: Entries and Shifts over their lists -/
theorem nI_iff {a b : Nat} (ha : a < 2 ^ 31) (hb : b < 2 ^ 31) : nI a = nI b ↔ a = b := ⟨fun h => by
  have h8 := congrArg Int32.toInt h
  rw [nI_toInt ha, nI_toInt hb] at h8
  omega, fun h => by rw [h]⟩
theorem ffd_congr {P Q : Nat → Bool} : ∀ {m i : Nat}, (∀ j, i ≤ j → j < i + m → P j = Q j) → ffd P m i = ffd Q m i
  | 0, _, _ => rfl
  | m + 1, i, h => by
    unfold ffd
    rw [h i (Nat.le_refl _) (by omega), ffd_congr (fun j h1 h2 => h j (by omega) (by omega))]
theorem dec_n {a b c : Nat} (e : a = c) (hc : c < 2 ^ 31) (hb : b < 2 ^ 31) : decide (nI a = nI b) = decide (c = b) := by rw [e]; exact decide_eq_decide.mpr (nI_iff hc hb)
theorem w_En_slotOf {d : Nat} {h : mH} {e st tx ln : Nat} {E : List En} {H : List Sh} {Q : mP} (hA : EnA h e 100 E) (hW : TbW E H) (hst : st < 2 ^ 31) (htx : tx < 2 ^ 31) (hln : ln < 2 ^ 31) (q : Q (some (.int (oI (ffd (eQ E st tx ln) E.length 0)))) h) : mWP (d + 1) 1 [.ref e, .int (nI st), .int (nI tx), .int (nI ln)] h Q := by
  obtain ⟨hE0, s9, t9, n9, p9, f9, hE, hEF⟩ := hA
  refine c_Ent_slotOf hE (by decide) hE0 ?_
  rw [ffd_congr (Q := eQ E st tx ln) (fun j _ hj => ?_)]
  · exact q
  · obtain ⟨u1, u2, u3, u4, u5⟩ := hEF j (by omega)
    obtain ⟨v1, v2, v3, v4, v5⟩ := hW.2.2.1 j (by omega)
    have v7 := hW.tx (show j < E.length by omega)
    unfold eP eQ
    rw [dec_n u1 (by omega) hst, dec_n u2 (by omega) htx, dec_n u3 (by omega) hln]
theorem w_Sh_slotOf {d : Nat} {h : mH} {e st b : Nat} {E : List En} {H : List Sh} {Q : mP} (hA : ShA h e 10 H) (hW : TbW E H) (hst : st < 2 ^ 31) (hb : b < 2 ^ 31) (q : Q (some (.int (oI (ffd (sQ H st b) H.length 0)))) h) : mWP (d + 1) 91 [.ref e, .int (nI st), .int (nI b)] h Q := by
  obtain ⟨hE0, s9, v9, g9, k9, hE, hEF⟩ := hA
  refine c_Sh_slotOf hE (by decide) hE0 ?_
  rw [ffd_congr (Q := sQ H st b) (fun j _ hj => ?_)]
  · exact q
  · obtain ⟨u1, u2, u3, u4⟩ := hEF j (by omega)
    obtain ⟨v1, v2, v3, v4⟩ := hW.2.2.2 j (by omega)
    unfold sP sQ
    rw [dec_n u1 (by omega) hst, dec_n u2 (by omega) hb]
def updB (f : Nat → Bool) (k : Nat) (x : Bool) : Nat → Bool := fun j => if j = k then x else f j
theorem updB_bI (f : Nat → Bool) (k : Nat) (x : Bool) : upd (fun j => bI (f j)) k (bI x) = fun j => bI (updB f k x j) := by
  funext j
  simp only [upd, updB]
  split <;> rfl
theorem bI_or (b : Bool) : bI b = 0 ∨ bI b = 1 := by cases b <;> simp [bI]
theorem EnF_app {E : List En} {s t n p : Nat → Nat} {f : Nat → Bool} {x : En} (h : EnF E s t n p f) : EnF (E ++ [x]) (updN s E.length x.1) (updN t E.length x.2.1) (updN n E.length x.2.2.1) (updN p E.length x.2.2.2.1) (updB f E.length x.2.2.2.2) := by
  intro k hk
  rw [List.length_append] at hk
  have hk' : k < E.length + 1 := hk
  unfold enS enT enN enP enF updN updB
  rw [en_app]
  by_cases e : k = E.length
  · subst e
    rw [if_pos rfl, if_pos rfl, if_pos rfl, if_pos rfl, if_pos rfl, if_neg (by omega), if_pos rfl]
    exact ⟨rfl, rfl, rfl, rfl, rfl⟩
  · simp only [if_neg e]
    rw [if_pos (show k < E.length by omega)]
    exact h k (by omega)
theorem EnF_set {E : List En} {s t n p : Nat → Nat} {f : Nat → Bool} {x : En} {i : Nat} (hi : i < E.length) (h : EnF E s t n p f) : EnF (E.set i x) (updN s i x.1) (updN t i x.2.1) (updN n i x.2.2.1) (updN p i x.2.2.2.1) (updB f i x.2.2.2.2) := by
  intro k hk
  rw [List.length_set] at hk
  unfold enS enT enN enP enF updN updB
  rw [getD_set9 _ _ _ _ hi]
  by_cases e : k = i
  · subst e
    rw [if_pos rfl, if_pos rfl, if_pos rfl, if_pos rfl, if_pos rfl, if_pos rfl]
    exact ⟨rfl, rfl, rfl, rfl, rfl⟩
  · rw [if_neg e, if_neg e, if_neg e, if_neg e, if_neg e, if_neg e]
    exact h k hk
theorem w_En_app {d : Nat} {h : mH} {e st tx ln pt : Nat} {pf : Bool} {E : List En} {Q : mP} (hA : EnA h e 100 E) (hl : E.length < 100) (q : ∀ h', EnA h' e 100 (E ++ [(st, tx, ln, pt, pf)]) → Fr e (e + 6) h h' → Q none h') : mWP (d + 1) 2 [.ref e, .int (nI E.length), .int (nI st), .int (nI tx), .int (nI ln), .int (nI pt), .int (bI pf)] h Q := by
  obtain ⟨hE0, s9, t9, n9, p9, f9, hE, hEF⟩ := hA
  refine c_Ent_put hE (by decide) (Nat.le_refl _) hl hE0 (bI_or pf) (fun h' hE' hF => q h' ⟨?_, _, _, _, _, _, ?_, EnF_app (x := (st, tx, ln, pt, pf)) hEF⟩ hF)
  · rw [List.length_append]; exact hl
  · rw [updN_nI, updN_nI, updN_nI, updN_nI, updB_bI, Nat.max_eq_right (Nat.le_succ _)] at hE'
    rw [List.length_append]
    exact hE'
theorem w_En_set {d : Nat} {h : mH} {e i st tx ln pt : Nat} {pf : Bool} {E : List En} {Q : mP} (hA : EnA h e 100 E) (hi : i < E.length) (q : ∀ h', EnA h' e 100 (E.set i (st, tx, ln, pt, pf)) → Fr e (e + 6) h h' → Q none h') : mWP (d + 1) 2 [.ref e, .int (nI i), .int (nI st), .int (nI tx), .int (nI ln), .int (nI pt), .int (bI pf)] h Q := by
  obtain ⟨hE0, s9, t9, n9, p9, f9, hE, hEF⟩ := hA
  refine c_Ent_put hE (by decide) (by omega) (by omega) hE0 (bI_or pf) (fun h' hE' hF => q h' ⟨?_, _, _, _, _, _, ?_, EnF_set (x := (st, tx, ln, pt, pf)) hi hEF⟩ hF)
  · rw [List.length_set]; exact hE0
  · rw [updN_nI, updN_nI, updN_nI, updN_nI, updB_bI, Nat.max_eq_left (by omega)] at hE'
    rw [List.length_set]
    exact hE'
theorem ShF_app {H : List Sh} {s v g : Nat → Nat} {k : Nat → Bool} {x : Sh} (h : ShF H s v g k) : ShF (H ++ [x]) (updN s H.length x.1) (updN v H.length x.2.1) (updN g H.length x.2.2.1) (updB k H.length x.2.2.2) := by
  intro i hi
  rw [List.length_append] at hi
  have hi' : i < H.length + 1 := hi
  unfold shS shV shG shK updN updB
  rw [getD_app9]
  by_cases e : i = H.length
  · subst e
    rw [if_pos rfl, if_pos rfl, if_pos rfl, if_pos rfl, if_neg (by omega), if_pos rfl]
    exact ⟨rfl, rfl, rfl, rfl⟩
  · simp only [if_neg e]
    rw [if_pos (show i < H.length by omega)]
    exact h i (by omega)
theorem w_Sh_app {d : Nat} {h : mH} {e st b g : Nat} {k : Bool} {H : List Sh} {Q : mP} (hA : ShA h e 10 H) (hl : H.length < 10) (q : ∀ h', ShA h' e 10 (H ++ [(st, b, g, k)]) → Fr e (e + 5) h h' → Q none h') : mWP (d + 1) 92 [.ref e, .int (nI st), .int (nI b), .int (nI g), .int (bI k)] h Q := by
  obtain ⟨hE0, s9, v9, g9, k9, hE, hEF⟩ := hA
  refine c_Sh_add hE (by decide) hl (bI_or k) (fun h' hE' hF => q h' ⟨?_, _, _, _, _, ?_, ShF_app (x := (st, b, g, k)) hEF⟩ hF)
  · rw [List.length_append]; exact hl
  · rw [updN_nI, updN_nI, updN_nI, updB_bI] at hE'
    rw [List.length_append]
    exact hE'
theorem rmv_nI (s : Nat → Nat) (k i : Nat) : rmv (fun j => nI (s j)) k i = fun j => nI (if k ≤ j ∧ j < i then s (j + 1) else s j) := by
  funext j; simp only [rmv]; split <;> rfl
theorem rmv_bI (s : Nat → Bool) (k i : Nat) : rmv (fun j => bI (s j)) k i = fun j => bI (if k ≤ j ∧ j < i then s (j + 1) else s j) := by
  funext j; simp only [rmv]; split <;> rfl
theorem w_En_rem {d : Nat} {h : mH} {e i : Nat} {E : List En} {Q : mP} (hA : EnA h e 100 E) (hi : i < E.length) (q : ∀ h', EnA h' e 100 (E.eraseIdx i) → Fr e (e + 6) h h' → Q none h') : mWP (d + 2) 3 [.ref e, .int (nI i)] h Q := by
  obtain ⟨hE0, s9, t9, n9, p9, f9, hE, hEF⟩ := hA
  have hlen : (E.eraseIdx i).length = E.length - 1 := List.length_eraseIdx_of_lt hi
  refine c_Ent_removeAt hE (by decide) hi hE0 (fun j => bI_or _) (fun h' hE' hF => q h' ⟨by omega, _, _, _, _, _, by rw [rmv_nI, rmv_nI, rmv_nI, rmv_nI, rmv_bI] at hE'; rw [hlen]; exact hE', fun j hj => ?_⟩ hF)
  rw [hlen] at hj
  unfold enS enT enN enP enF
  rw [getD_era9]
  by_cases e1 : j < i
  · rw [if_pos e1, if_neg (by omega), if_neg (by omega), if_neg (by omega), if_neg (by omega), if_neg (by omega)]
    exact hEF j (by omega)
  · rw [if_neg e1, if_pos (by omega), if_pos (by omega), if_pos (by omega), if_pos (by omega), if_pos (by omega)]
    exact hEF (j + 1) (by omega)
theorem w_Sh_rem {d : Nat} {h : mH} {e i : Nat} {H : List Sh} {Q : mP} (hA : ShA h e 10 H) (hi : i < H.length) (q : ∀ h', ShA h' e 10 (H.eraseIdx i) → Fr e (e + 5) h h' → Q none h') : mWP (d + 1) 93 [.ref e, .int (nI i)] h Q := by
  obtain ⟨hE0, s9, v9, g9, k9, hE, hEF⟩ := hA
  have hlen : (H.eraseIdx i).length = H.length - 1 := List.length_eraseIdx_of_lt hi
  refine c_Sh_removeAt hE (by decide) hi hE0 (fun j => bI_or _) (fun h' hE' hF => q h' ⟨by omega, _, _, _, _, by rw [rmv_nI, rmv_nI, rmv_nI, rmv_bI] at hE'; rw [hlen]; exact hE', fun j hj => ?_⟩ hF)
  rw [hlen] at hj
  unfold shS shV shG shK
  rw [getD_era9]
  by_cases e1 : j < i
  · rw [if_pos e1, if_neg (by omega), if_neg (by omega), if_neg (by omega), if_neg (by omega)]
    exact hEF j (by omega)
  · rw [if_neg e1, if_pos (by omega), if_pos (by omega), if_pos (by omega), if_pos (by omega)]
    exact hEF (j + 1) (by omega)
theorem cpf_nI (s2 s : Nat → Nat) (i : Nat) : cpf (fun j => nI (s2 j)) (fun j => nI (s j)) i = fun j => nI (if j < i then s2 j else s j) := by
  funext j; simp only [cpf]; split <;> rfl
theorem cpf_bI (s2 s : Nat → Bool) (i : Nat) : cpf (fun j => bI (s2 j)) (fun j => bI (s j)) i = fun j => bI (if j < i then s2 j else s j) := by
  funext j; simp only [cpf]; split <;> rfl
theorem w_En_copy {d : Nat} {h : mH} {e e2 : Nat} {E E2 : List En} {Q : mP} (hA : EnA h e 100 E) (hB : EnA h e2 100 E2) (hd : e + 6 ≤ e2 ∨ e2 + 6 ≤ e) (q : ∀ h', EnA h' e 100 E2 → Fr e (e + 6) h h' → Q none h') : mWP (d + 2) 4 [.ref e, .ref e2] h Q := by
  obtain ⟨hE0, s9, t9, n9, p9, f9, hE, hEF⟩ := hA
  obtain ⟨hB0, s8, t8, n8, p8, f8, hB1, hBF⟩ := hB
  refine c_Ent_copyFrom hE hB1 (by decide) (by decide) hB0 hB0 hd (fun j => bI_or _) (fun h' hE' hF => q h' ⟨hB0, _, _, _, _, _, by rw [cpf_nI, cpf_nI, cpf_nI, cpf_nI, cpf_bI] at hE'; exact hE', fun j hj => ?_⟩ hF)
  rw [if_pos hj, if_pos hj, if_pos hj, if_pos hj, if_pos hj]
  exact hBF j hj
theorem w_Sh_copy {d : Nat} {h : mH} {e e2 : Nat} {H H2 : List Sh} {Q : mP} (hA : ShA h e 10 H) (hB : ShA h e2 10 H2) (hd : e + 5 ≤ e2 ∨ e2 + 5 ≤ e) (q : ∀ h', ShA h' e 10 H2 → Fr e (e + 5) h h' → Q none h') : mWP (d + 2) 94 [.ref e, .ref e2] h Q := by
  obtain ⟨hE0, s9, v9, g9, k9, hE, hEF⟩ := hA
  obtain ⟨hB0, s8, v8, g8, k8, hB1, hBF⟩ := hB
  refine c_Sh_copyFrom hE hB1 (by decide) (by decide) hB0 hB0 hd (fun j => bI_or _) (fun h' hE' hF => q h' ⟨hB0, _, _, _, _, by rw [cpf_nI, cpf_nI, cpf_nI, cpf_bI] at hE'; exact hE', fun j hj => ?_⟩ hF)
  rw [if_pos hj, if_pos hj, if_pos hj, if_pos hj]
  exact hBF j hj
