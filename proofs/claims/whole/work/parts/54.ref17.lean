/-! the reference: reading all bytes -/
def rdA (K : Nat) (E : List En) (H : List Sh) (rule sg : Nat) : Nat → Nat → Nat → Nat → List Nat → List Nat → Nat → Option Nat × List Nat × Nat
  | 0, _, _, _, _, us, fl => (none, us, fl)
  | m + 1, a, st, pn, bs, us, fl => if bs.length = 0 then (none, us, fl) else
    if (rd1 K E H rule sg true st pn bs).1 = 0 then (some a, us, fl + 1)
    else rdA K E H rule sg m (a + (rd1 K E H rule sg true st pn bs).1) (rd1 K E H rule sg true st pn bs).2.1 (rd1 K E H rule sg true st pn bs).2.2.1 (bs.drop (rd1 K E H rule sg true st pn bs).1) (us ++ (rd1 K E H rule sg true st pn bs).2.2.2.1) (fl + (rd1 K E H rule sg true st pn bs).2.2.2.2)
/-- all bytes are read: the place of what was refused; units; faults -/
def rdAll (K : Nat) (E : List En) (H : List Sh) (rule sg : Nat) (bs : List Nat) : Option Nat × List Nat × Nat := rdA K E H rule sg (bs.length + 1) 0 0 4 bs [] 0
theorem rd1_b {K st pn rule sg : Nat} {E : List En} {H : List Sh} {bs : List Nat} {last : Bool} (hW : TbW E H) (hb : ∀ j, bs.getD j 0 < 256) (hn : 1 ≤ bs.length) (hst : st < 4) (hpn : pn ≤ 4) : (rd1 K E H rule sg last st pn bs).1 ≤ bs.length ∧ (rd1 K E H rule sg last st pn bs).2.1 < 4 ∧ (rd1 K E H rule sg last st pn bs).2.2.1 ≤ 4 ∧ (rd1 K E H rule sg last st pn bs).2.2.2.1.length ≤ 2 ∧ (rd1 K E H rule sg last st pn bs).2.2.2.2 ≤ 1 ∧ ((rd1 K E H rule sg last st pn bs).1 = 0 → (rd1 K E H rule sg last st pn bs).2.2.2.1 = []) ∧ ((rd1 K E H rule sg last st pn bs).1 = 0 → last = true → rule = 0 ∧ (rd1 K E H rule sg last st pn bs).2.2.2.2 = 1) := by
  unfold rd1
  split
  · rename_i h0
    exact ⟨Nat.zero_le _, hst, hpn, Nat.zero_le _, Nat.zero_le _, fun _ => rfl, fun _ h9 => by rw [h9] at h0; exact absurd h0.2 (by decide)⟩
  · split
    · rename_i h1
      have := lk_b hW hb hn h1
      exact ⟨this.2.1, hst, Nat.le_refl _, puU_len _, Nat.zero_le _, fun h9 => by simp only at h9; omega, fun h9 => by simp only at h9; omega⟩
    · split
      · rename_i h2
        have := lk_c h2
        have hk := hW.2.2.2 _ this.1
        split
        · exact ⟨hn, hk.2.2.1, hpn, Nat.zero_le _, Nat.zero_le _, fun h9 => absurd (show (1 : Nat) = 0 from h9) (by decide), fun h9 => absurd (show (1 : Nat) = 0 from h9) (by decide)⟩
        · exact ⟨hn, hst, by simp only; omega, Nat.zero_le _, Nat.zero_le _, fun h9 => absurd (show (1 : Nat) = 0 from h9) (by decide), fun h9 => absurd (show (1 : Nat) = 0 from h9) (by decide)⟩
      · split
        · rename_i h3
          exact ⟨Nat.zero_le _, hst, hpn, Nat.zero_le _, Nat.le_refl _, fun _ => rfl, fun _ _ => ⟨h3, rfl⟩⟩
        · refine ⟨hn, hst, Nat.le_refl _, ?_, Nat.le_refl _, fun h9 => absurd (show (1 : Nat) = 0 from h9) (by decide), fun h9 => absurd (show (1 : Nat) = 0 from h9) (by decide)⟩
          simp only
          split
          · exact puU_len _
          · split <;> simp
theorem Seg.drop {f : Nat → Nat} {l : List Nat} (h : Seg f 0 l) (a : Nat) : Seg f a (l.drop a) := by
  intro j hj
  rw [List.length_drop] at hj
  have := h (a + j) (by omega)
  rw [Nat.zero_add] at this
  rw [this]
  simp [List.getD_eq_getElem?_getD]
theorem getD_drop9 (l : List Nat) (a j : Nat) : (l.drop a).getD j 0 = l.getD (a + j) 0 := by simp [List.getD_eq_getElem?_getD]
def rdR (x : Option Nat × List Nat × Nat) : Int32 := match x.1 with
  | some _ => -9
  | none => nI x.2.1.length
def rdP (x : Option Nat × List Nat × Nat) (d : Nat) : Nat := match x.1 with
  | some a => a
  | none => d
set_option maxRecDepth 100000 in
theorem r_readAll {d r : Nat} {h h0 : mH} {s : rS} {p K rule sg o ok on : Nat} {E : List En} {H : List Sh} {bys : List Nat} {Q : mP} (hR : Rf r h0 s h) (hp11 : p < 11) (hk : s.2.2 1 p = K) (hK4 : K < 4) (hT : TbR s p E H) (hW : TbW E H) (hru : rule < 4) (hsg : s.2.2 21 0 = sg) (hsgb : sg < 1114112) (hy : RBy s bys) (hbb : ∀ j, bys.getD j 0 < 256) (ho9 : o = 43 ∨ o = 44) (hoa : rArr o = some (ok, 0, on)) (hon : 2002 ≤ on)  (q : ∀ h' s', Rf r h0 s' h' → Keep s s' → s'.1 22 = rdP (rdAll K E H rule sg bys) (s.1 22) → (∀ f, f ∉ rdL o → s'.2.2 f = s.2.2 f) → OutAt s' o (rdAll K E H rule sg bys).2.1 → s'.1 39 = (rdAll K E H rule sg bys).2.2 → Q (some (.int (rdR (rdAll K E H rule sg bys)))) h') : mWP (d + 6) 216 [.ref r, .int (nI p), .int (nI rule), .ref (r + ok)] h Q := by
  have hyl := hy.2.1
  have hoL : o ∉ [40, 41, 42] := by rcases ho9 with rfl | rfl <;> decide
  have hno : ∀ c, c ∈ [34, 35, 39, 40, 41, 42] → c ∉ [37, o] := by rcases ho9 with rfl | rfl <;> decide
  have hop : ∀ c, c ∈ rdL o → rPers c = false := by rcases ho9 with rfl | rfl <;> decide
  have loop : ∀ m a st pn us fl s1 h o5, (bys.drop a).length < m → a ≤ bys.length → st < 4 → pn ≤ 4 → us.length ≤ 2 * a → rdAll K E H rule sg bys = rdA K E H rule sg m a st pn (bys.drop a) us fl → Rf r h0 s1 h → Keep s s1 → (∀ f, f ∉ rdL o → s1.2.2 f = s.2.2 f) → s1.1 22 = s.1 22 → s1.1 34 = st → s1.1 35 = pn → s1.1 39 = fl → OutAt s1 o us → mZ (d + 5) tk_216 0 0 Q 28 [some (.ref r), some (.int (nI p)), some (.int (nI rule)), some (.ref (r + ok)), some (.int (nI a)), o5] [] h 0 0 := by
    intro m
    induction m with
    | zero => intro a st pn us fl s1 h o5 h1; omega
    | succ m ih =>
      intro a st pn us fl s1 h o5 h1 h2 hst hpn hul hA hR hK hf1 h22 h34 h35 h39 ho
      have k14 : s1.1 14 = bys.length := (hK 14 rfl).1.trans hy.1
      have hdl : (bys.drop a).length = bys.length - a := List.length_drop
      have k37 : s1.1 37 = us.length := ho.2.1
      have hT1 := hT.k hK
      have hk1 : s1.2.2 1 p = K := by rw [(hK 1 rfl).2]; exact hk
      have hsg1 : s1.2.2 21 0 = sg := by rw [(hK 21 rfl).2]; exact hsg
      have hb1 : ByAt s1 15 a (bys.drop a) := ⟨by rw [(hK 15 rfl).2]; exact hy.2.2.drop a, fun j => by rw [getD_drop9]; exact hbb _⟩
      refine z_iload 30 rfl rfl rfl ?_
      refine z_aload 31 rfl rfl rfl ?_
      refine y_gi 34 _ hR rfl rfl rfl rfl rfl (by repeat (first | with_reducible exact gI_eq _ _ _ | (with_reducible apply gI_ne; decide) | with_reducible apply gI_A | with_reducible apply gI_O | with_reducible exact k14 | with_reducible exact k37 | with_reducible rfl)) ?_
      refine z_nge 37 rfl rfl (by omega) (by omega) (fun hc34 => ?_) (fun hc34 => ?_)
      · refine z_aload 81 rfl rfl rfl ?_
        refine y_gi 84 _ hR rfl rfl rfl rfl rfl (by repeat (first | with_reducible exact gI_eq _ _ _ | (with_reducible apply gI_ne; decide) | with_reducible apply gI_A | with_reducible apply gI_O | with_reducible exact k14 | with_reducible exact k37 | with_reducible rfl)) ?_
        refine z_ireti rfl (Nat.le_refl _) (Nat.le_refl _) ?_
        have e9 : rdAll K E H rule sg bys = (none, us, fl) := by rw [hA, rdA, if_pos (by omega)]
        rw [e9] at q
        exact q h s1 hR hK h22 hf1 ho h39
      · refine z_aload 38 rfl rfl rfl ?_
        refine z_iload 39 rfl rfl rfl ?_
        refine z_iload 40 rfl rfl rfl ?_
        refine z_aload 41 rfl rfl rfl ?_
        refine y_ga 44 hR rfl rfl rfl ?_
        refine z_iload 46 rfl rfl rfl ?_
        refine z_aload 47 rfl rfl rfl ?_
        refine y_gi 50 _ hR rfl rfl rfl rfl rfl (by repeat (first | with_reducible exact gI_eq _ _ _ | (with_reducible apply gI_ne; decide) | with_reducible apply gI_A | with_reducible apply gI_O | with_reducible exact k14 | with_reducible exact k37 | with_reducible rfl)) ?_
        refine z_push 51 (nI 1) rfl rfl rfl ?_
        refine z_cv6 54 rfl rfl hR.1 rfl (Nat.le_refl _) (Nat.le_refl _) ?_
        have ee : bys.length = a + (bys.drop a).length := by omega
        rw [ee]
        refine r_readOne (last := true) hR hp11 hk1 hK4 hT1 hW h34 h35 hst hpn hru hsg1 hsgb h39 ho hoa (by omega) hoL (by decide) hno rfl hb1 (by omega) (by omega) (by decide) (fun h s2 hR hO g34 g35 g39 ho2 => ?_)
        obtain ⟨b1, b2, b3, b4, b5, b6, b7⟩ := rd1_b (K := K) (rule := rule) (sg := sg) (last := true) hW hb1.2 (by omega) hst hpn
        have hK2 := hK.trans (hO.keep hop)
        have hf2 : ∀ f, f ∉ rdL o → s2.2.2 f = s.2.2 f := fun f h9 => ((hO.1 f h9).2).trans (hf1 f h9)
        have g22 : s2.1 22 = s.1 22 := (hO.1 22 (by rcases ho9 with rfl | rfl <;> decide)).1.trans h22
        by_cases hx : (rd1 K E H rule sg true st pn (bys.drop a)).1 = 0
        · obtain ⟨hr0, hfl⟩ := b7 hx rfl
          have eI : rI (rd1 K E H rule sg true st pn (bys.drop a)) = -9 := if_pos ⟨hx, hfl⟩
          rw [eI]
          refine z_istore 56 rfl rfl rfl rfl ?_
          refine z_iload 58 rfl rfl rfl ?_
          refine z_jge 61 rfl rfl (fun h9 => absurd h9 (by decide)) (fun _ => ?_)
          refine z_aload 62 rfl rfl rfl ?_
          refine z_iload 64 rfl rfl rfl ?_
          refine y_pi 67 hR rfl rfl rfl rfl rfl (mFi rfl) ?_
          intro h hR
          refine z_iload 69 rfl rfl rfl ?_
          refine z_ireti rfl (Nat.le_refl _) (Nat.le_refl _) ?_
          have e9 : rdAll K E H rule sg bys = (some a, us, fl + 1) := by rw [hA, rdA, if_neg (by omega), if_pos hx]
          rw [e9] at q
          rw [b6 hx, List.append_nil] at ho2
          rw [hfl] at g39
          exact q h _ hR (hK2.I rfl) (gI_eq _ _ _) hf2 ho2 g39
        · have eI : rI (rd1 K E H rule sg true st pn (bys.drop a)) = nI (rd1 K E H rule sg true st pn (bys.drop a)).1 := if_neg (fun h9 => hx h9.1)
          rw [eI]
          have hm9 : (nI (rd1 K E H rule sg true st pn (bys.drop a)).1).toInt = ((rd1 K E H rule sg true st pn (bys.drop a)).1 : Int) := nI_toInt (by omega)
          refine z_istore 56 rfl rfl rfl rfl ?_
          refine z_iload 58 rfl rfl rfl ?_
          refine z_jge 61 rfl rfl (fun _ => ?_) (fun h9 => absurd h9 (by omega))
          refine z_iload 72 rfl rfl rfl ?_
          refine z_iload 74 rfl rfl rfl ?_
          refine z_bop 75 _ rfl rfl (by first | with_reducible exact zb_0 _ _ | exact zd_0 _ _) ?_
          refine z_istore 77 rfl rfl rfl rfl ?_
          refine z_goto rfl ?_
          refine ih (a + (rd1 K E H rule sg true st pn (bys.drop a)).1) _ _ _ _ s2 h _ ?_ (by omega) b2 b3 ?_ ?_ hR hK2 ?_ g22 g34 g35 g39 ho2
          · rw [List.length_drop]; omega
          · rw [List.length_append]; omega
          · rw [hA, rdA, if_neg (by omega), if_neg hx, List.drop_drop]
          · exact hf2
  refine z_in [some (.ref r), some (.int (nI p)), some (.int (nI rule)), some (.ref (r + ok)), none, none] (by rfl) rfl rfl rfl ?_
  refine z_aload 1 rfl rfl rfl ?_
  refine z_push 2 (nI 0) rfl rfl rfl ?_
  refine y_pi 5 hR rfl rfl rfl rfl rfl (mFi rfl) ?_
  intro h hR
  refine z_aload 6 rfl rfl rfl ?_
  refine z_push 7 (nI 4) rfl rfl rfl ?_
  refine y_pi 10 hR rfl rfl rfl rfl rfl (mFi rfl) ?_
  intro h hR
  refine z_aload 11 rfl rfl rfl ?_
  refine z_aload 12 rfl rfl rfl ?_
  refine y_po 15 (f := o) hR rfl rfl hoa ?_
  intro h hR
  refine z_aload 16 rfl rfl rfl ?_
  refine z_push 17 (nI 0) rfl rfl rfl ?_
  refine y_pi 20 hR rfl rfl rfl rfl rfl (mFi rfl) ?_
  intro h hR
  refine z_aload 21 rfl rfl rfl ?_
  refine z_push 22 (nI 0) rfl rfl rfl ?_
  refine y_pi 25 hR rfl rfl rfl rfl rfl (mFi rfl) ?_
  intro h hR
  refine z_push 26 (nI 0) rfl rfl rfl ?_
  refine z_istore 28 rfl rfl rfl rfl ?_
  exact loop (bys.length + 1) 0 0 4 [] 0 _ h _ (by rw [List.drop_zero]; omega) (by omega) (by decide) (by decide) (by decide) (by rw [rdAll, List.drop_zero]) hR (((((Keep.rfl.I rfl).I rfl).O).I rfl).I rfl) (fun f h9 => rfl) rfl (by repeat (first | with_reducible exact gI_eq _ _ _ | (with_reducible apply gI_ne; decide) | with_reducible apply gI_A | with_reducible apply gI_O | with_reducible rfl | exact gI_eq _ _ _)) (by repeat (first | with_reducible exact gI_eq _ _ _ | (with_reducible apply gI_ne; decide) | with_reducible apply gI_A | with_reducible apply gI_O | with_reducible rfl | exact gI_eq _ _ _)) (by repeat (first | with_reducible exact gI_eq _ _ _ | (with_reducible apply gI_ne; decide) | with_reducible apply gI_A | with_reducible apply gI_O | with_reducible rfl | exact gI_eq _ _ _)) ⟨rfl, by repeat (first | with_reducible exact gI_eq _ _ _ | (with_reducible apply gI_ne; decide) | with_reducible apply gI_A | with_reducible apply gI_O | with_reducible rfl | exact gI_eq _ _ _), fun j hj => absurd hj (Nat.not_lt_zero j)⟩
