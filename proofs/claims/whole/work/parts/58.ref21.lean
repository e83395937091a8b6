/-! the reference: points put, fallbacks -/
def byF (n v : Nat) : Nat → Nat → List Nat
  | 0, _ => []
  | k + 1, i => bt n v i :: byF n v k (i + 1)
def byL (n v : Nat) : List Nat := byF n v n 0
theorem byF_len (n v : Nat) : ∀ (k i : Nat), (byF n v k i).length = k
  | 0, _ => rfl
  | k + 1, i => by rw [byF, List.length_cons, byF_len n v k (i + 1)]
def pbW (K : Nat) (H : List Sh) (st ts n v : Nat) : List Nat × Nat := if K = 0 then (match gP H ts true st with
  | some l => (l.map (shV H) ++ byL n v, gS H l st)
  | none => (byL n v, st)) else (byL n v, st)
def ghW (K : Nat) (H : List Sh) (st : Nat) : List Nat × Nat := if K = 0 then (match gP H 0 false st with
  | some l => (l.map (shV H), gS H l st)
  | none => ([], st)) else ([], st)
def Rs (H : List Sh) (st : Nat) : Prop := st < 4 ∧ (rchd H).testBit st = true
/-- from reached states there are ways to all preferred entries, and home -/
def Gd (K : Nat) (E : List En) (H : List Sh) : Prop := K = 0 → (∀ st pt ts n v, Rs H st → fnd 0 E pt = some (ts, n, v) → ∃ l, gP H ts true st = some l ∧ Rs H (gS H l st)) ∧ (∀ st, Rs H st → ∃ l, gP H 0 false st = some l ∧ gS H l st = 0)
theorem wQ.cat {L : List Nat} {r : Nat} {h0 : mH} {s : rS} {o m st : Nat} {c : Bool} {l ws : List Nat} {Q : mP} (q : wQ L r h0 s o c m l ws st Q) {l1 ws1 ws2 : List Nat} (e1 : l1 = l ++ ws1) (e2 : ws = ws1 ++ ws2) : (l1.length + ws2.length ≤ m → ∀ h' s', Rf r h0 s' h' → On L s s' → WOut s' o c m (l1 ++ ws2) → s'.1 34 = st → Q (some (.int (nI 0))) h') ∧ (m < l1.length + ws2.length → ∀ h' s', Rf r h0 s' h' → On L s s' → Q (some (.int (-6))) h') := by
  subst e1 e2
  have q1 := q.1
  have q2 := q.2
  rw [List.length_append] at q1 q2
  rw [List.length_append, List.append_assoc]
  exact ⟨fun h => q1 (by omega), fun h => q2 (by omega)⟩
set_option maxRecDepth 100000 in
theorem r_putPoint {d r : Nat} {h h0 : mH} {s : rS} {p K st o kk nn m : Nat} {c : Bool} {l0 : List Nat} {E : List En} {H : List Sh} {ts n v : Nat} {Q : mP} (hR : Rf r h0 s h) (hk : s.2.2 1 p = K) (hK : K < 4) (hT : TbR s p E H) (hW : TbW E H) (hst : st < 4) (h34 : s.1 34 = st) (hA : wO o kk nn m c) (hw : WOut s o c m l0) (hts : ts < 4) (hn4 : n ≤ 4) (h31 : s.1 31 = ts) (hX : TxN s n v) (hg : K = 0 → ∃ l, gP H ts true st = some l)  (q : wQ (wL o) r h0 s o c m l0 (pbW K H st ts n v).1 (pbW K H st ts n v).2 Q) : mWP (d + 11) 220 [.ref r, .int (nI p)] h Q := by
  have hp := hT.1
  have loop : ∀ st1 m9 i l1 s1 h, n < i + m9 → i ≤ n → Rf r h0 s1 h → On (wL o) s s1 → WOut s1 o c m l1 → s1.1 34 = st1 → s1.1 32 = n → (∀ j, j < n → s1.2.2 33 j = bt n v j) → (l1.length + (byF n v (n - i) i).length ≤ m → ∀ h' s', Rf r h0 s' h' → On (wL o) s s' → WOut s' o c m (l1 ++ byF n v (n - i) i) → s'.1 34 = st1 → Q (some (.int (nI 0))) h') ∧ (m < l1.length + (byF n v (n - i) i).length → ∀ h' s', Rf r h0 s' h' → On (wL o) s s' → Q (some (.int (-6))) h') → mZ (d + 10) tk_220 0 0 Q 26 [some (.ref r), some (.int (nI p)), some (.int (nI 0)), some (.int (nI i))] [] h 0 0 := by
    intro st1 m9
    induction m9 with
    | zero => intro i l1 s1 h h1 h2; omega
    | succ m9 ih =>
      intro i l1 s1 h h1 h2 hR hO hw h34 h32 h33 qq
      rw [byF_len] at qq
      have hlm := hw.2.2.2.2.1
      refine z_iload 27 rfl rfl rfl ?_
      refine z_aload 28 rfl rfl rfl ?_
      refine y_gi 31 _ hR rfl rfl rfl rfl rfl (by repeat (first | with_reducible exact gI_eq _ _ _ | (with_reducible apply gI_ne; decide) | with_reducible apply gI_A | with_reducible apply gI_O | with_reducible exact h32 | with_reducible exact h33 i (by omega) | with_reducible rfl)) ?_
      refine z_nge 34 rfl rfl (by omega) (by omega) (fun hc31 => ?_) (fun hc31 => ?_)
      · refine z_iload 56 rfl rfl rfl ?_
        refine z_ireti rfl (Nat.le_refl _) (Nat.le_refl _) ?_
        have q1 := qq.1 (by omega) h s1 hR hO
        rw [show n - i = 0 by omega] at q1
        exact q1 (by rw [byF, List.append_nil]; exact hw) h34
      · refine z_iload 35 rfl rfl rfl ?_
        refine z_zne 38 rfl rfl (by omega) (fun h9 => absurd h9 (by omega)) (fun _ => ?_)
        refine z_aload 39 rfl rfl rfl ?_
        refine z_aload 40 rfl rfl rfl ?_
        refine y_ga 43 hR rfl rfl rfl ?_
        refine z_iload 44 rfl rfl rfl ?_
        refine y_al (f := 33) 45 _ hR rfl rfl rfl rfl (by omega) (by repeat (first | with_reducible exact h32 | with_reducible exact h33 i (by omega) | with_reducible exact gA_eq _ _ _ _ | (with_reducible apply gA_ne; decide) | with_reducible apply gA_I | with_reducible apply gA_O | (with_reducible apply gA_nj; omega) | with_reducible rfl)) ?_
        refine z_cv1 48 rfl rfl hR.1 rfl (Nat.le_refl _) (Nat.le_refl _) ?_
        refine r_putByte hR hw hA.1 hA.2.1 hA.2.2.1 hA.ne.1 hA.ne.2.1 (fun hlt h s2 hR hO2 hw2 => ?_) (fun hfull => ?_)
        · have hO3 := hO.trans (hO2.mono (show ∀ x, x ∈ [37, o] → x ∈ wL o from by intro x hx; simp only [List.mem_cons, List.not_mem_nil, or_false] at hx; rcases hx with rfl | rfl <;> simp [wL]))
          refine z_istore 49 rfl rfl rfl rfl ?_
          refine z_iinc 52 _ rfl rfl rfl rfl (by first | with_reducible exact zi_1 _ | rfl) ?_
          refine z_goto rfl ?_
          refine ih (i + 1) _ s2 h (by omega) (by omega) hR hO3 hw2 ((hO2.1 34 (hA.n3 34 (by decide))).1.trans h34) ((hO2.1 32 (hA.n3 32 (by decide))).1.trans h32) (fun j hj => by rw [(hO2.1 33 (hA.n3 33 (by decide))).2]; exact h33 j hj) ?_
          rw [byF_len, List.length_append, List.length_singleton]
          refine ⟨fun h9 => ?_, fun h9 => qq.2 (by omega)⟩
          have q1 := qq.1 (by omega)
          rw [show n - i = n - (i + 1) + 1 by omega, byF] at q1
          rw [List.append_assoc]
          exact q1
        · 
          refine z_istore 49 rfl rfl rfl rfl ?_
          refine z_iinc 52 _ rfl rfl rfl rfl (by first | with_reducible exact zi_1 _ | rfl) ?_
          refine z_goto rfl ?_
          refine z_iload 27 rfl rfl rfl ?_
          refine z_aload 28 rfl rfl rfl ?_
          refine y_gi 31 _ hR rfl rfl rfl rfl rfl (by repeat (first | with_reducible exact gI_eq _ _ _ | (with_reducible apply gI_ne; decide) | with_reducible apply gI_A | with_reducible apply gI_O | with_reducible exact h32 | with_reducible exact h33 i (by omega) | with_reducible rfl)) ?_
          refine z_nge 34 rfl rfl (by omega) (by omega) (fun hc31 => ?_) (fun hc31 => ?_)
          · refine z_iload 56 rfl rfl rfl ?_
            refine z_ireti rfl (Nat.le_refl _) (Nat.le_refl _) ?_
            exact qq.2 (by omega) h s1 hR hO
          · refine z_iload 35 rfl rfl rfl ?_
            refine z_jne 38 rfl rfl (fun _ => ?_) (fun h9 => absurd h9 (by decide))
            refine z_iload 56 rfl rfl rfl ?_
            refine z_ireti rfl (Nat.le_refl _) (Nat.le_refl _) ?_
            exact qq.2 (by omega) h s1 hR hO
  refine z_in [some (.ref r), some (.int (nI p)), none, none] (by rfl) rfl rfl rfl ?_
  refine z_aload 1 rfl rfl rfl ?_
  refine y_ga 4 hR rfl rfl rfl ?_
  refine z_iload 5 rfl rfl rfl ?_
  refine y_al (f := 1) 6 _ hR rfl rfl rfl rfl (by omega) (by repeat (first | with_reducible exact hk | with_reducible exact h31 | with_reducible exact gA_eq _ _ _ _ | (with_reducible apply gA_ne; decide) | with_reducible apply gA_I | with_reducible apply gA_O | (with_reducible apply gA_nj; omega) | with_reducible rfl)) ?_
  first | refine z_zne 9 rfl rfl (by omega) (fun hc6 => ?_) (fun hc6 => ?_)
  · refine z_push 23 (nI 0) rfl rfl rfl ?_
    refine z_istore 24 rfl rfl rfl rfl ?_
    refine z_push 25 (nI 0) rfl rfl rfl ?_
    refine z_istore 26 rfl rfl rfl rfl ?_
    have hps : pbW K H st ts n v = (byL n v, st) := by rw [pbW, if_neg hc6]
    rw [hps] at q
    exact loop st (n + 1) 0 _ s h (by omega) (by omega) hR On.rfl hw h34 hX.1 hX.2 ⟨q.1, q.2⟩
  · refine z_aload 10 rfl rfl rfl ?_
    refine z_iload 11 rfl rfl rfl ?_
    refine z_aload 12 rfl rfl rfl ?_
    refine y_gi 15 _ hR rfl rfl rfl rfl rfl (by repeat (first | with_reducible exact gI_eq _ _ _ | (with_reducible apply gI_ne; decide) | with_reducible apply gI_A | with_reducible apply gI_O | with_reducible exact hk | with_reducible exact h31 | with_reducible rfl)) ?_
    refine z_push 16 (nI 1) rfl rfl rfl ?_
    refine z_cv3 19 rfl rfl hR.1 rfl (Nat.le_refl _) (Nat.le_refl _) ?_
    obtain ⟨l, hl⟩ := hg hc6
    have hps : pbW K H st ts n v = (l.map (shV H) ++ byL n v, gS H l st) := by rw [pbW, if_pos hc6, hl]
    rw [hps] at q
    rw [show nI 1 = bI true from rfl]
    refine r_go hR hT hW hts hst h34 hA hw hl ⟨fun hle h s1 hR hO1 hw1 g34 => ?_, fun hlt h s1 hR hO1 => ?_⟩
    · have qq := q.cat (l1 := l0 ++ l.map (shV H)) rfl rfl
      refine z_goto rfl ?_
      refine z_istore 24 rfl rfl rfl rfl ?_
      refine z_push 25 (nI 0) rfl rfl rfl ?_
      refine z_istore 26 rfl rfl rfl rfl ?_
      exact loop (gS H l st) (n + 1) 0 _ s1 h (by omega) (by omega) hR (hO1.mono (gL_w o)) hw1 g34 ((hO1.1 32 (hA.g3 32 (by decide))).1.trans hX.1) (fun j hj => by rw [(hO1.1 33 (hA.g3 33 (by decide))).2]; exact hX.2 j hj) qq
    · have qf := q.2
      rw [List.length_append] at qf
      refine z_goto rfl ?_
      refine z_istore 24 rfl rfl rfl rfl ?_
      refine z_push 25 (nI 0) rfl rfl rfl ?_
      refine z_istore 26 rfl rfl rfl rfl ?_
      refine z_iload 27 rfl rfl rfl ?_
      refine z_aload 28 rfl rfl rfl ?_
      refine y_gi 31 _ hR rfl rfl rfl rfl rfl (by repeat (first | with_reducible exact gI_eq _ _ _ | (with_reducible apply gI_ne; decide) | with_reducible apply gI_A | with_reducible apply gI_O | with_reducible exact hk | with_reducible exact h31 | with_reducible rfl)) ?_
      first | refine z_nge 34 rfl rfl (by omega) (by omega) (fun hc31 => ?_) (fun hc31 => ?_) | refine z_kge 34 rfl rfl (by omega) (fun hc31 => ?_) (fun hc31 => ?_) | refine z_hge 34 rfl rfl (by omega) (fun hc31 => ?_) (fun hc31 => ?_) | refine z_tge 34 rfl rfl (fun hc31 => ?_) (fun hc31 => ?_)
      · refine z_iload 56 rfl rfl rfl ?_
        refine z_ireti rfl (Nat.le_refl _) (Nat.le_refl _) ?_
        exact qf (by omega) h s1 hR (hO1.mono (gL_w o))
      · refine z_iload 35 rfl rfl rfl ?_
        refine z_jne 38 rfl rfl (fun _ => ?_) (fun h9 => absurd h9 (by decide))
        refine z_iload 56 rfl rfl rfl ?_
        refine z_ireti rfl (Nat.le_refl _) (Nat.le_refl _) ?_
        exact qf (by omega) h s1 hR (hO1.mono (gL_w o))
set_option maxRecDepth 100000 in
theorem r_goHome {d r : Nat} {h h0 : mH} {s : rS} {p K st o kk nn m : Nat} {c : Bool} {l0 : List Nat} {E : List En} {H : List Sh} {Q : mP} (hR : Rf r h0 s h) (hk : s.2.2 1 p = K) (hK : K < 4) (hT : TbR s p E H) (hW : TbW E H) (hst : st < 4) (h34 : s.1 34 = st) (hA : wO o kk nn m c) (hw : WOut s o c m l0) (hg : K = 0 → ∃ l, gP H 0 false st = some l)  (q : wQ (wL o) r h0 s o c m l0 (ghW K H st).1 (ghW K H st).2 Q) : mWP (d + 11) 226 [.ref r, .int (nI p)] h Q := by
  have hp := hT.1
  refine z_in [some (.ref r), some (.int (nI p))] (by rfl) rfl rfl rfl ?_
  refine z_aload 1 rfl rfl rfl ?_
  refine y_ga 4 hR rfl rfl rfl ?_
  refine z_iload 5 rfl rfl rfl ?_
  refine y_al (f := 1) 6 _ hR rfl rfl rfl rfl (by omega) (by repeat (first | with_reducible exact hk | with_reducible exact gA_eq _ _ _ _ | (with_reducible apply gA_ne; decide) | with_reducible apply gA_I | with_reducible apply gA_O | (with_reducible apply gA_nj; omega) | with_reducible rfl)) ?_
  first | refine z_zne 9 rfl rfl (by omega) (fun hc6 => ?_) (fun hc6 => ?_)
  · refine z_push 20 (nI 0) rfl rfl rfl ?_
    refine z_ireti rfl (Nat.le_refl _) (Nat.le_refl _) ?_
    have hps : ghW K H st = ([], st) := by rw [ghW, if_neg hc6]
    rw [hps] at q
    exact q.1 hw.2.2.2.2.1 h s hR On.rfl (by rw [List.append_nil]; exact hw) h34
  · refine z_aload 10 rfl rfl rfl ?_
    refine z_iload 11 rfl rfl rfl ?_
    refine z_push 12 (nI 0) rfl rfl rfl ?_
    refine z_push 13 (nI 0) rfl rfl rfl ?_
    refine z_cv3 16 rfl rfl hR.1 rfl (Nat.le_refl _) (Nat.le_refl _) ?_
    obtain ⟨l, hl⟩ := hg hc6
    have hps : ghW K H st = (l.map (shV H), gS H l st) := by rw [ghW, if_pos hc6, hl]
    rw [hps] at q
    rw [show nI 0 = bI false from rfl]
    refine r_go (to := 0) (sg := false) hR hT hW (by decide) hst h34 hA hw hl ⟨fun hle h s1 hR hO1 hw1 g34 => ?_, fun hlt h s1 hR hO1 => ?_⟩
    · 
      refine z_goto rfl ?_
      refine z_ireti rfl (Nat.le_refl _) (Nat.le_refl _) ?_
      exact q.1 hle h s1 hR (hO1.mono (gL_w o)) hw1 g34
    · 
      refine z_goto rfl ?_
      refine z_ireti rfl (Nat.le_refl _) (Nat.le_refl _) ?_
      exact q.2 hlt h s1 hR (hO1.mono (gL_w o))
def fbQ (F : List Fb) (pt k : Nat) : Bool := decide (fbP F k = pt)
def fbI (F : List Fb) (pt : Nat) : Option Nat := ffd (fbQ F pt) F.length 0
/-- points and parts are points; one to four parts; no point twice -/
def FbW (F : List Fb) : Prop := (∀ k, k < F.length → nPt (fbP F k) = true ∧ 1 ≤ (fbL F k).length ∧ (fbL F k).length ≤ 4 ∧ ∀ x, x ∈ fbL F k → nPt x = true)
set_option maxRecDepth 10000 in
theorem r_fallbackOf {d r : Nat} {h h0 : mH} {s : rS} {pt : Nat} {F : List Fb} {Q : mP} (hR : Rf r h0 s h) (hF : RFb s F) (hW : FbW F) (hpt : pt < 2 ^ 31)  (q : Q (some (.int (oI (fbI F pt)))) h) : mWP (d + 1) 221 [.ref r, .int (nI pt)] h Q := by
  obtain ⟨hf1, hf2, hf3'⟩ := hF
  have hf3 : ∀ k, k < F.length → s.2.2 26 k = fbP F k := fun k hk => (hf3' k hk).1
  have loop : ∀ m i, F.length < i + m → i ≤ F.length → fbI F pt = ffd (fbQ F pt) (F.length - i) i → mZ d tk_221 0 0 Q 2 [some (.ref r), some (.int (nI pt)), some (.int (nI i))] [] h 0 0 := by
    intro m
    induction m with
    | zero => intro i h1 h2; omega
    | succ m ih =>
      intro i h1 h2 hI
      refine z_iload 3 rfl rfl rfl ?_
      refine z_aload 4 rfl rfl rfl ?_
      refine y_gi 7 _ hR rfl rfl rfl rfl rfl (by repeat (first | with_reducible exact gI_eq _ _ _ | (with_reducible apply gI_ne; decide) | with_reducible apply gI_A | with_reducible apply gI_O | with_reducible exact hf1 | with_reducible exact hf3 i (by omega) | with_reducible rfl)) ?_
      refine z_nge 10 rfl rfl (by omega) (by omega) (fun hc7 => ?_) (fun hc7 => ?_)
      · refine z_push 29 (-1) rfl rfl rfl ?_
        refine z_ireti rfl (Nat.le_refl _) (Nat.le_refl _) ?_
        rw [hI, show F.length - i = 0 by omega] at q
        exact q
      · have hWi := nPt_lt (hW i (by omega)).1
        refine z_aload 11 rfl rfl rfl ?_
        refine y_ga 14 hR rfl rfl rfl ?_
        refine z_iload 15 rfl rfl rfl ?_
        refine y_al (f := 26) 16 _ hR rfl rfl rfl rfl (by omega) (by repeat (first | with_reducible exact hf1 | with_reducible exact hf3 i (by omega) | with_reducible exact gA_eq _ _ _ _ | (with_reducible apply gA_ne; decide) | with_reducible apply gA_I | with_reducible apply gA_O | (with_reducible apply gA_nj; omega) | with_reducible rfl)) ?_
        refine z_iload 17 rfl rfl rfl ?_
        refine z_nne 20 rfl rfl (by omega) (by omega) (fun hc17 => ?_) (fun hc17 => ?_)
        · refine z_iinc 25 _ rfl rfl rfl rfl (by first | with_reducible exact zi_1 _ | rfl) ?_
          refine z_goto rfl ?_
          refine ih (i + 1) (by omega) (by omega) ?_
          rw [hI, ffd_no (by omega) (by simp [fbQ, hc17])]
        · refine z_iload 21 rfl rfl rfl ?_
          refine z_ireti rfl (Nat.le_refl _) (Nat.le_refl _) ?_
          rw [hI, ffd_yes (by omega) (by simp [fbQ, hc17])] at q
          exact q
  refine z_in [some (.ref r), some (.int (nI pt)), none] (by rfl) rfl rfl rfl ?_
  refine z_push 1 (nI 0) rfl rfl rfl ?_
  refine z_istore 2 rfl rfl rfl rfl ?_
  exact loop (F.length + 1) 0 (by omega) (by omega) (by rw [Nat.sub_zero]; rfl)
