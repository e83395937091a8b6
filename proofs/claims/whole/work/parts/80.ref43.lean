/-! the reference: writes -/
/-- one unit, or the end, is written: refused, how far, state, what is kept, bytes -/
def wsL (F : List Fb) (K : Nat) (E : List En) (H : List Sh) (rule sg a : Nat) (v : Option Nat) (y : List Nat × Nat) : Bool × Nat × Nat × List Nat × List Nat :=
  match v with
  | none => (false, a, (ghW K H y.2).2, [], y.1 ++ (ghW K H y.2).1)
  | some u => if 55296 ≤ u ∧ u ≤ 56319 then (false, a, y.2, [u], y.1) else
    match (if 56320 ≤ u ∧ u ≤ 57343 then wl1 K E H rule sg u y.2 else wp1 F K E H rule sg u y.2) with
    | none => (true, a, y.2, [], y.1)
    | some z => (false, a, z.2, [], y.1 ++ z.1)
def wsX (F : List Fb) (K : Nat) (E : List En) (H : List Sh) (rule sg st : Nat) (ks : List Nat) (v : Option Nat) : Bool × Nat × Nat × List Nat × List Nat :=
  match ks with
  | [] => wsL F K E H rule sg 0 v ([], st)
  | k :: _ => if v.all (fun u => decide (56320 ≤ u ∧ u ≤ 57343)) = true ∧ v ≠ none then
      (match wp1 F K E H rule sg (65536 + (k - 55296) * 2 ^ 10 + v.getD 0 - 56320) st with
      | none => (true, 0, st, [], [])
      | some y => (false, 0, y.2, [], y.1))
    else (match wl1 K E H rule sg k st with
      | none => (true, 0, st, [], [])
      | some y => wsL F K E H rule sg 1 v y)
theorem TbR.m {s s' : rS} {D p : Nat} {E : List En} {H : List Sh} (hT : TbR s p E H) (n : KpM D s s') : TbR s' p E H := by
  simp only [TbR, n.2.1 3 rfl (by decide) (by decide), n.2.1 4 rfl (by decide) (by decide), n.2.1 5 rfl (by decide) (by decide), n.2.1 6 rfl (by decide) (by decide), n.2.1 7 rfl (by decide) (by decide), n.2.1 8 rfl (by decide) (by decide), n.2.1 9 rfl (by decide) (by decide), n.2.1 10 rfl (by decide) (by decide), n.2.1 11 rfl (by decide) (by decide), n.2.1 12 rfl (by decide) (by decide), n.2.1 13 rfl (by decide) (by decide)]
  exact hT
theorem RFb.m {s s' : rS} {D : Nat} {F : List Fb} (hT : RFb s F) (n : KpM D s s') : RFb s' F := by
  simp only [RFb, n.1 25 rfl, n.2.1 26 rfl (by decide) (by decide), n.2.1 27 rfl (by decide) (by decide), n.2.1 28 rfl (by decide) (by decide)]
  exact hT
theorem Seg_1 {f : Nat → Nat} {b u : Nat} (h : f b = u) : Seg f b [u] := by
  intro j hj
  obtain rfl : j = 0 := by simp at hj; omega
  exact h
set_option maxRecDepth 100000 in
theorem r_wU0 {d r : Nat} {h h0 : mH} {s : rS} {D P rule st0 pn fed sg K w k0 u : Nat} {E : List En} {H : List Sh} {F : List Fb} {Q : mP} (hR : Rf r h0 s h) (hD : D < 4) (hP : P < 11) (h53 : s.2.2 53 D = P) (h55 : s.2.2 55 D = rule) (h56 : s.2.2 56 D = st0) (h57 : s.2.2 57 D = pn) (h58 : s.2.2 58 D = ([] : List Nat).length) (h59 : Seg (s.2.2 59) (8 * D) []) (h60 : s.2.2 60 D = fed) (h62 : s.2.2 62 D = w) (hk : s.2.2 1 P = K) (hK4 : K < 4) (hT : TbR s P E H) (hW : TbW E H) (hG : Gd K E H) (hs : SOk K H st0) (hru : rule < 5) (hsg : s.2.2 21 1 = sg) (hsgb : sg < 1114112) (hFB : RFb s F) (hFW : FbW F) (hFd : ∀ x, Fdp F 40 x) (h48 : s.1 48 = 0) (hqw : w ≤ 300) (hbp : ∀ x st y, x < 1114112 → wp1 F K E H rule sg x st = some y → y.1.length ≤ 300) (hbl : ∀ x st y, wl1 K E H rule sg x st = some y → y.1.length ≤ 300) (hbg : ∀ st, (ghW K H st).1.length ≤ 300) (hfk : 1 ≤ fed) (hu : u < 65536)  (q0 : ∀ a st ks us, wsX F K E H rule sg st0 [] (some u) = (false, a, st, ks, us) → us.length ≤ 600 → ks.length ≤ 1 → ∀ h' s2 s3, Rf r h0 (stK D st pn (w + us.length) s3) h' → KpM D s s2 → s2.1 22 = s.1 22 → s2.2.2 58 D = ks.length → Seg (s2.2.2 59) (8 * D) ks → CpF s2 s3 (1200 * D + w) us.length us → Q (some (.int (nI (w + us.length)))) h') (q1 : ∀ a st us, wsX F K E H rule sg st0 [] (some u) = (true, a, st, [], us) → us.length ≤ 600 → ∀ h' s2 s3, Rf r h0 (stR D st (w + us.length) ((fed - 1 - 0) + a) s3) h' → KpM D s s2 → CpF s2 s3 (1200 * D + w) us.length us → Q (some (.int (-10))) h') : mWP (d + 54) 241 [.ref r, .int (nI D), .int (nI u)] h Q := by
  have hwo : wO 65 45 1200 1200 false := ⟨rfl, fun _ => Nat.le_refl _, by decide, Or.inr rfl⟩
  refine z_in [some (.ref r), some (.int (nI D)), some (.int (nI u)), none, none, none, none] (by rfl) rfl rfl rfl ?_
  refine z_aload 1 rfl rfl rfl ?_
  refine z_iload 2 rfl rfl rfl ?_
  refine z_cv1 5 rfl rfl hR.1 rfl (Nat.le_refl _) (Nat.le_refl _) ?_
  refine r_load hR hD h56 h57 h58 h59 (by simp) (fun h s1 hR hK hfa ho h22 h34 h35 h37 h38 hks => ?_)
  have M1 : KpM D s s1 := KpM.of hK
  have k48 : s1.1 48 = b2 false := (M1.1 48 rfl).trans h48
  have W1 : WOut s1 65 false 1200 [] := ⟨ho, k48, h38, h37, Nat.zero_le _, fun _ j hj => absurd hj (Nat.not_lt_zero j)⟩
  have k53 : s1.2.2 53 D = P := by rw [M1.2.1 53 rfl (by decide) (by decide)]; exact h53
  have k55 : s1.2.2 55 D = rule := by rw [M1.2.1 55 rfl (by decide) (by decide)]; exact h55
  have k58 : s1.2.2 58 D = 0 := by rw [(hK 58 rfl).2]; exact h58
  have k60 : s1.2.2 60 D = fed := by rw [M1.2.1 60 rfl (by decide) (by decide)]; exact h60
  have k62 : s1.2.2 62 D = w := by rw [M1.2.1 62 rfl (by decide) (by decide)]; exact h62
  refine z_aload 6 rfl rfl rfl ?_
  refine y_ga 9 hR rfl rfl rfl ?_
  refine z_iload 10 rfl rfl rfl ?_
  refine y_al (f := 53) 11 _ hR rfl rfl rfl rfl (by omega) (by repeat (first | with_reducible exact k53 | with_reducible exact k55 | with_reducible exact k58 | with_reducible exact k60 | with_reducible exact k62 | with_reducible exact gA_eq _ _ _ _ | (with_reducible apply gA_ne; decide) | with_reducible apply gA_I | with_reducible apply gA_O | (with_reducible apply gA_nj; omega) | with_reducible rfl)) ?_
  refine z_istore 12 rfl rfl rfl rfl ?_
  refine z_push 13 (nI 0) rfl rfl rfl ?_
  refine z_istore 15 rfl rfl rfl rfl ?_
  refine z_aload 16 rfl rfl rfl ?_
  refine y_ga 19 hR rfl rfl rfl ?_
  refine z_iload 20 rfl rfl rfl ?_
  refine y_al (f := 60) 21 _ hR rfl rfl rfl rfl (by omega) (by repeat (first | with_reducible exact k53 | with_reducible exact k55 | with_reducible exact k58 | with_reducible exact k60 | with_reducible exact k62 | with_reducible exact gA_eq _ _ _ _ | (with_reducible apply gA_ne; decide) | with_reducible apply gA_I | with_reducible apply gA_O | (with_reducible apply gA_nj; omega) | with_reducible rfl)) ?_
  refine z_iload 22 rfl rfl rfl ?_
  refine z_zge 25 rfl rfl (by omega) (fun _ => ?_) (fun h9 => absurd h9 (by omega))
  refine z_push 30 (nI 1) rfl rfl rfl ?_
  refine z_bop 31 _ rfl rfl (by first | with_reducible exact zb_1 (by omega) | exact zd_1 _ _) ?_
  refine z_aload 32 rfl rfl rfl ?_
  refine y_ga 35 hR rfl rfl rfl ?_
  refine z_iload 36 rfl rfl rfl ?_
  refine y_al (f := 58) 37 _ hR rfl rfl rfl rfl (by omega) (by repeat (first | with_reducible exact k53 | with_reducible exact k55 | with_reducible exact k58 | with_reducible exact k60 | with_reducible exact k62 | with_reducible exact gA_eq _ _ _ _ | (with_reducible apply gA_ne; decide) | with_reducible apply gA_I | with_reducible apply gA_O | (with_reducible apply gA_nj; omega) | with_reducible rfl)) ?_
  refine z_bop 38 _ rfl rfl (by first | with_reducible exact zb_1 (by omega) | exact zd_1 _ _) ?_
  refine z_istore 40 rfl rfl rfl rfl ?_
  refine z_aload 41 rfl rfl rfl ?_
  refine y_ga 44 hR rfl rfl rfl ?_
  refine z_iload 45 rfl rfl rfl ?_
  refine y_al (f := 58) 46 _ hR rfl rfl rfl rfl (by omega) (by repeat (first | with_reducible exact k53 | with_reducible exact k55 | with_reducible exact k58 | with_reducible exact k60 | with_reducible exact k62 | with_reducible exact gA_eq _ _ _ _ | (with_reducible apply gA_ne; decide) | with_reducible apply gA_I | with_reducible apply gA_O | (with_reducible apply gA_nj; omega) | with_reducible rfl)) ?_
  refine z_push 47 (nI 1) rfl rfl rfl ?_
  refine z_nne 50 rfl rfl (by omega) (by omega) (fun _ => ?_) (fun h9 => absurd h9 (by omega))
  refine z_push 66 (nI 0) rfl rfl rfl ?_
  refine z_istore 68 rfl rfl rfl rfl ?_
  refine z_iload 70 rfl rfl rfl ?_
  refine z_zeq 73 rfl rfl (by omega) (fun _ => ?_) (fun h9 => absurd h9 (by omega))
  refine z_aload 124 rfl rfl rfl ?_
  refine y_ga 127 hR rfl rfl rfl ?_
  refine z_iload 128 rfl rfl rfl ?_
  refine y_al (f := 58) 129 _ hR rfl rfl rfl rfl (by omega) (by repeat (first | with_reducible exact k53 | with_reducible exact k55 | with_reducible exact k58 | with_reducible exact k60 | with_reducible exact k62 | with_reducible exact gA_eq _ _ _ _ | (with_reducible apply gA_ne; decide) | with_reducible apply gA_I | with_reducible apply gA_O | (with_reducible apply gA_nj; omega) | with_reducible rfl)) ?_
  refine z_push 130 (nI 1) rfl rfl rfl ?_
  refine z_nne 133 rfl rfl (by omega) (by omega) (fun _ => ?_) (fun h9 => absurd h9 (by omega))
  refine z_iload 169 rfl rfl rfl ?_
  refine z_zne 172 rfl rfl (by omega) (fun h9 => absurd h9 (by omega)) (fun _ => ?_)
  refine z_iload 173 rfl rfl rfl ?_
  refine z_zlt 176 rfl rfl (by omega) (fun h9 => absurd h9 (by omega)) (fun _ => ?_)
  refine z_iload 177 rfl rfl rfl ?_
  refine z_cs1 180 rfl rfl rfl (Nat.le_refl _) (Nat.le_refl _) ?_
  refine r_isHigh ?_
  rw [jHigh_n (by omega)]
  first | refine z_deq 183 rfl rfl (fun hc180 => ?_) (fun hc180 => ?_)
  · refine z_iload 204 rfl rfl rfl ?_
    refine z_cs1 207 rfl rfl rfl (Nat.le_refl _) (Nat.le_refl _) ?_
    refine r_isLow ?_
    rw [jLow_n (by omega)]
    first | refine z_deq 210 rfl rfl (fun hc207 => ?_) (fun hc207 => ?_)
    · refine z_aload 226 rfl rfl rfl ?_
      refine z_iload 227 rfl rfl rfl ?_
      refine z_aload 228 rfl rfl rfl ?_
      refine y_ga 231 hR rfl rfl rfl ?_
      refine z_iload 232 rfl rfl rfl ?_
      refine y_al (f := 55) 233 _ hR rfl rfl rfl rfl (by omega) (by repeat (first | with_reducible exact k53 | with_reducible exact k55 | with_reducible exact k58 | with_reducible exact k60 | with_reducible exact k62 | with_reducible exact gA_eq _ _ _ _ | (with_reducible apply gA_ne; decide) | with_reducible apply gA_I | with_reducible apply gA_O | (with_reducible apply gA_nj; omega) | with_reducible rfl)) ?_
      refine z_iload 234 rfl rfl rfl ?_
      refine z_cv3 237 rfl rfl hR.1 rfl (Nat.le_refl _) (Nat.le_refl _) ?_
      have hFB1 := hFB.m (M1)
      refine r_writePoint hR hP (by rw [(M1).2.1 1 rfl (by decide) (by decide)]; exact hk) hK4 (hT.m (M1)) hW hG hs h34 hwo W1 hru (by rw [(M1).2.1 21 rfl (by decide) (by decide)]; exact hsg) hsgb hFB1 hFW hFd (by omega) ⟨fun z e7 => ⟨fun hle h s3 hR hOs3 hws3 gs3 => ?_, fun hlt => absurd hlt (by have := hbp _ _ _ (by omega) e7; simp only [List.length_nil] at hlt; omega)⟩, fun e7 h s3 hR hOs3 hws3 gs3 => ?_⟩
      · have M3 : KpM D s s3 := (M1).k (hOs3.keep (by decide))
        have f22 : s3.1 22 = s.1 22 := (hOs3.1 22 (by decide)).1.trans h22
        have f35 : s3.1 35 = pn := (hOs3.1 35 (by decide)).1.trans h35
        have f62 : s3.2.2 62 D = w := by rw [M3.2.1 62 rfl (by decide) (by decide)]; exact h62
        have f58 : s3.2.2 58 D = 0 := by rw [(hOs3.1 58 (by decide)).2]; exact k58
        have hz := hbp _ _ _ (by omega) e7
        refine z_istore 239 rfl rfl rfl rfl ?_
        refine z_iload 241 rfl rfl rfl ?_
        refine z_zne 244 rfl rfl (by omega) (fun h9 => absurd h9 (by omega)) (fun _ => ?_)
        refine z_iload 245 rfl rfl rfl ?_
        refine z_zge 248 rfl rfl (by omega) (fun _ => ?_) (fun h9 => absurd h9 (by omega))
        refine z_aload 256 rfl rfl rfl ?_
        refine z_iload 257 rfl rfl rfl ?_
        refine z_iload 259 rfl rfl rfl ?_
        refine z_iload 261 rfl rfl rfl ?_
        refine z_cv3 264 rfl rfl hR.1 rfl (Nat.le_refl _) (Nat.le_refl _) ?_
        have hul : (([] : List Nat) ++ z.1).length ≤ 600 := by rw [List.length_append]; have := hz; simp only [List.length_nil]; omega
        refine r_store (s := s3) hR hD (us := (([] : List Nat) ++ z.1)) (w := w) (st := z.2) (pn := pn) ⟨hws3.1, hws3.2.2.2.1, by exact hws3.2.2.2.2.2 rfl⟩ f62 gs3 f35 (by omega) (Or.inl rfl) (fun _ h s4 hR hF => ?_) (fun h9 => absurd h9 (by decide))
        refine z_ireti rfl (Nat.le_refl _) (Nat.le_refl _) ?_
        have e9 : wsX F K E H rule sg st0 [] (some u) = (false, 0, z.2, [], (([] : List Nat) ++ z.1)) := by simp only [wsX]; simp only [wsL]; rw [if_neg (by omega)]; rw [if_neg (by omega)]; simp only [e7]
        exact q0 0 _ _ _ e9 hul (by simp) h s3 s4 hR M3 f22 (f58) (fun j hj => absurd hj (Nat.not_lt_zero j)) hF
      · have M3 : KpM D s s3 := (M1).k (hOs3.keep (by decide))
        have f22 : s3.1 22 = s.1 22 := (hOs3.1 22 (by decide)).1.trans h22
        have f35 : s3.1 35 = pn := (hOs3.1 35 (by decide)).1.trans h35
        have f62 : s3.2.2 62 D = w := by rw [M3.2.1 62 rfl (by decide) (by decide)]; exact h62
        have f58 : s3.2.2 58 D = 0 := by rw [(hOs3.1 58 (by decide)).2]; exact k58
        refine z_istore 239 rfl rfl rfl rfl ?_
        refine z_iload 241 rfl rfl rfl ?_
        refine z_jne 244 rfl rfl (fun _ => ?_) (fun h9 => absurd h9 (by decide))
        refine z_aload 256 rfl rfl rfl ?_
        refine z_iload 257 rfl rfl rfl ?_
        refine z_iload 259 rfl rfl rfl ?_
        refine z_iload 261 rfl rfl rfl ?_
        refine z_cv3 264 rfl rfl hR.1 rfl (Nat.le_refl _) (Nat.le_refl _) ?_
        have hul : ([] : List Nat).length ≤ 600 := by simp
        refine r_store (s := s3) hR hD (us := ([] : List Nat)) (w := w) (st := st0) (pn := pn) ⟨hws3.1, hws3.2.2.2.1, by exact hws3.2.2.2.2.2 rfl⟩ f62 (gs3.trans h34) f35 (by omega) (Or.inr (by decide)) (fun h9 => absurd h9 (by decide)) (fun _ h s4 hR hF => ?_)
        refine z_ireti rfl (Nat.le_refl _) (Nat.le_refl _) ?_
        have e9 : wsX F K E H rule sg st0 [] (some u) = (true, 0, st0, [], ([] : List Nat)) := by simp only [wsX]; simp only [wsL]; rw [if_neg (by omega)]; rw [if_neg (by omega)]; simp only [e7]
        exact q1 0 _ _ e9 hul h s3 s4 hR M3 hF
    · refine z_aload 211 rfl rfl rfl ?_
      refine z_iload 212 rfl rfl rfl ?_
      refine z_aload 213 rfl rfl rfl ?_
      refine y_ga 216 hR rfl rfl rfl ?_
      refine z_iload 217 rfl rfl rfl ?_
      refine y_al (f := 55) 218 _ hR rfl rfl rfl rfl (by omega) (by repeat (first | with_reducible exact k53 | with_reducible exact k55 | with_reducible exact k58 | with_reducible exact k60 | with_reducible exact k62 | with_reducible exact gA_eq _ _ _ _ | (with_reducible apply gA_ne; decide) | with_reducible apply gA_I | with_reducible apply gA_O | (with_reducible apply gA_nj; omega) | with_reducible rfl)) ?_
      refine z_iload 219 rfl rfl rfl ?_
      refine z_cv3 222 rfl rfl hR.1 rfl (Nat.le_refl _) (Nat.le_refl _) ?_
      refine r_writeLone hR hP (by rw [(M1).2.1 1 rfl (by decide) (by decide)]; exact hk) hK4 (hT.m (M1)) hW hG hs h34 hwo W1 hru (by rw [(M1).2.1 21 rfl (by decide) (by decide)]; exact hsg) hsgb (by omega) ⟨fun z e7 => ⟨fun hle h s3 hR hOs3 hws3 gs3 => ?_, fun hlt => absurd hlt (by have := hbl _ _ _ e7; simp only [List.length_nil] at hlt; omega)⟩, fun e7 h s3 hR hOs3 hws3 gs3 => ?_⟩
      · have M3 : KpM D s s3 := (M1).k (hOs3.keep (by decide))
        have f22 : s3.1 22 = s.1 22 := (hOs3.1 22 (by decide)).1.trans h22
        have f35 : s3.1 35 = pn := (hOs3.1 35 (by decide)).1.trans h35
        have f62 : s3.2.2 62 D = w := by rw [M3.2.1 62 rfl (by decide) (by decide)]; exact h62
        have f58 : s3.2.2 58 D = 0 := by rw [(hOs3.1 58 (by decide)).2]; exact k58
        have hz := hbl _ _ _ e7
        refine z_goto rfl ?_
        refine z_istore 239 rfl rfl rfl rfl ?_
        refine z_iload 241 rfl rfl rfl ?_
        refine z_zne 244 rfl rfl (by omega) (fun h9 => absurd h9 (by omega)) (fun _ => ?_)
        refine z_iload 245 rfl rfl rfl ?_
        refine z_zge 248 rfl rfl (by omega) (fun _ => ?_) (fun h9 => absurd h9 (by omega))
        refine z_aload 256 rfl rfl rfl ?_
        refine z_iload 257 rfl rfl rfl ?_
        refine z_iload 259 rfl rfl rfl ?_
        refine z_iload 261 rfl rfl rfl ?_
        refine z_cv3 264 rfl rfl hR.1 rfl (Nat.le_refl _) (Nat.le_refl _) ?_
        have hul : (([] : List Nat) ++ z.1).length ≤ 600 := by rw [List.length_append]; have := hz; simp only [List.length_nil]; omega
        refine r_store (s := s3) hR hD (us := (([] : List Nat) ++ z.1)) (w := w) (st := z.2) (pn := pn) ⟨hws3.1, hws3.2.2.2.1, by exact hws3.2.2.2.2.2 rfl⟩ f62 gs3 f35 (by omega) (Or.inl rfl) (fun _ h s4 hR hF => ?_) (fun h9 => absurd h9 (by decide))
        refine z_ireti rfl (Nat.le_refl _) (Nat.le_refl _) ?_
        have e9 : wsX F K E H rule sg st0 [] (some u) = (false, 0, z.2, [], (([] : List Nat) ++ z.1)) := by simp only [wsX]; simp only [wsL]; rw [if_neg (by omega)]; rw [if_pos (by omega)]; simp only [e7]
        exact q0 0 _ _ _ e9 hul (by simp) h s3 s4 hR M3 f22 (f58) (fun j hj => absurd hj (Nat.not_lt_zero j)) hF
      · have M3 : KpM D s s3 := (M1).k (hOs3.keep (by decide))
        have f22 : s3.1 22 = s.1 22 := (hOs3.1 22 (by decide)).1.trans h22
        have f35 : s3.1 35 = pn := (hOs3.1 35 (by decide)).1.trans h35
        have f62 : s3.2.2 62 D = w := by rw [M3.2.1 62 rfl (by decide) (by decide)]; exact h62
        have f58 : s3.2.2 58 D = 0 := by rw [(hOs3.1 58 (by decide)).2]; exact k58
        refine z_goto rfl ?_
        refine z_istore 239 rfl rfl rfl rfl ?_
        refine z_iload 241 rfl rfl rfl ?_
        refine z_jne 244 rfl rfl (fun _ => ?_) (fun h9 => absurd h9 (by decide))
        refine z_aload 256 rfl rfl rfl ?_
        refine z_iload 257 rfl rfl rfl ?_
        refine z_iload 259 rfl rfl rfl ?_
        refine z_iload 261 rfl rfl rfl ?_
        refine z_cv3 264 rfl rfl hR.1 rfl (Nat.le_refl _) (Nat.le_refl _) ?_
        have hul : ([] : List Nat).length ≤ 600 := by simp
        refine r_store (s := s3) hR hD (us := ([] : List Nat)) (w := w) (st := st0) (pn := pn) ⟨hws3.1, hws3.2.2.2.1, by exact hws3.2.2.2.2.2 rfl⟩ f62 (gs3.trans h34) f35 (by omega) (Or.inr (by decide)) (fun h9 => absurd h9 (by decide)) (fun _ h s4 hR hF => ?_)
        refine z_ireti rfl (Nat.le_refl _) (Nat.le_refl _) ?_
        have e9 : wsX F K E H rule sg st0 [] (some u) = (true, 0, st0, [], ([] : List Nat)) := by simp only [wsX]; simp only [wsL]; rw [if_neg (by omega)]; rw [if_pos (by omega)]; simp only [e7]
        exact q1 0 _ _ e9 hul h s3 s4 hR M3 hF
  · refine z_aload 184 rfl rfl rfl ?_
    refine y_ga 187 hR rfl rfl rfl ?_
    refine z_push 189 (nI 8) rfl rfl rfl ?_
    refine z_iload 190 rfl rfl rfl ?_
    refine z_bop 191 _ rfl rfl (by first | with_reducible exact zb_2 _ _ | exact zd_2 _ _) ?_
    refine z_iload 192 rfl rfl rfl ?_
    refine y_as (f := 59) 193 hR rfl rfl rfl rfl (by omega) ?_
    intro h hR
    refine z_aload 194 rfl rfl rfl ?_
    refine y_ga 197 hR rfl rfl rfl ?_
    refine z_iload 198 rfl rfl rfl ?_
    refine z_push 199 (nI 1) rfl rfl rfl ?_
    refine y_as (f := 58) 200 hR rfl rfl rfl rfl (by omega) ?_
    intro h hR
    refine z_goto rfl ?_
    refine z_iload 241 rfl rfl rfl ?_
    refine z_zne 244 rfl rfl (by omega) (fun h9 => absurd h9 (by omega)) (fun _ => ?_)
    refine z_iload 245 rfl rfl rfl ?_
    refine z_zge 248 rfl rfl (by omega) (fun _ => ?_) (fun h9 => absurd h9 (by omega))
    refine z_aload 256 rfl rfl rfl ?_
    refine z_iload 257 rfl rfl rfl ?_
    refine z_iload 259 rfl rfl rfl ?_
    refine z_iload 261 rfl rfl rfl ?_
    refine z_cv3 264 rfl rfl hR.1 rfl (Nat.le_refl _) (Nat.le_refl _) ?_
    have hul : ([] : List Nat).length ≤ 600 := by simp
    refine r_store (s := (stA 58 D 1 (stA 59 (8 * D) u s1))) hR hD (us := ([] : List Nat)) (w := w) (st := st0) (pn := pn) ⟨W1.1, W1.2.2.2.1, by show Seg (((stA 58 D 1 (stA 59 (8 * D) u s1))).2.2 65) 0 _; rw [gAf (by decide), gAf (by decide)]; exact W1.2.2.2.2.2 rfl⟩ (by rw [gAf (by decide), gAf (by decide)]; exact k62) h34 h35 (by omega) (Or.inl rfl) (fun _ h s4 hR hF => ?_) (fun h9 => absurd h9 (by decide))
    refine z_ireti rfl (Nat.le_refl _) (Nat.le_refl _) ?_
    have e9 : wsX F K E H rule sg st0 [] (some u) = (false, 0, st0, [u], ([] : List Nat)) := by simp only [wsX]; simp only [wsL]; rw [if_pos (by omega)]
    exact q0 0 _ _ _ e9 hul (by simp) h (stA 58 D 1 (stA 59 (8 * D) u s1)) s4 hR (KpM.s58 (KpM.s59 M1)) h22 (gA_eq _ _ _ _) (Seg_1 (by rw [gAf (by decide)]; exact gA_eq _ _ _ _)) hF
set_option maxRecDepth 100000 in
theorem r_wU1 {d r : Nat} {h h0 : mH} {s : rS} {D P rule st0 pn fed sg K w k0 u : Nat} {E : List En} {H : List Sh} {F : List Fb} {Q : mP} (hR : Rf r h0 s h) (hD : D < 4) (hP : P < 11) (h53 : s.2.2 53 D = P) (h55 : s.2.2 55 D = rule) (h56 : s.2.2 56 D = st0) (h57 : s.2.2 57 D = pn) (h58 : s.2.2 58 D = ([k0] : List Nat).length) (h59 : Seg (s.2.2 59) (8 * D) [k0]) (h60 : s.2.2 60 D = fed) (h62 : s.2.2 62 D = w) (hk : s.2.2 1 P = K) (hK4 : K < 4) (hT : TbR s P E H) (hW : TbW E H) (hG : Gd K E H) (hs : SOk K H st0) (hru : rule < 5) (hsg : s.2.2 21 1 = sg) (hsgb : sg < 1114112) (hFB : RFb s F) (hFW : FbW F) (hFd : ∀ x, Fdp F 40 x) (h48 : s.1 48 = 0) (hqw : w ≤ 300) (hbp : ∀ x st y, x < 1114112 → wp1 F K E H rule sg x st = some y → y.1.length ≤ 300) (hbl : ∀ x st y, wl1 K E H rule sg x st = some y → y.1.length ≤ 300) (hbg : ∀ st, (ghW K H st).1.length ≤ 300) (hfk : 2 ≤ fed) (hu : u < 65536) (hk0 : 55296 ≤ k0 ∧ k0 ≤ 56319)  (q0 : ∀ a st ks us, wsX F K E H rule sg st0 [k0] (some u) = (false, a, st, ks, us) → us.length ≤ 600 → ks.length ≤ 1 → ∀ h' s2 s3, Rf r h0 (stK D st pn (w + us.length) s3) h' → KpM D s s2 → s2.1 22 = s.1 22 → s2.2.2 58 D = ks.length → Seg (s2.2.2 59) (8 * D) ks → CpF s2 s3 (1200 * D + w) us.length us → Q (some (.int (nI (w + us.length)))) h') (q1 : ∀ a st us, wsX F K E H rule sg st0 [k0] (some u) = (true, a, st, [], us) → us.length ≤ 600 → ∀ h' s2 s3, Rf r h0 (stR D st (w + us.length) ((fed - 1 - 1) + a) s3) h' → KpM D s s2 → CpF s2 s3 (1200 * D + w) us.length us → Q (some (.int (-10))) h') : mWP (d + 54) 241 [.ref r, .int (nI D), .int (nI u)] h Q := by
  have hwo : wO 65 45 1200 1200 false := ⟨rfl, fun _ => Nat.le_refl _, by decide, Or.inr rfl⟩
  refine z_in [some (.ref r), some (.int (nI D)), some (.int (nI u)), none, none, none, none] (by rfl) rfl rfl rfl ?_
  refine z_aload 1 rfl rfl rfl ?_
  refine z_iload 2 rfl rfl rfl ?_
  refine z_cv1 5 rfl rfl hR.1 rfl (Nat.le_refl _) (Nat.le_refl _) ?_
  refine r_load hR hD h56 h57 h58 h59 (by simp) (fun h s1 hR hK hfa ho h22 h34 h35 h37 h38 hks => ?_)
  have M1 : KpM D s s1 := KpM.of hK
  have k48 : s1.1 48 = b2 false := (M1.1 48 rfl).trans h48
  have W1 : WOut s1 65 false 1200 [] := ⟨ho, k48, h38, h37, Nat.zero_le _, fun _ j hj => absurd hj (Nat.not_lt_zero j)⟩
  have k53 : s1.2.2 53 D = P := by rw [M1.2.1 53 rfl (by decide) (by decide)]; exact h53
  have k55 : s1.2.2 55 D = rule := by rw [M1.2.1 55 rfl (by decide) (by decide)]; exact h55
  have k58 : s1.2.2 58 D = 1 := by rw [(hK 58 rfl).2]; exact h58
  have k60 : s1.2.2 60 D = fed := by rw [M1.2.1 60 rfl (by decide) (by decide)]; exact h60
  have k62 : s1.2.2 62 D = w := by rw [M1.2.1 62 rfl (by decide) (by decide)]; exact h62
  have k64 : s1.2.2 64 0 = k0 := hks 0 (by simp)
  refine z_aload 6 rfl rfl rfl ?_
  refine y_ga 9 hR rfl rfl rfl ?_
  refine z_iload 10 rfl rfl rfl ?_
  refine y_al (f := 53) 11 _ hR rfl rfl rfl rfl (by omega) (by repeat (first | with_reducible exact k53 | with_reducible exact k55 | with_reducible exact k58 | with_reducible exact k60 | with_reducible exact k62 | with_reducible exact k64 | with_reducible exact j53 | with_reducible exact j55 | with_reducible exact gA_eq _ _ _ _ | (with_reducible apply gA_ne; decide) | with_reducible apply gA_I | with_reducible apply gA_O | (with_reducible apply gA_nj; omega) | with_reducible rfl)) ?_
  refine z_istore 12 rfl rfl rfl rfl ?_
  refine z_push 13 (nI 0) rfl rfl rfl ?_
  refine z_istore 15 rfl rfl rfl rfl ?_
  refine z_aload 16 rfl rfl rfl ?_
  refine y_ga 19 hR rfl rfl rfl ?_
  refine z_iload 20 rfl rfl rfl ?_
  refine y_al (f := 60) 21 _ hR rfl rfl rfl rfl (by omega) (by repeat (first | with_reducible exact k53 | with_reducible exact k55 | with_reducible exact k58 | with_reducible exact k60 | with_reducible exact k62 | with_reducible exact k64 | with_reducible exact j53 | with_reducible exact j55 | with_reducible exact gA_eq _ _ _ _ | (with_reducible apply gA_ne; decide) | with_reducible apply gA_I | with_reducible apply gA_O | (with_reducible apply gA_nj; omega) | with_reducible rfl)) ?_
  refine z_iload 22 rfl rfl rfl ?_
  refine z_zge 25 rfl rfl (by omega) (fun _ => ?_) (fun h9 => absurd h9 (by omega))
  refine z_push 30 (nI 1) rfl rfl rfl ?_
  refine z_bop 31 _ rfl rfl (by first | with_reducible exact zb_1 (by omega) | exact zd_1 _ _) ?_
  refine z_aload 32 rfl rfl rfl ?_
  refine y_ga 35 hR rfl rfl rfl ?_
  refine z_iload 36 rfl rfl rfl ?_
  refine y_al (f := 58) 37 _ hR rfl rfl rfl rfl (by omega) (by repeat (first | with_reducible exact k53 | with_reducible exact k55 | with_reducible exact k58 | with_reducible exact k60 | with_reducible exact k62 | with_reducible exact k64 | with_reducible exact j53 | with_reducible exact j55 | with_reducible exact gA_eq _ _ _ _ | (with_reducible apply gA_ne; decide) | with_reducible apply gA_I | with_reducible apply gA_O | (with_reducible apply gA_nj; omega) | with_reducible rfl)) ?_
  refine z_bop 38 _ rfl rfl (by first | with_reducible exact zb_1 (by omega) | exact zd_1 _ _) ?_
  refine z_istore 40 rfl rfl rfl rfl ?_
  refine z_aload 41 rfl rfl rfl ?_
  refine y_ga 44 hR rfl rfl rfl ?_
  refine z_iload 45 rfl rfl rfl ?_
  refine y_al (f := 58) 46 _ hR rfl rfl rfl rfl (by omega) (by repeat (first | with_reducible exact k53 | with_reducible exact k55 | with_reducible exact k58 | with_reducible exact k60 | with_reducible exact k62 | with_reducible exact k64 | with_reducible exact j53 | with_reducible exact j55 | with_reducible exact gA_eq _ _ _ _ | (with_reducible apply gA_ne; decide) | with_reducible apply gA_I | with_reducible apply gA_O | (with_reducible apply gA_nj; omega) | with_reducible rfl)) ?_
  refine z_push 47 (nI 1) rfl rfl rfl ?_
  refine z_nne 50 rfl rfl (by omega) (by omega) (fun h9 => absurd h9 (by omega)) (fun _ => ?_)
  refine z_iload 51 rfl rfl rfl ?_
  refine z_zlt 54 rfl rfl (by omega) (fun h9 => absurd h9 (by omega)) (fun _ => ?_)
  refine z_iload 55 rfl rfl rfl ?_
  refine z_cs1 58 rfl rfl rfl (Nat.le_refl _) (Nat.le_refl _) ?_
  refine r_isLow ?_
  rw [jLow_n (by omega)]
  first | refine z_deq 61 rfl rfl (fun hc58 => ?_) (fun hc58 => ?_)
  · refine z_push 66 (nI 0) rfl rfl rfl ?_
    refine z_istore 68 rfl rfl rfl rfl ?_
    refine z_iload 70 rfl rfl rfl ?_
    refine z_zeq 73 rfl rfl (by omega) (fun _ => ?_) (fun h9 => absurd h9 (by omega))
    refine z_aload 124 rfl rfl rfl ?_
    refine y_ga 127 hR rfl rfl rfl ?_
    refine z_iload 128 rfl rfl rfl ?_
    refine y_al (f := 58) 129 _ hR rfl rfl rfl rfl (by omega) (by repeat (first | with_reducible exact k53 | with_reducible exact k55 | with_reducible exact k58 | with_reducible exact k60 | with_reducible exact k62 | with_reducible exact k64 | with_reducible exact j53 | with_reducible exact j55 | with_reducible exact gA_eq _ _ _ _ | (with_reducible apply gA_ne; decide) | with_reducible apply gA_I | with_reducible apply gA_O | (with_reducible apply gA_nj; omega) | with_reducible rfl)) ?_
    refine z_push 130 (nI 1) rfl rfl rfl ?_
    refine z_nne 133 rfl rfl (by omega) (by omega) (fun h9 => absurd h9 (by omega)) (fun _ => ?_)
    refine z_aload 134 rfl rfl rfl ?_
    refine z_iload 135 rfl rfl rfl ?_
    refine z_aload 136 rfl rfl rfl ?_
    refine y_ga 139 hR rfl rfl rfl ?_
    refine z_iload 140 rfl rfl rfl ?_
    refine y_al (f := 55) 141 _ hR rfl rfl rfl rfl (by omega) (by repeat (first | with_reducible exact k53 | with_reducible exact k55 | with_reducible exact k58 | with_reducible exact k60 | with_reducible exact k62 | with_reducible exact k64 | with_reducible exact j53 | with_reducible exact j55 | with_reducible exact gA_eq _ _ _ _ | (with_reducible apply gA_ne; decide) | with_reducible apply gA_I | with_reducible apply gA_O | (with_reducible apply gA_nj; omega) | with_reducible rfl)) ?_
    refine z_aload 142 rfl rfl rfl ?_
    refine y_ga 145 hR rfl rfl rfl ?_
    refine z_push 146 (nI 0) rfl rfl rfl ?_
    refine y_al (f := 64) 147 _ hR rfl rfl rfl rfl (by omega) (by repeat (first | with_reducible exact k53 | with_reducible exact k55 | with_reducible exact k58 | with_reducible exact k60 | with_reducible exact k62 | with_reducible exact k64 | with_reducible exact j53 | with_reducible exact j55 | with_reducible exact gA_eq _ _ _ _ | (with_reducible apply gA_ne; decide) | with_reducible apply gA_I | with_reducible apply gA_O | (with_reducible apply gA_nj; omega) | with_reducible rfl)) ?_
    refine z_cv3 150 rfl rfl hR.1 rfl (Nat.le_refl _) (Nat.le_refl _) ?_
    refine r_writeLone hR hP (by rw [(M1).2.1 1 rfl (by decide) (by decide)]; exact hk) hK4 (hT.m (M1)) hW hG hs h34 hwo W1 hru (by rw [(M1).2.1 21 rfl (by decide) (by decide)]; exact hsg) hsgb (by omega) ⟨fun y e8 => ⟨fun hle h s2 hR hOs2 hws2 gs2 => ?_, fun hlt => absurd hlt (by have := hbl _ _ _ e8; simp only [List.length_nil] at hlt; omega)⟩, fun e8 h s2 hR hOs2 hws2 gs2 => ?_⟩
    · have M2 : KpM D s s2 := M1.k (hOs2.keep (by decide))
      have g22 : s2.1 22 = s.1 22 := (hOs2.1 22 (by decide)).1.trans h22
      have g35 : s2.1 35 = pn := (hOs2.1 35 (by decide)).1.trans h35
      have j53 : s2.2.2 53 D = P := by rw [(M2).2.1 53 rfl (by decide) (by decide)]; exact h53
      have j55 : s2.2.2 55 D = rule := by rw [(M2).2.1 55 rfl (by decide) (by decide)]; exact h55
      have j62 : s2.2.2 62 D = w := by rw [(M2).2.1 62 rfl (by decide) (by decide)]; exact h62
      have hy := hbl _ _ _ e8
      refine z_istore 152 rfl rfl rfl rfl ?_
      refine z_aload 153 rfl rfl rfl ?_
      refine y_ga 156 hR rfl rfl rfl ?_
      refine z_iload 157 rfl rfl rfl ?_
      refine z_push 158 (nI 0) rfl rfl rfl ?_
      refine y_as (f := 58) 159 hR rfl rfl rfl rfl (by omega) ?_
      intro h hR
      refine z_iload 161 rfl rfl rfl ?_
      refine z_zne 164 rfl rfl (by omega) (fun h9 => absurd h9 (by omega)) (fun _ => ?_)
      refine z_iinc 167 _ rfl rfl rfl rfl (by first | with_reducible exact zi_1 _ | rfl) ?_
      refine z_iload 169 rfl rfl rfl ?_
      refine z_zne 172 rfl rfl (by omega) (fun h9 => absurd h9 (by omega)) (fun _ => ?_)
      refine z_iload 173 rfl rfl rfl ?_
      refine z_zlt 176 rfl rfl (by omega) (fun h9 => absurd h9 (by omega)) (fun _ => ?_)
      refine z_iload 177 rfl rfl rfl ?_
      refine z_cs1 180 rfl rfl rfl (Nat.le_refl _) (Nat.le_refl _) ?_
      refine r_isHigh ?_
      rw [jHigh_n (by omega)]
      first | refine z_deq 183 rfl rfl (fun hc180 => ?_) (fun hc180 => ?_)
      · refine z_iload 204 rfl rfl rfl ?_
        refine z_cs1 207 rfl rfl rfl (Nat.le_refl _) (Nat.le_refl _) ?_
        refine r_isLow ?_
        rw [jLow_n (by omega)]
        first | refine z_deq 210 rfl rfl (fun hc207 => ?_) (fun hc207 => ?_)
        · refine z_aload 226 rfl rfl rfl ?_
          refine z_iload 227 rfl rfl rfl ?_
          refine z_aload 228 rfl rfl rfl ?_
          refine y_ga 231 hR rfl rfl rfl ?_
          refine z_iload 232 rfl rfl rfl ?_
          refine y_al (f := 55) 233 _ hR rfl rfl rfl rfl (by omega) (by repeat (first | with_reducible exact k53 | with_reducible exact k55 | with_reducible exact k58 | with_reducible exact k60 | with_reducible exact k62 | with_reducible exact k64 | with_reducible exact j53 | with_reducible exact j55 | with_reducible exact gA_eq _ _ _ _ | (with_reducible apply gA_ne; decide) | with_reducible apply gA_I | with_reducible apply gA_O | (with_reducible apply gA_nj; omega) | with_reducible rfl)) ?_
          refine z_iload 234 rfl rfl rfl ?_
          refine z_cv3 237 rfl rfl hR.1 rfl (Nat.le_refl _) (Nat.le_refl _) ?_
          have hFB1 := hFB.m (KpM.s58 (x := 0) M2)
          refine r_writePoint hR hP (by rw [(KpM.s58 (x := 0) M2).2.1 1 rfl (by decide) (by decide)]; exact hk) hK4 (hT.m (KpM.s58 (x := 0) M2)) hW hG (wl1_ok hG hs y e8) gs2 hwo (show WOut (stA 58 D 0 s2) 65 false 1200 y.1 from ⟨hws2.1, hws2.2.1, hws2.2.2.1, hws2.2.2.2.1, hws2.2.2.2.2.1, fun h9 => by show Seg ((stA 58 D 0 s2).2.2 65) 0 _; rw [gAf (by decide)]; exact hws2.2.2.2.2.2 h9⟩) hru (by rw [(KpM.s58 (x := 0) M2).2.1 21 rfl (by decide) (by decide)]; exact hsg) hsgb hFB1 hFW hFd (by omega) ⟨fun z e7 => ⟨fun hle h s3 hR hOs3 hws3 gs3 => ?_, fun hlt => absurd hlt (by have := hbp _ _ _ (by omega) e7; have := hbl _ _ _ e8; omega)⟩, fun e7 h s3 hR hOs3 hws3 gs3 => ?_⟩
          · have M3 : KpM D s s3 := (KpM.s58 (x := 0) M2).k (hOs3.keep (by decide))
            have f22 : s3.1 22 = s.1 22 := (hOs3.1 22 (by decide)).1.trans g22
            have f35 : s3.1 35 = pn := (hOs3.1 35 (by decide)).1.trans g35
            have f62 : s3.2.2 62 D = w := by rw [M3.2.1 62 rfl (by decide) (by decide)]; exact h62
            have f58 : s3.2.2 58 D = 0 := by rw [(hOs3.1 58 (by decide)).2]; exact gA_eq _ _ _ _
            have hz := hbp _ _ _ (by omega) e7
            refine z_istore 239 rfl rfl rfl rfl ?_
            refine z_iload 241 rfl rfl rfl ?_
            refine z_zne 244 rfl rfl (by omega) (fun h9 => absurd h9 (by omega)) (fun _ => ?_)
            refine z_iload 245 rfl rfl rfl ?_
            refine z_zge 248 rfl rfl (by omega) (fun _ => ?_) (fun h9 => absurd h9 (by omega))
            refine z_aload 256 rfl rfl rfl ?_
            refine z_iload 257 rfl rfl rfl ?_
            refine z_iload 259 rfl rfl rfl ?_
            refine z_iload 261 rfl rfl rfl ?_
            refine z_cv3 264 rfl rfl hR.1 rfl (Nat.le_refl _) (Nat.le_refl _) ?_
            have hul : (y.1 ++ z.1).length ≤ 600 := by rw [List.length_append]; have := hz; omega
            refine r_store (s := s3) hR hD (us := (y.1 ++ z.1)) (w := w) (st := z.2) (pn := pn) ⟨hws3.1, hws3.2.2.2.1, by exact hws3.2.2.2.2.2 rfl⟩ f62 gs3 f35 (by omega) (Or.inl rfl) (fun _ h s4 hR hF => ?_) (fun h9 => absurd h9 (by decide))
            refine z_ireti rfl (Nat.le_refl _) (Nat.le_refl _) ?_
            have e9 : wsX F K E H rule sg st0 [k0] (some u) = (false, 1, z.2, [], (y.1 ++ z.1)) := by simp only [wsX]; rw [if_neg (fun h9 => hc58 (of_decide_eq_true h9.1))]; simp only [e8]; simp only [wsL]; rw [if_neg (by omega)]; rw [if_neg (by omega)]; simp only [e7]
            exact q0 1 _ _ _ e9 hul (by simp) h s3 s4 hR M3 f22 (f58) (fun j hj => absurd hj (Nat.not_lt_zero j)) hF
          · have M3 : KpM D s s3 := (KpM.s58 (x := 0) M2).k (hOs3.keep (by decide))
            have f22 : s3.1 22 = s.1 22 := (hOs3.1 22 (by decide)).1.trans g22
            have f35 : s3.1 35 = pn := (hOs3.1 35 (by decide)).1.trans g35
            have f62 : s3.2.2 62 D = w := by rw [M3.2.1 62 rfl (by decide) (by decide)]; exact h62
            have f58 : s3.2.2 58 D = 0 := by rw [(hOs3.1 58 (by decide)).2]; exact gA_eq _ _ _ _
            refine z_istore 239 rfl rfl rfl rfl ?_
            refine z_iload 241 rfl rfl rfl ?_
            refine z_jne 244 rfl rfl (fun _ => ?_) (fun h9 => absurd h9 (by decide))
            refine z_aload 256 rfl rfl rfl ?_
            refine z_iload 257 rfl rfl rfl ?_
            refine z_iload 259 rfl rfl rfl ?_
            refine z_iload 261 rfl rfl rfl ?_
            refine z_cv3 264 rfl rfl hR.1 rfl (Nat.le_refl _) (Nat.le_refl _) ?_
            have hul : y.1.length ≤ 600 := by omega
            refine r_store (s := s3) hR hD (us := y.1) (w := w) (st := y.2) (pn := pn) ⟨hws3.1, hws3.2.2.2.1, by exact hws3.2.2.2.2.2 rfl⟩ f62 (gs3.trans gs2) f35 (by omega) (Or.inr (by decide)) (fun h9 => absurd h9 (by decide)) (fun _ h s4 hR hF => ?_)
            refine z_ireti rfl (Nat.le_refl _) (Nat.le_refl _) ?_
            have e9 : wsX F K E H rule sg st0 [k0] (some u) = (true, 1, y.2, [], y.1) := by simp only [wsX]; rw [if_neg (fun h9 => hc58 (of_decide_eq_true h9.1))]; simp only [e8]; simp only [wsL]; rw [if_neg (by omega)]; rw [if_neg (by omega)]; simp only [e7]
            exact q1 1 _ _ e9 hul h s3 s4 hR M3 hF
        · refine z_aload 211 rfl rfl rfl ?_
          refine z_iload 212 rfl rfl rfl ?_
          refine z_aload 213 rfl rfl rfl ?_
          refine y_ga 216 hR rfl rfl rfl ?_
          refine z_iload 217 rfl rfl rfl ?_
          refine y_al (f := 55) 218 _ hR rfl rfl rfl rfl (by omega) (by repeat (first | with_reducible exact k53 | with_reducible exact k55 | with_reducible exact k58 | with_reducible exact k60 | with_reducible exact k62 | with_reducible exact k64 | with_reducible exact j53 | with_reducible exact j55 | with_reducible exact gA_eq _ _ _ _ | (with_reducible apply gA_ne; decide) | with_reducible apply gA_I | with_reducible apply gA_O | (with_reducible apply gA_nj; omega) | with_reducible rfl)) ?_
          refine z_iload 219 rfl rfl rfl ?_
          refine z_cv3 222 rfl rfl hR.1 rfl (Nat.le_refl _) (Nat.le_refl _) ?_
          refine r_writeLone hR hP (by rw [(KpM.s58 (x := 0) M2).2.1 1 rfl (by decide) (by decide)]; exact hk) hK4 (hT.m (KpM.s58 (x := 0) M2)) hW hG (wl1_ok hG hs y e8) gs2 hwo (show WOut (stA 58 D 0 s2) 65 false 1200 y.1 from ⟨hws2.1, hws2.2.1, hws2.2.2.1, hws2.2.2.2.1, hws2.2.2.2.2.1, fun h9 => by show Seg ((stA 58 D 0 s2).2.2 65) 0 _; rw [gAf (by decide)]; exact hws2.2.2.2.2.2 h9⟩) hru (by rw [(KpM.s58 (x := 0) M2).2.1 21 rfl (by decide) (by decide)]; exact hsg) hsgb (by omega) ⟨fun z e7 => ⟨fun hle h s3 hR hOs3 hws3 gs3 => ?_, fun hlt => absurd hlt (by have := hbl _ _ _ e7; have := hbl _ _ _ e8; omega)⟩, fun e7 h s3 hR hOs3 hws3 gs3 => ?_⟩
          · have M3 : KpM D s s3 := (KpM.s58 (x := 0) M2).k (hOs3.keep (by decide))
            have f22 : s3.1 22 = s.1 22 := (hOs3.1 22 (by decide)).1.trans g22
            have f35 : s3.1 35 = pn := (hOs3.1 35 (by decide)).1.trans g35
            have f62 : s3.2.2 62 D = w := by rw [M3.2.1 62 rfl (by decide) (by decide)]; exact h62
            have f58 : s3.2.2 58 D = 0 := by rw [(hOs3.1 58 (by decide)).2]; exact gA_eq _ _ _ _
            have hz := hbl _ _ _ e7
            refine z_goto rfl ?_
            refine z_istore 239 rfl rfl rfl rfl ?_
            refine z_iload 241 rfl rfl rfl ?_
            refine z_zne 244 rfl rfl (by omega) (fun h9 => absurd h9 (by omega)) (fun _ => ?_)
            refine z_iload 245 rfl rfl rfl ?_
            refine z_zge 248 rfl rfl (by omega) (fun _ => ?_) (fun h9 => absurd h9 (by omega))
            refine z_aload 256 rfl rfl rfl ?_
            refine z_iload 257 rfl rfl rfl ?_
            refine z_iload 259 rfl rfl rfl ?_
            refine z_iload 261 rfl rfl rfl ?_
            refine z_cv3 264 rfl rfl hR.1 rfl (Nat.le_refl _) (Nat.le_refl _) ?_
            have hul : (y.1 ++ z.1).length ≤ 600 := by rw [List.length_append]; have := hz; omega
            refine r_store (s := s3) hR hD (us := (y.1 ++ z.1)) (w := w) (st := z.2) (pn := pn) ⟨hws3.1, hws3.2.2.2.1, by exact hws3.2.2.2.2.2 rfl⟩ f62 gs3 f35 (by omega) (Or.inl rfl) (fun _ h s4 hR hF => ?_) (fun h9 => absurd h9 (by decide))
            refine z_ireti rfl (Nat.le_refl _) (Nat.le_refl _) ?_
            have e9 : wsX F K E H rule sg st0 [k0] (some u) = (false, 1, z.2, [], (y.1 ++ z.1)) := by simp only [wsX]; rw [if_neg (fun h9 => hc58 (of_decide_eq_true h9.1))]; simp only [e8]; simp only [wsL]; rw [if_neg (by omega)]; rw [if_pos (by omega)]; simp only [e7]
            exact q0 1 _ _ _ e9 hul (by simp) h s3 s4 hR M3 f22 (f58) (fun j hj => absurd hj (Nat.not_lt_zero j)) hF
          · have M3 : KpM D s s3 := (KpM.s58 (x := 0) M2).k (hOs3.keep (by decide))
            have f22 : s3.1 22 = s.1 22 := (hOs3.1 22 (by decide)).1.trans g22
            have f35 : s3.1 35 = pn := (hOs3.1 35 (by decide)).1.trans g35
            have f62 : s3.2.2 62 D = w := by rw [M3.2.1 62 rfl (by decide) (by decide)]; exact h62
            have f58 : s3.2.2 58 D = 0 := by rw [(hOs3.1 58 (by decide)).2]; exact gA_eq _ _ _ _
            refine z_goto rfl ?_
            refine z_istore 239 rfl rfl rfl rfl ?_
            refine z_iload 241 rfl rfl rfl ?_
            refine z_jne 244 rfl rfl (fun _ => ?_) (fun h9 => absurd h9 (by decide))
            refine z_aload 256 rfl rfl rfl ?_
            refine z_iload 257 rfl rfl rfl ?_
            refine z_iload 259 rfl rfl rfl ?_
            refine z_iload 261 rfl rfl rfl ?_
            refine z_cv3 264 rfl rfl hR.1 rfl (Nat.le_refl _) (Nat.le_refl _) ?_
            have hul : y.1.length ≤ 600 := by omega
            refine r_store (s := s3) hR hD (us := y.1) (w := w) (st := y.2) (pn := pn) ⟨hws3.1, hws3.2.2.2.1, by exact hws3.2.2.2.2.2 rfl⟩ f62 (gs3.trans gs2) f35 (by omega) (Or.inr (by decide)) (fun h9 => absurd h9 (by decide)) (fun _ h s4 hR hF => ?_)
            refine z_ireti rfl (Nat.le_refl _) (Nat.le_refl _) ?_
            have e9 : wsX F K E H rule sg st0 [k0] (some u) = (true, 1, y.2, [], y.1) := by simp only [wsX]; rw [if_neg (fun h9 => hc58 (of_decide_eq_true h9.1))]; simp only [e8]; simp only [wsL]; rw [if_neg (by omega)]; rw [if_pos (by omega)]; simp only [e7]
            exact q1 1 _ _ e9 hul h s3 s4 hR M3 hF
      · refine z_aload 184 rfl rfl rfl ?_
        refine y_ga 187 hR rfl rfl rfl ?_
        refine z_push 189 (nI 8) rfl rfl rfl ?_
        refine z_iload 190 rfl rfl rfl ?_
        refine z_bop 191 _ rfl rfl (by first | with_reducible exact zb_2 _ _ | exact zd_2 _ _) ?_
        refine z_iload 192 rfl rfl rfl ?_
        refine y_as (f := 59) 193 hR rfl rfl rfl rfl (by omega) ?_
        intro h hR
        refine z_aload 194 rfl rfl rfl ?_
        refine y_ga 197 hR rfl rfl rfl ?_
        refine z_iload 198 rfl rfl rfl ?_
        refine z_push 199 (nI 1) rfl rfl rfl ?_
        refine y_as (f := 58) 200 hR rfl rfl rfl rfl (by omega) ?_
        intro h hR
        refine z_goto rfl ?_
        refine z_iload 241 rfl rfl rfl ?_
        refine z_zne 244 rfl rfl (by omega) (fun h9 => absurd h9 (by omega)) (fun _ => ?_)
        refine z_iload 245 rfl rfl rfl ?_
        refine z_zge 248 rfl rfl (by omega) (fun _ => ?_) (fun h9 => absurd h9 (by omega))
        refine z_aload 256 rfl rfl rfl ?_
        refine z_iload 257 rfl rfl rfl ?_
        refine z_iload 259 rfl rfl rfl ?_
        refine z_iload 261 rfl rfl rfl ?_
        refine z_cv3 264 rfl rfl hR.1 rfl (Nat.le_refl _) (Nat.le_refl _) ?_
        have hul : y.1.length ≤ 600 := by omega
        refine r_store (s := (stA 58 D 1 (stA 59 (8 * D) u (stA 58 D 0 s2)))) hR hD (us := y.1) (w := w) (st := y.2) (pn := pn) ⟨hws2.1, hws2.2.2.2.1, by show Seg (((stA 58 D 1 (stA 59 (8 * D) u (stA 58 D 0 s2)))).2.2 65) 0 _; rw [gAf (by decide), gAf (by decide), gAf (by decide)]; exact hws2.2.2.2.2.2 rfl⟩ (by rw [gAf (by decide), gAf (by decide), gAf (by decide)]; exact j62) gs2 g35 (by omega) (Or.inl rfl) (fun _ h s4 hR hF => ?_) (fun h9 => absurd h9 (by decide))
        refine z_ireti rfl (Nat.le_refl _) (Nat.le_refl _) ?_
        have e9 : wsX F K E H rule sg st0 [k0] (some u) = (false, 1, y.2, [u], y.1) := by simp only [wsX]; rw [if_neg (fun h9 => hc58 (of_decide_eq_true h9.1))]; simp only [e8]; simp only [wsL]; rw [if_pos (by omega)]
        exact q0 1 _ _ _ e9 hul (by simp) h (stA 58 D 1 (stA 59 (8 * D) u (stA 58 D 0 s2))) s4 hR (KpM.s58 (KpM.s59 (KpM.s58 (x := 0) M2))) g22 (gA_eq _ _ _ _) (Seg_1 (by rw [gAf (by decide)]; exact gA_eq _ _ _ _)) hF
    · have M2 : KpM D s s2 := M1.k (hOs2.keep (by decide))
      have g22 : s2.1 22 = s.1 22 := (hOs2.1 22 (by decide)).1.trans h22
      have g35 : s2.1 35 = pn := (hOs2.1 35 (by decide)).1.trans h35
      have j53 : s2.2.2 53 D = P := by rw [(M2).2.1 53 rfl (by decide) (by decide)]; exact h53
      have j55 : s2.2.2 55 D = rule := by rw [(M2).2.1 55 rfl (by decide) (by decide)]; exact h55
      have j62 : s2.2.2 62 D = w := by rw [(M2).2.1 62 rfl (by decide) (by decide)]; exact h62
      refine z_istore 152 rfl rfl rfl rfl ?_
      refine z_aload 153 rfl rfl rfl ?_
      refine y_ga 156 hR rfl rfl rfl ?_
      refine z_iload 157 rfl rfl rfl ?_
      refine z_push 158 (nI 0) rfl rfl rfl ?_
      refine y_as (f := 58) 159 hR rfl rfl rfl rfl (by omega) ?_
      intro h hR
      refine z_iload 161 rfl rfl rfl ?_
      refine z_jne 164 rfl rfl (fun _ => ?_) (fun h9 => absurd h9 (by decide))
      refine z_iload 169 rfl rfl rfl ?_
      refine z_jne 172 rfl rfl (fun _ => ?_) (fun h9 => absurd h9 (by decide))
      refine z_iload 241 rfl rfl rfl ?_
      refine z_jne 244 rfl rfl (fun _ => ?_) (fun h9 => absurd h9 (by decide))
      refine z_aload 256 rfl rfl rfl ?_
      refine z_iload 257 rfl rfl rfl ?_
      refine z_iload 259 rfl rfl rfl ?_
      refine z_iload 261 rfl rfl rfl ?_
      refine z_cv3 264 rfl rfl hR.1 rfl (Nat.le_refl _) (Nat.le_refl _) ?_
      have hul : ([] : List Nat).length ≤ 600 := by decide
      refine r_store (s := (stA 58 D 0 s2)) hR hD (us := ([] : List Nat)) (w := w) (st := st0) (pn := pn) ⟨hws2.1, hws2.2.2.2.1, by show Seg (((stA 58 D 0 s2)).2.2 65) 0 _; rw [gAf (by decide)]; exact hws2.2.2.2.2.2 rfl⟩ (by rw [gAf (by decide)]; exact j62) (gs2.trans h34) g35 (by omega) (Or.inr (by decide)) (fun h9 => absurd h9 (by decide)) (fun _ h s4 hR hF => ?_)
      refine z_ireti rfl (Nat.le_refl _) (Nat.le_refl _) ?_
      have e9 : wsX F K E H rule sg st0 [k0] (some u) = (true, 0, st0, [], ([] : List Nat)) := by simp only [wsX]; rw [if_neg (fun h9 => hc58 (of_decide_eq_true h9.1))]; simp only [e8]
      exact q1 0 _ _ e9 hul h (stA 58 D 0 s2) s4 hR M2.s58 hF
  · refine z_push 62 (nI 1) rfl rfl rfl ?_
    refine z_goto rfl ?_
    refine z_istore 68 rfl rfl rfl rfl ?_
    refine z_iload 70 rfl rfl rfl ?_
    refine z_zeq 73 rfl rfl (by omega) (fun h9 => absurd h9 (by omega)) (fun _ => ?_)
    refine z_aload 74 rfl rfl rfl ?_
    refine z_iload 75 rfl rfl rfl ?_
    refine z_aload 76 rfl rfl rfl ?_
    refine y_ga 79 hR rfl rfl rfl ?_
    refine z_iload 80 rfl rfl rfl ?_
    refine y_al (f := 55) 81 _ hR rfl rfl rfl rfl (by omega) (by repeat (first | with_reducible exact k53 | with_reducible exact k55 | with_reducible exact k58 | with_reducible exact k60 | with_reducible exact k62 | with_reducible exact k64 | with_reducible exact j53 | with_reducible exact j55 | with_reducible exact gA_eq _ _ _ _ | (with_reducible apply gA_ne; decide) | with_reducible apply gA_I | with_reducible apply gA_O | (with_reducible apply gA_nj; omega) | with_reducible rfl)) ?_
    refine z_push 83 (nI 65536) rfl rfl rfl ?_
    refine z_aload 84 rfl rfl rfl ?_
    refine y_ga 87 hR rfl rfl rfl ?_
    refine z_push 88 (nI 0) rfl rfl rfl ?_
    refine y_al (f := 64) 89 _ hR rfl rfl rfl rfl (by omega) (by repeat (first | with_reducible exact k53 | with_reducible exact k55 | with_reducible exact k58 | with_reducible exact k60 | with_reducible exact k62 | with_reducible exact k64 | with_reducible exact j53 | with_reducible exact j55 | with_reducible exact gA_eq _ _ _ _ | (with_reducible apply gA_ne; decide) | with_reducible apply gA_I | with_reducible apply gA_O | (with_reducible apply gA_nj; omega) | with_reducible rfl)) ?_
    refine z_push 91 (nI 55296) rfl rfl rfl ?_
    refine z_bop 92 _ rfl rfl (by first | with_reducible exact zb_1 (by omega) | exact zd_1 _ _) ?_
    refine z_push 94 (nI 10) rfl rfl rfl ?_
    refine z_bop 95 _ rfl rfl (shl_n 10 (by decide) (by omega)) ?_
    refine z_bop 96 _ rfl rfl (by first | with_reducible exact zb_0 _ _ | exact zd_0 _ _) ?_
    refine z_iload 97 rfl rfl rfl ?_
    refine z_bop 98 _ rfl rfl (by first | with_reducible exact zb_0 _ _ | exact zd_0 _ _) ?_
    refine z_push 100 (nI 56320) rfl rfl rfl ?_
    refine z_bop 101 _ rfl rfl (by first | with_reducible exact zb_1 (by omega) | exact zd_1 _ _) ?_
    refine z_cv3 104 rfl rfl hR.1 rfl (Nat.le_refl _) (Nat.le_refl _) ?_
    have hFB1 := hFB.m (M1)
    refine r_writePoint hR hP (by rw [(M1).2.1 1 rfl (by decide) (by decide)]; exact hk) hK4 (hT.m (M1)) hW hG hs h34 hwo W1 hru (by rw [(M1).2.1 21 rfl (by decide) (by decide)]; exact hsg) hsgb hFB1 hFW hFd (by omega) ⟨fun y e8 => ⟨fun hle h s2 hR hOs2 hws2 gs2 => ?_, fun hlt => absurd hlt (by have := hbp _ _ _ (by omega) e8; simp only [List.length_nil] at hlt; omega)⟩, fun e8 h s2 hR hOs2 hws2 gs2 => ?_⟩
    · have M2 : KpM D s s2 := M1.k (hOs2.keep (by decide))
      have g22 : s2.1 22 = s.1 22 := (hOs2.1 22 (by decide)).1.trans h22
      have g35 : s2.1 35 = pn := (hOs2.1 35 (by decide)).1.trans h35
      have j53 : s2.2.2 53 D = P := by rw [(M2).2.1 53 rfl (by decide) (by decide)]; exact h53
      have j55 : s2.2.2 55 D = rule := by rw [(M2).2.1 55 rfl (by decide) (by decide)]; exact h55
      have j62 : s2.2.2 62 D = w := by rw [(M2).2.1 62 rfl (by decide) (by decide)]; exact h62
      have hy := hbp _ _ _ (by omega) e8
      refine z_istore 106 rfl rfl rfl rfl ?_
      refine z_aload 107 rfl rfl rfl ?_
      refine y_ga 110 hR rfl rfl rfl ?_
      refine z_iload 111 rfl rfl rfl ?_
      refine z_push 112 (nI 0) rfl rfl rfl ?_
      refine y_as (f := 58) 113 hR rfl rfl rfl rfl (by omega) ?_
      intro h hR
      refine z_aload 114 rfl rfl rfl ?_
      refine z_iload 115 rfl rfl rfl ?_
      refine z_iload 117 rfl rfl rfl ?_
      refine z_iload 119 rfl rfl rfl ?_
      refine z_cv3 122 rfl rfl hR.1 rfl (Nat.le_refl _) (Nat.le_refl _) ?_
      have hul : y.1.length ≤ 600 := by have := hbp _ _ _ (by omega) e8; omega
      refine r_store (s := (stA 58 D 0 s2)) hR hD (us := y.1) (w := w) (st := y.2) (pn := pn) ⟨hws2.1, hws2.2.2.2.1, by show Seg (((stA 58 D 0 s2)).2.2 65) 0 _; rw [gAf (by decide)]; exact hws2.2.2.2.2.2 rfl⟩ (by rw [gAf (by decide)]; exact j62) gs2 g35 (by omega) (Or.inl rfl) (fun _ h s4 hR hF => ?_) (fun h9 => absurd h9 (by decide))
      refine z_ireti rfl (Nat.le_refl _) (Nat.le_refl _) ?_
      have e9 : wsX F K E H rule sg st0 [k0] (some u) = (false, 0, y.2, [], y.1) := by simp only [wsX]; rw [if_pos ⟨decide_eq_true hc58, by simp⟩]; simp only [Option.getD_some, e8]
      exact q0 0 _ _ _ e9 hul (by simp) h (stA 58 D 0 s2) s4 hR M2.s58 g22 (gA_eq _ _ _ _) (fun j hj => absurd hj (Nat.not_lt_zero j)) hF
    · have M2 : KpM D s s2 := M1.k (hOs2.keep (by decide))
      have g22 : s2.1 22 = s.1 22 := (hOs2.1 22 (by decide)).1.trans h22
      have g35 : s2.1 35 = pn := (hOs2.1 35 (by decide)).1.trans h35
      have j53 : s2.2.2 53 D = P := by rw [(M2).2.1 53 rfl (by decide) (by decide)]; exact h53
      have j55 : s2.2.2 55 D = rule := by rw [(M2).2.1 55 rfl (by decide) (by decide)]; exact h55
      have j62 : s2.2.2 62 D = w := by rw [(M2).2.1 62 rfl (by decide) (by decide)]; exact h62
      refine z_istore 106 rfl rfl rfl rfl ?_
      refine z_aload 107 rfl rfl rfl ?_
      refine y_ga 110 hR rfl rfl rfl ?_
      refine z_iload 111 rfl rfl rfl ?_
      refine z_push 112 (nI 0) rfl rfl rfl ?_
      refine y_as (f := 58) 113 hR rfl rfl rfl rfl (by omega) ?_
      intro h hR
      refine z_aload 114 rfl rfl rfl ?_
      refine z_iload 115 rfl rfl rfl ?_
      refine z_iload 117 rfl rfl rfl ?_
      refine z_iload 119 rfl rfl rfl ?_
      refine z_cv3 122 rfl rfl hR.1 rfl (Nat.le_refl _) (Nat.le_refl _) ?_
      have hul : ([] : List Nat).length ≤ 600 := by decide
      refine r_store (s := (stA 58 D 0 s2)) hR hD (us := ([] : List Nat)) (w := w) (st := st0) (pn := pn) ⟨hws2.1, hws2.2.2.2.1, by show Seg (((stA 58 D 0 s2)).2.2 65) 0 _; rw [gAf (by decide)]; exact hws2.2.2.2.2.2 rfl⟩ (by rw [gAf (by decide)]; exact j62) (gs2.trans h34) g35 (by omega) (Or.inr (by decide)) (fun h9 => absurd h9 (by decide)) (fun _ h s4 hR hF => ?_)
      refine z_ireti rfl (Nat.le_refl _) (Nat.le_refl _) ?_
      have e9 : wsX F K E H rule sg st0 [k0] (some u) = (true, 0, st0, [], ([] : List Nat)) := by simp only [wsX]; rw [if_pos ⟨decide_eq_true hc58, by simp⟩]; simp only [Option.getD_some, e8]
      exact q1 0 _ _ e9 hul h (stA 58 D 0 s2) s4 hR M2.s58 hF
set_option maxRecDepth 100000 in
theorem r_wE0 {d r : Nat} {h h0 : mH} {s : rS} {D P rule st0 pn fed sg K w k0 u : Nat} {E : List En} {H : List Sh} {F : List Fb} {Q : mP} (hR : Rf r h0 s h) (hD : D < 4) (hP : P < 11) (h53 : s.2.2 53 D = P) (h55 : s.2.2 55 D = rule) (h56 : s.2.2 56 D = st0) (h57 : s.2.2 57 D = pn) (h58 : s.2.2 58 D = ([] : List Nat).length) (h59 : Seg (s.2.2 59) (8 * D) []) (h60 : s.2.2 60 D = fed) (h62 : s.2.2 62 D = w) (hk : s.2.2 1 P = K) (hK4 : K < 4) (hT : TbR s P E H) (hW : TbW E H) (hG : Gd K E H) (hs : SOk K H st0) (hru : rule < 5) (hsg : s.2.2 21 1 = sg) (hsgb : sg < 1114112) (hFB : RFb s F) (hFW : FbW F) (hFd : ∀ x, Fdp F 40 x) (h48 : s.1 48 = 0) (hqw : w ≤ 300) (hbp : ∀ x st y, x < 1114112 → wp1 F K E H rule sg x st = some y → y.1.length ≤ 300) (hbl : ∀ x st y, wl1 K E H rule sg x st = some y → y.1.length ≤ 300) (hbg : ∀ st, (ghW K H st).1.length ≤ 300)  (q0 : ∀ a st ks us, wsX F K E H rule sg st0 [] none = (false, a, st, ks, us) → us.length ≤ 600 → ks.length ≤ 1 → ∀ h' s2 s3, Rf r h0 (stK D st pn (w + us.length) s3) h' → KpM D s s2 → s2.1 22 = s.1 22 → s2.2.2 58 D = ks.length → Seg (s2.2.2 59) (8 * D) ks → CpF s2 s3 (1200 * D + w) us.length us → Q (some (.int (nI (w + us.length)))) h') (q1 : ∀ a st us, wsX F K E H rule sg st0 [] none = (true, a, st, [], us) → us.length ≤ 600 → ∀ h' s2 s3, Rf r h0 (stR D st (w + us.length) ((fed - 0 - 0) + a) s3) h' → KpM D s s2 → CpF s2 s3 (1200 * D + w) us.length us → Q (some (.int (-10))) h') : mWP (d + 54) 241 [.ref r, .int (nI D), .int (-1)] h Q := by
  have hwo : wO 65 45 1200 1200 false := ⟨rfl, fun _ => Nat.le_refl _, by decide, Or.inr rfl⟩
  refine z_in [some (.ref r), some (.int (nI D)), some (.int (-1)), none, none, none, none] (by rfl) rfl rfl rfl ?_
  refine z_aload 1 rfl rfl rfl ?_
  refine z_iload 2 rfl rfl rfl ?_
  refine z_cv1 5 rfl rfl hR.1 rfl (Nat.le_refl _) (Nat.le_refl _) ?_
  refine r_load hR hD h56 h57 h58 h59 (by simp) (fun h s1 hR hK hfa ho h22 h34 h35 h37 h38 hks => ?_)
  have M1 : KpM D s s1 := KpM.of hK
  have k48 : s1.1 48 = b2 false := (M1.1 48 rfl).trans h48
  have W1 : WOut s1 65 false 1200 [] := ⟨ho, k48, h38, h37, Nat.zero_le _, fun _ j hj => absurd hj (Nat.not_lt_zero j)⟩
  have k53 : s1.2.2 53 D = P := by rw [M1.2.1 53 rfl (by decide) (by decide)]; exact h53
  have k55 : s1.2.2 55 D = rule := by rw [M1.2.1 55 rfl (by decide) (by decide)]; exact h55
  have k58 : s1.2.2 58 D = 0 := by rw [(hK 58 rfl).2]; exact h58
  have k60 : s1.2.2 60 D = fed := by rw [M1.2.1 60 rfl (by decide) (by decide)]; exact h60
  have k62 : s1.2.2 62 D = w := by rw [M1.2.1 62 rfl (by decide) (by decide)]; exact h62
  refine z_aload 6 rfl rfl rfl ?_
  refine y_ga 9 hR rfl rfl rfl ?_
  refine z_iload 10 rfl rfl rfl ?_
  refine y_al (f := 53) 11 _ hR rfl rfl rfl rfl (by omega) (by repeat (first | with_reducible exact k53 | with_reducible exact k55 | with_reducible exact k58 | with_reducible exact k60 | with_reducible exact k62 | with_reducible exact gA_eq _ _ _ _ | (with_reducible apply gA_ne; decide) | with_reducible apply gA_I | with_reducible apply gA_O | (with_reducible apply gA_nj; omega) | with_reducible rfl)) ?_
  refine z_istore 12 rfl rfl rfl rfl ?_
  refine z_push 13 (nI 0) rfl rfl rfl ?_
  refine z_istore 15 rfl rfl rfl rfl ?_
  refine z_aload 16 rfl rfl rfl ?_
  refine y_ga 19 hR rfl rfl rfl ?_
  refine z_iload 20 rfl rfl rfl ?_
  refine y_al (f := 60) 21 _ hR rfl rfl rfl rfl (by omega) (by repeat (first | with_reducible exact k53 | with_reducible exact k55 | with_reducible exact k58 | with_reducible exact k60 | with_reducible exact k62 | with_reducible exact gA_eq _ _ _ _ | (with_reducible apply gA_ne; decide) | with_reducible apply gA_I | with_reducible apply gA_O | (with_reducible apply gA_nj; omega) | with_reducible rfl)) ?_
  refine z_iload 22 rfl rfl rfl ?_
  refine z_jge 25 rfl rfl (fun h9 => absurd h9 (by decide)) (fun _ => ?_)
  refine z_push 26 (nI 0) rfl rfl rfl ?_
  refine z_goto rfl ?_
  refine z_bop 31 _ rfl rfl (by first | with_reducible exact zb_1 (by omega) | exact zd_1 _ _) ?_
  refine z_aload 32 rfl rfl rfl ?_
  refine y_ga 35 hR rfl rfl rfl ?_
  refine z_iload 36 rfl rfl rfl ?_
  refine y_al (f := 58) 37 _ hR rfl rfl rfl rfl (by omega) (by repeat (first | with_reducible exact k53 | with_reducible exact k55 | with_reducible exact k58 | with_reducible exact k60 | with_reducible exact k62 | with_reducible exact gA_eq _ _ _ _ | (with_reducible apply gA_ne; decide) | with_reducible apply gA_I | with_reducible apply gA_O | (with_reducible apply gA_nj; omega) | with_reducible rfl)) ?_
  refine z_bop 38 _ rfl rfl (by first | with_reducible exact zb_1 (by omega) | exact zd_1 _ _) ?_
  refine z_istore 40 rfl rfl rfl rfl ?_
  refine z_aload 41 rfl rfl rfl ?_
  refine y_ga 44 hR rfl rfl rfl ?_
  refine z_iload 45 rfl rfl rfl ?_
  refine y_al (f := 58) 46 _ hR rfl rfl rfl rfl (by omega) (by repeat (first | with_reducible exact k53 | with_reducible exact k55 | with_reducible exact k58 | with_reducible exact k60 | with_reducible exact k62 | with_reducible exact gA_eq _ _ _ _ | (with_reducible apply gA_ne; decide) | with_reducible apply gA_I | with_reducible apply gA_O | (with_reducible apply gA_nj; omega) | with_reducible rfl)) ?_
  refine z_push 47 (nI 1) rfl rfl rfl ?_
  refine z_nne 50 rfl rfl (by omega) (by omega) (fun _ => ?_) (fun h9 => absurd h9 (by omega))
  refine z_push 66 (nI 0) rfl rfl rfl ?_
  refine z_istore 68 rfl rfl rfl rfl ?_
  refine z_iload 70 rfl rfl rfl ?_
  refine z_zeq 73 rfl rfl (by omega) (fun _ => ?_) (fun h9 => absurd h9 (by omega))
  refine z_aload 124 rfl rfl rfl ?_
  refine y_ga 127 hR rfl rfl rfl ?_
  refine z_iload 128 rfl rfl rfl ?_
  refine y_al (f := 58) 129 _ hR rfl rfl rfl rfl (by omega) (by repeat (first | with_reducible exact k53 | with_reducible exact k55 | with_reducible exact k58 | with_reducible exact k60 | with_reducible exact k62 | with_reducible exact gA_eq _ _ _ _ | (with_reducible apply gA_ne; decide) | with_reducible apply gA_I | with_reducible apply gA_O | (with_reducible apply gA_nj; omega) | with_reducible rfl)) ?_
  refine z_push 130 (nI 1) rfl rfl rfl ?_
  refine z_nne 133 rfl rfl (by omega) (by omega) (fun _ => ?_) (fun h9 => absurd h9 (by omega))
  refine z_iload 169 rfl rfl rfl ?_
  refine z_zne 172 rfl rfl (by omega) (fun h9 => absurd h9 (by omega)) (fun _ => ?_)
  refine z_iload 173 rfl rfl rfl ?_
  refine z_jlt 176 rfl rfl (fun _ => ?_) (fun h9 => absurd h9 (by decide))
  refine z_iload 241 rfl rfl rfl ?_
  refine z_zne 244 rfl rfl (by omega) (fun h9 => absurd h9 (by omega)) (fun _ => ?_)
  refine z_iload 245 rfl rfl rfl ?_
  refine z_jge 248 rfl rfl (fun h9 => absurd h9 (by decide)) (fun _ => ?_)
  refine z_aload 249 rfl rfl rfl ?_
  refine z_iload 250 rfl rfl rfl ?_
  refine z_cv1 253 rfl rfl hR.1 rfl (Nat.le_refl _) (Nat.le_refl _) ?_
  refine r_goHome hR (by rw [(M1).2.1 1 rfl (by decide) (by decide)]; exact hk) hK4 (hT.m (M1)) hW (hs).1 h34 hwo W1 (gh_g hG hs) ⟨fun hle h s3 hR hOs3 hws3 gs3 => ?_, fun hlt => absurd hlt (by have := hbg (st0); simp only [List.length_nil] at hlt; omega)⟩
  · have M3 : KpM D s s3 := (M1).k (hOs3.keep (by decide))
    have f22 : s3.1 22 = s.1 22 := (hOs3.1 22 (by decide)).1.trans h22
    have f35 : s3.1 35 = pn := (hOs3.1 35 (by decide)).1.trans h35
    have f62 : s3.2.2 62 D = w := by rw [M3.2.1 62 rfl (by decide) (by decide)]; exact h62
    have f58 : s3.2.2 58 D = 0 := by rw [(hOs3.1 58 (by decide)).2]; exact k58
    refine z_istore 255 rfl rfl rfl rfl ?_
    refine z_aload 256 rfl rfl rfl ?_
    refine z_iload 257 rfl rfl rfl ?_
    refine z_iload 259 rfl rfl rfl ?_
    refine z_iload 261 rfl rfl rfl ?_
    refine z_cv3 264 rfl rfl hR.1 rfl (Nat.le_refl _) (Nat.le_refl _) ?_
    have hul : (([] : List Nat) ++ (ghW K H st0).1).length ≤ 600 := by rw [List.length_append]; have := hbg (st0); simp only [List.length_nil]; omega
    refine r_store (s := s3) hR hD (us := (([] : List Nat) ++ (ghW K H st0).1)) (w := w) (st := (ghW K H st0).2) (pn := pn) ⟨hws3.1, hws3.2.2.2.1, by exact hws3.2.2.2.2.2 rfl⟩ f62 gs3 f35 (by omega) (Or.inl rfl) (fun _ h s4 hR hF => ?_) (fun h9 => absurd h9 (by decide))
    refine z_ireti rfl (Nat.le_refl _) (Nat.le_refl _) ?_
    have e9 : wsX F K E H rule sg st0 [] none = (false, 0, (ghW K H st0).2, [], (([] : List Nat) ++ (ghW K H st0).1)) := rfl
    exact q0 0 _ _ _ e9 hul (by simp) h s3 s4 hR M3 f22 (f58) (fun j hj => absurd hj (Nat.not_lt_zero j)) hF
set_option maxRecDepth 100000 in
theorem r_wE1 {d r : Nat} {h h0 : mH} {s : rS} {D P rule st0 pn fed sg K w k0 u : Nat} {E : List En} {H : List Sh} {F : List Fb} {Q : mP} (hR : Rf r h0 s h) (hD : D < 4) (hP : P < 11) (h53 : s.2.2 53 D = P) (h55 : s.2.2 55 D = rule) (h56 : s.2.2 56 D = st0) (h57 : s.2.2 57 D = pn) (h58 : s.2.2 58 D = ([k0] : List Nat).length) (h59 : Seg (s.2.2 59) (8 * D) [k0]) (h60 : s.2.2 60 D = fed) (h62 : s.2.2 62 D = w) (hk : s.2.2 1 P = K) (hK4 : K < 4) (hT : TbR s P E H) (hW : TbW E H) (hG : Gd K E H) (hs : SOk K H st0) (hru : rule < 5) (hsg : s.2.2 21 1 = sg) (hsgb : sg < 1114112) (hFB : RFb s F) (hFW : FbW F) (hFd : ∀ x, Fdp F 40 x) (h48 : s.1 48 = 0) (hqw : w ≤ 300) (hbp : ∀ x st y, x < 1114112 → wp1 F K E H rule sg x st = some y → y.1.length ≤ 300) (hbl : ∀ x st y, wl1 K E H rule sg x st = some y → y.1.length ≤ 300) (hbg : ∀ st, (ghW K H st).1.length ≤ 300) (hfk : 1 ≤ fed) (hk0 : 55296 ≤ k0 ∧ k0 ≤ 56319)  (q0 : ∀ a st ks us, wsX F K E H rule sg st0 [k0] none = (false, a, st, ks, us) → us.length ≤ 600 → ks.length ≤ 1 → ∀ h' s2 s3, Rf r h0 (stK D st pn (w + us.length) s3) h' → KpM D s s2 → s2.1 22 = s.1 22 → s2.2.2 58 D = ks.length → Seg (s2.2.2 59) (8 * D) ks → CpF s2 s3 (1200 * D + w) us.length us → Q (some (.int (nI (w + us.length)))) h') (q1 : ∀ a st us, wsX F K E H rule sg st0 [k0] none = (true, a, st, [], us) → us.length ≤ 600 → ∀ h' s2 s3, Rf r h0 (stR D st (w + us.length) ((fed - 0 - 1) + a) s3) h' → KpM D s s2 → CpF s2 s3 (1200 * D + w) us.length us → Q (some (.int (-10))) h') : mWP (d + 54) 241 [.ref r, .int (nI D), .int (-1)] h Q := by
  have hwo : wO 65 45 1200 1200 false := ⟨rfl, fun _ => Nat.le_refl _, by decide, Or.inr rfl⟩
  refine z_in [some (.ref r), some (.int (nI D)), some (.int (-1)), none, none, none, none] (by rfl) rfl rfl rfl ?_
  refine z_aload 1 rfl rfl rfl ?_
  refine z_iload 2 rfl rfl rfl ?_
  refine z_cv1 5 rfl rfl hR.1 rfl (Nat.le_refl _) (Nat.le_refl _) ?_
  refine r_load hR hD h56 h57 h58 h59 (by simp) (fun h s1 hR hK hfa ho h22 h34 h35 h37 h38 hks => ?_)
  have M1 : KpM D s s1 := KpM.of hK
  have k48 : s1.1 48 = b2 false := (M1.1 48 rfl).trans h48
  have W1 : WOut s1 65 false 1200 [] := ⟨ho, k48, h38, h37, Nat.zero_le _, fun _ j hj => absurd hj (Nat.not_lt_zero j)⟩
  have k53 : s1.2.2 53 D = P := by rw [M1.2.1 53 rfl (by decide) (by decide)]; exact h53
  have k55 : s1.2.2 55 D = rule := by rw [M1.2.1 55 rfl (by decide) (by decide)]; exact h55
  have k58 : s1.2.2 58 D = 1 := by rw [(hK 58 rfl).2]; exact h58
  have k60 : s1.2.2 60 D = fed := by rw [M1.2.1 60 rfl (by decide) (by decide)]; exact h60
  have k62 : s1.2.2 62 D = w := by rw [M1.2.1 62 rfl (by decide) (by decide)]; exact h62
  have k64 : s1.2.2 64 0 = k0 := hks 0 (by simp)
  refine z_aload 6 rfl rfl rfl ?_
  refine y_ga 9 hR rfl rfl rfl ?_
  refine z_iload 10 rfl rfl rfl ?_
  refine y_al (f := 53) 11 _ hR rfl rfl rfl rfl (by omega) (by repeat (first | with_reducible exact k53 | with_reducible exact k55 | with_reducible exact k58 | with_reducible exact k60 | with_reducible exact k62 | with_reducible exact k64 | with_reducible exact j53 | with_reducible exact j55 | with_reducible exact gA_eq _ _ _ _ | (with_reducible apply gA_ne; decide) | with_reducible apply gA_I | with_reducible apply gA_O | (with_reducible apply gA_nj; omega) | with_reducible rfl)) ?_
  refine z_istore 12 rfl rfl rfl rfl ?_
  refine z_push 13 (nI 0) rfl rfl rfl ?_
  refine z_istore 15 rfl rfl rfl rfl ?_
  refine z_aload 16 rfl rfl rfl ?_
  refine y_ga 19 hR rfl rfl rfl ?_
  refine z_iload 20 rfl rfl rfl ?_
  refine y_al (f := 60) 21 _ hR rfl rfl rfl rfl (by omega) (by repeat (first | with_reducible exact k53 | with_reducible exact k55 | with_reducible exact k58 | with_reducible exact k60 | with_reducible exact k62 | with_reducible exact k64 | with_reducible exact j53 | with_reducible exact j55 | with_reducible exact gA_eq _ _ _ _ | (with_reducible apply gA_ne; decide) | with_reducible apply gA_I | with_reducible apply gA_O | (with_reducible apply gA_nj; omega) | with_reducible rfl)) ?_
  refine z_iload 22 rfl rfl rfl ?_
  refine z_jge 25 rfl rfl (fun h9 => absurd h9 (by decide)) (fun _ => ?_)
  refine z_push 26 (nI 0) rfl rfl rfl ?_
  refine z_goto rfl ?_
  refine z_bop 31 _ rfl rfl (by first | with_reducible exact zb_1 (by omega) | exact zd_1 _ _) ?_
  refine z_aload 32 rfl rfl rfl ?_
  refine y_ga 35 hR rfl rfl rfl ?_
  refine z_iload 36 rfl rfl rfl ?_
  refine y_al (f := 58) 37 _ hR rfl rfl rfl rfl (by omega) (by repeat (first | with_reducible exact k53 | with_reducible exact k55 | with_reducible exact k58 | with_reducible exact k60 | with_reducible exact k62 | with_reducible exact k64 | with_reducible exact j53 | with_reducible exact j55 | with_reducible exact gA_eq _ _ _ _ | (with_reducible apply gA_ne; decide) | with_reducible apply gA_I | with_reducible apply gA_O | (with_reducible apply gA_nj; omega) | with_reducible rfl)) ?_
  refine z_bop 38 _ rfl rfl (by first | with_reducible exact zb_1 (by omega) | exact zd_1 _ _) ?_
  refine z_istore 40 rfl rfl rfl rfl ?_
  refine z_aload 41 rfl rfl rfl ?_
  refine y_ga 44 hR rfl rfl rfl ?_
  refine z_iload 45 rfl rfl rfl ?_
  refine y_al (f := 58) 46 _ hR rfl rfl rfl rfl (by omega) (by repeat (first | with_reducible exact k53 | with_reducible exact k55 | with_reducible exact k58 | with_reducible exact k60 | with_reducible exact k62 | with_reducible exact k64 | with_reducible exact j53 | with_reducible exact j55 | with_reducible exact gA_eq _ _ _ _ | (with_reducible apply gA_ne; decide) | with_reducible apply gA_I | with_reducible apply gA_O | (with_reducible apply gA_nj; omega) | with_reducible rfl)) ?_
  refine z_push 47 (nI 1) rfl rfl rfl ?_
  refine z_nne 50 rfl rfl (by omega) (by omega) (fun h9 => absurd h9 (by omega)) (fun _ => ?_)
  refine z_iload 51 rfl rfl rfl ?_
  refine z_jlt 54 rfl rfl (fun _ => ?_) (fun h9 => absurd h9 (by decide))
  refine z_push 66 (nI 0) rfl rfl rfl ?_
  refine z_istore 68 rfl rfl rfl rfl ?_
  refine z_iload 70 rfl rfl rfl ?_
  refine z_zeq 73 rfl rfl (by omega) (fun _ => ?_) (fun h9 => absurd h9 (by omega))
  refine z_aload 124 rfl rfl rfl ?_
  refine y_ga 127 hR rfl rfl rfl ?_
  refine z_iload 128 rfl rfl rfl ?_
  refine y_al (f := 58) 129 _ hR rfl rfl rfl rfl (by omega) (by repeat (first | with_reducible exact k53 | with_reducible exact k55 | with_reducible exact k58 | with_reducible exact k60 | with_reducible exact k62 | with_reducible exact k64 | with_reducible exact j53 | with_reducible exact j55 | with_reducible exact gA_eq _ _ _ _ | (with_reducible apply gA_ne; decide) | with_reducible apply gA_I | with_reducible apply gA_O | (with_reducible apply gA_nj; omega) | with_reducible rfl)) ?_
  refine z_push 130 (nI 1) rfl rfl rfl ?_
  refine z_nne 133 rfl rfl (by omega) (by omega) (fun h9 => absurd h9 (by omega)) (fun _ => ?_)
  refine z_aload 134 rfl rfl rfl ?_
  refine z_iload 135 rfl rfl rfl ?_
  refine z_aload 136 rfl rfl rfl ?_
  refine y_ga 139 hR rfl rfl rfl ?_
  refine z_iload 140 rfl rfl rfl ?_
  refine y_al (f := 55) 141 _ hR rfl rfl rfl rfl (by omega) (by repeat (first | with_reducible exact k53 | with_reducible exact k55 | with_reducible exact k58 | with_reducible exact k60 | with_reducible exact k62 | with_reducible exact k64 | with_reducible exact j53 | with_reducible exact j55 | with_reducible exact gA_eq _ _ _ _ | (with_reducible apply gA_ne; decide) | with_reducible apply gA_I | with_reducible apply gA_O | (with_reducible apply gA_nj; omega) | with_reducible rfl)) ?_
  refine z_aload 142 rfl rfl rfl ?_
  refine y_ga 145 hR rfl rfl rfl ?_
  refine z_push 146 (nI 0) rfl rfl rfl ?_
  refine y_al (f := 64) 147 _ hR rfl rfl rfl rfl (by omega) (by repeat (first | with_reducible exact k53 | with_reducible exact k55 | with_reducible exact k58 | with_reducible exact k60 | with_reducible exact k62 | with_reducible exact k64 | with_reducible exact j53 | with_reducible exact j55 | with_reducible exact gA_eq _ _ _ _ | (with_reducible apply gA_ne; decide) | with_reducible apply gA_I | with_reducible apply gA_O | (with_reducible apply gA_nj; omega) | with_reducible rfl)) ?_
  refine z_cv3 150 rfl rfl hR.1 rfl (Nat.le_refl _) (Nat.le_refl _) ?_
  refine r_writeLone hR hP (by rw [(M1).2.1 1 rfl (by decide) (by decide)]; exact hk) hK4 (hT.m (M1)) hW hG hs h34 hwo W1 hru (by rw [(M1).2.1 21 rfl (by decide) (by decide)]; exact hsg) hsgb (by omega) ⟨fun y e8 => ⟨fun hle h s2 hR hOs2 hws2 gs2 => ?_, fun hlt => absurd hlt (by have := hbl _ _ _ e8; simp only [List.length_nil] at hlt; omega)⟩, fun e8 h s2 hR hOs2 hws2 gs2 => ?_⟩
  · have M2 : KpM D s s2 := M1.k (hOs2.keep (by decide))
    have g22 : s2.1 22 = s.1 22 := (hOs2.1 22 (by decide)).1.trans h22
    have g35 : s2.1 35 = pn := (hOs2.1 35 (by decide)).1.trans h35
    have j53 : s2.2.2 53 D = P := by rw [(M2).2.1 53 rfl (by decide) (by decide)]; exact h53
    have j55 : s2.2.2 55 D = rule := by rw [(M2).2.1 55 rfl (by decide) (by decide)]; exact h55
    have j62 : s2.2.2 62 D = w := by rw [(M2).2.1 62 rfl (by decide) (by decide)]; exact h62
    have hy := hbl _ _ _ e8
    refine z_istore 152 rfl rfl rfl rfl ?_
    refine z_aload 153 rfl rfl rfl ?_
    refine y_ga 156 hR rfl rfl rfl ?_
    refine z_iload 157 rfl rfl rfl ?_
    refine z_push 158 (nI 0) rfl rfl rfl ?_
    refine y_as (f := 58) 159 hR rfl rfl rfl rfl (by omega) ?_
    intro h hR
    refine z_iload 161 rfl rfl rfl ?_
    refine z_zne 164 rfl rfl (by omega) (fun h9 => absurd h9 (by omega)) (fun _ => ?_)
    refine z_iinc 167 _ rfl rfl rfl rfl (by first | with_reducible exact zi_1 _ | rfl) ?_
    refine z_iload 169 rfl rfl rfl ?_
    refine z_zne 172 rfl rfl (by omega) (fun h9 => absurd h9 (by omega)) (fun _ => ?_)
    refine z_iload 173 rfl rfl rfl ?_
    refine z_jlt 176 rfl rfl (fun _ => ?_) (fun h9 => absurd h9 (by decide))
    refine z_iload 241 rfl rfl rfl ?_
    refine z_zne 244 rfl rfl (by omega) (fun h9 => absurd h9 (by omega)) (fun _ => ?_)
    refine z_iload 245 rfl rfl rfl ?_
    refine z_jge 248 rfl rfl (fun h9 => absurd h9 (by decide)) (fun _ => ?_)
    refine z_aload 249 rfl rfl rfl ?_
    refine z_iload 250 rfl rfl rfl ?_
    refine z_cv1 253 rfl rfl hR.1 rfl (Nat.le_refl _) (Nat.le_refl _) ?_
    refine r_goHome hR (by rw [(KpM.s58 (x := 0) M2).2.1 1 rfl (by decide) (by decide)]; exact hk) hK4 (hT.m (KpM.s58 (x := 0) M2)) hW ((wl1_ok hG hs y e8)).1 gs2 hwo (show WOut (stA 58 D 0 s2) 65 false 1200 y.1 from ⟨hws2.1, hws2.2.1, hws2.2.2.1, hws2.2.2.2.1, hws2.2.2.2.2.1, fun h9 => by show Seg ((stA 58 D 0 s2).2.2 65) 0 _; rw [gAf (by decide)]; exact hws2.2.2.2.2.2 h9⟩) (gh_g hG (wl1_ok hG hs y e8)) ⟨fun hle h s3 hR hOs3 hws3 gs3 => ?_, fun hlt => absurd hlt (by have := hbg (y.2); have := hbl _ _ _ e8; omega)⟩
    · have M3 : KpM D s s3 := (KpM.s58 (x := 0) M2).k (hOs3.keep (by decide))
      have f22 : s3.1 22 = s.1 22 := (hOs3.1 22 (by decide)).1.trans g22
      have f35 : s3.1 35 = pn := (hOs3.1 35 (by decide)).1.trans g35
      have f62 : s3.2.2 62 D = w := by rw [M3.2.1 62 rfl (by decide) (by decide)]; exact h62
      have f58 : s3.2.2 58 D = 0 := by rw [(hOs3.1 58 (by decide)).2]; exact gA_eq _ _ _ _
      refine z_istore 255 rfl rfl rfl rfl ?_
      refine z_aload 256 rfl rfl rfl ?_
      refine z_iload 257 rfl rfl rfl ?_
      refine z_iload 259 rfl rfl rfl ?_
      refine z_iload 261 rfl rfl rfl ?_
      refine z_cv3 264 rfl rfl hR.1 rfl (Nat.le_refl _) (Nat.le_refl _) ?_
      have hul : (y.1 ++ (ghW K H y.2).1).length ≤ 600 := by rw [List.length_append]; have := hbg (y.2); omega
      refine r_store (s := s3) hR hD (us := (y.1 ++ (ghW K H y.2).1)) (w := w) (st := (ghW K H y.2).2) (pn := pn) ⟨hws3.1, hws3.2.2.2.1, by exact hws3.2.2.2.2.2 rfl⟩ f62 gs3 f35 (by omega) (Or.inl rfl) (fun _ h s4 hR hF => ?_) (fun h9 => absurd h9 (by decide))
      refine z_ireti rfl (Nat.le_refl _) (Nat.le_refl _) ?_
      have e9 : wsX F K E H rule sg st0 [k0] none = (false, 1, (ghW K H y.2).2, [], (y.1 ++ (ghW K H y.2).1)) := by simp [wsX, wsL, e8]
      exact q0 1 _ _ _ e9 hul (by simp) h s3 s4 hR M3 f22 (f58) (fun j hj => absurd hj (Nat.not_lt_zero j)) hF
  · have M2 : KpM D s s2 := M1.k (hOs2.keep (by decide))
    have g22 : s2.1 22 = s.1 22 := (hOs2.1 22 (by decide)).1.trans h22
    have g35 : s2.1 35 = pn := (hOs2.1 35 (by decide)).1.trans h35
    have j53 : s2.2.2 53 D = P := by rw [(M2).2.1 53 rfl (by decide) (by decide)]; exact h53
    have j55 : s2.2.2 55 D = rule := by rw [(M2).2.1 55 rfl (by decide) (by decide)]; exact h55
    have j62 : s2.2.2 62 D = w := by rw [(M2).2.1 62 rfl (by decide) (by decide)]; exact h62
    refine z_istore 152 rfl rfl rfl rfl ?_
    refine z_aload 153 rfl rfl rfl ?_
    refine y_ga 156 hR rfl rfl rfl ?_
    refine z_iload 157 rfl rfl rfl ?_
    refine z_push 158 (nI 0) rfl rfl rfl ?_
    refine y_as (f := 58) 159 hR rfl rfl rfl rfl (by omega) ?_
    intro h hR
    refine z_iload 161 rfl rfl rfl ?_
    refine z_jne 164 rfl rfl (fun _ => ?_) (fun h9 => absurd h9 (by decide))
    refine z_iload 169 rfl rfl rfl ?_
    refine z_jne 172 rfl rfl (fun _ => ?_) (fun h9 => absurd h9 (by decide))
    refine z_iload 241 rfl rfl rfl ?_
    refine z_jne 244 rfl rfl (fun _ => ?_) (fun h9 => absurd h9 (by decide))
    refine z_aload 256 rfl rfl rfl ?_
    refine z_iload 257 rfl rfl rfl ?_
    refine z_iload 259 rfl rfl rfl ?_
    refine z_iload 261 rfl rfl rfl ?_
    refine z_cv3 264 rfl rfl hR.1 rfl (Nat.le_refl _) (Nat.le_refl _) ?_
    have hul : ([] : List Nat).length ≤ 600 := by decide
    refine r_store (s := (stA 58 D 0 s2)) hR hD (us := ([] : List Nat)) (w := w) (st := st0) (pn := pn) ⟨hws2.1, hws2.2.2.2.1, by show Seg (((stA 58 D 0 s2)).2.2 65) 0 _; rw [gAf (by decide)]; exact hws2.2.2.2.2.2 rfl⟩ (by rw [gAf (by decide)]; exact j62) (gs2.trans h34) g35 (by omega) (Or.inr (by decide)) (fun h9 => absurd h9 (by decide)) (fun _ h s4 hR hF => ?_)
    refine z_ireti rfl (Nat.le_refl _) (Nat.le_refl _) ?_
    have e9 : wsX F K E H rule sg st0 [k0] none = (true, 0, st0, [], ([] : List Nat)) := by simp [wsX, e8]
    exact q1 0 _ _ e9 hul h (stA 58 D 0 s2) s4 hR M2.s58 hF
