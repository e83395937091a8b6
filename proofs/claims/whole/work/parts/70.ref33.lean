/-! the reference: reads -/
/-- what is kept is read: refused, state, pending, the bytes left, units -/
def rdK (K : Nat) (E : List En) (H : List Sh) (rule sg : Nat) (last : Bool) : Nat → Nat → Nat → List Nat → List Nat → Bool × Nat × Nat × List Nat × List Nat
  | 0, st, pn, ks, us => (false, st, pn, ks, us)
  | m + 1, st, pn, ks, us => if ks.length = 0 then (false, st, pn, ks, us) else
    if (rd1 K E H rule sg last st pn ks).1 = 0 then (decide ((rd1 K E H rule sg last st pn ks).2.2.2.2 = 1), (rd1 K E H rule sg last st pn ks).2.1, (rd1 K E H rule sg last st pn ks).2.2.1, ks, us)
    else rdK K E H rule sg last m (rd1 K E H rule sg last st pn ks).2.1 (rd1 K E H rule sg last st pn ks).2.2.1 (ks.drop (rd1 K E H rule sg last st pn ks).1) (us ++ (rd1 K E H rule sg last st pn ks).2.2.2.1)
def rdX (A : Ab) (m : Mc) (last : Bool) : Bool × Nat × Nat × List Nat × List Nat := rdK (pgK A.pgs m.1) (pgE A.pgs m.1) (pgH A.pgs m.1) m.2.2.1 A.sgn.1 last (m.2.2.2.2.2.1.length + 1) m.2.2.2.1 m.2.2.2.2.1 m.2.2.2.2.2.1 []
def sp_reads (A : Ab) (D : Nat) (m : Mc) (last : Bool) : Int32 × Ab :=
  if (rdX A m last).1 = true then (-9, ((A.wPlc (m.2.2.2.2.2.2.1 - (rdX A m last).2.2.2.1.length)).wMcs (setM A.mcs D (m.1, m.2.1, m.2.2.1, (rdX A m last).2.1, 4, [], m.2.2.2.2.2.2.1, 2, m.2.2.2.2.2.2.2.2 ++ (rdX A m last).2.2.2.2))).tell)
  else (nI (m.2.2.2.2.2.2.2.2.length + (rdX A m last).2.2.2.2.length), A.wMcs (setM A.mcs D (m.1, m.2.1, m.2.2.1, (rdX A m last).2.1, (rdX A m last).2.2.1, (rdX A m last).2.2.2.1, m.2.2.2.2.2.2.1, m.2.2.2.2.2.2.2.1, m.2.2.2.2.2.2.2.2 ++ (rdX A m last).2.2.2.2)))
set_option maxRecDepth 100000 in
theorem r_reads0 {d r : Nat} {h h0 : mH} {s : rS} {D P rule st0 pn0 fed sg K w : Nat} {last : Bool} {ks : List Nat} {E : List En} {H : List Sh} {Q : mP} (hR : Rf r h0 s h) (hD : D < 4) (hP : P < 11) (h53 : s.2.2 53 D = P) (h55 : s.2.2 55 D = rule) (h56 : s.2.2 56 D = st0) (h57 : s.2.2 57 D = pn0) (h58 : s.2.2 58 D = ks.length) (h59 : Seg (s.2.2 59) (8 * D) ks) (h60 : s.2.2 60 D = fed) (h62 : s.2.2 62 D = w) (hk8 : ks.length ≤ 8) (hk : s.2.2 1 P = K) (hK4 : K < 4) (hT : TbR s P E H) (hW : TbW E H) (hst : st0 < 4) (hpn : pn0 ≤ 4) (hru : rule < 4) (hsg : s.2.2 21 0 = sg) (hsgb : sg < 1114112) (hkb : ∀ j, ks.getD j 0 < 256) (hfk : ks.length ≤ fed) (hqw : w ≤ 300)  (q0 : ∀ st pn a us, rdK K E H rule sg last (ks.length + 1) st0 pn0 ks [] = (false, st, pn, ks.drop a, us) → us.length ≤ 2 * a → a ≤ ks.length → ∀ h' s1 s2 s3, Rf r h0 (stK D st pn (w + us.length) s3) h' → Keep s s1 → s1.1 22 = s.1 22 → CpK s1 s2 (8 * D) (ks.drop a).length (ks.drop a) → CpF (stA 58 D (ks.drop a).length s2) s3 (1200 * D + w) us.length us → Q (some (.int (nI (w + us.length)))) h') (q1 : ∀ st pn a us, rdK K E H rule sg last (ks.length + 1) st0 pn0 ks [] = (true, st, pn, ks.drop a, us) → us.length ≤ 2 * a → a ≤ ks.length → ∀ h' s1 s3, Rf r h0 (stR D st (w + us.length) (fed - ks.length + a) s3) h' → Keep s s1 → CpF s1 s3 (1200 * D + w) us.length us → Q (some (.int (-9))) h') : mWP (d + 6) 240 [.ref r, .int (nI D), .int (bI last)] h Q := by
  have tail : ∀ a st pn us s1 h n o5 o6, a ≤ ks.length → 0 ≤ n.toInt → us.length ≤ 2 * a → rdK K E H rule sg last (ks.length + 1) st0 pn0 ks [] = (false, st, pn, ks.drop a, us) → Rf r h0 s1 h → Keep s s1 → s1.1 22 = s.1 22 → s1.1 34 = st → s1.1 35 = pn → OutAt s1 65 us → Seg (s1.2.2 64) 0 ks → mZ (d + 5) tk_240 0 0 Q 72 [some (.ref r), some (.int (nI D)), some (.int (bI last)), some (.int (nI a)), some (.int n), o5, o6] [] h 0 0 := by
    intro a st pn us s1 h n o5 o6 hal hn hul hE hR hK h22 h34 h35 ho hks
    have k53 : s1.2.2 53 D = P := by rw [(hK 53 rfl).2]; exact h53
    have k55 : s1.2.2 55 D = rule := by rw [(hK 55 rfl).2]; exact h55
    have k58 : s1.2.2 58 D = ks.length := by rw [(hK 58 rfl).2]; exact h58
    have k60 : s1.2.2 60 D = fed := by rw [(hK 60 rfl).2]; exact h60
    have k62 : s1.2.2 62 D = w := by rw [(hK 62 rfl).2]; exact h62
    have hks' : ∀ j, j < ks.length → s1.2.2 64 j = ks.getD j 0 := fun j hj => by have := hks j hj; rw [Nat.zero_add] at this; exact this
    have copy : ∀ m9 i s2 h n, ks.length - a < i + m9 → i ≤ ks.length - a → Rf r h0 s2 h → 0 ≤ n.toInt → CpK s1 s2 (8 * D) i (ks.drop a) → mZ (d + 5) tk_240 0 0 Q 97 [some (.ref r), some (.int (nI D)), some (.int (bI last)), some (.int (nI a)), some (.int n), some (.int (nI (fed - ks.length + a))), some (.int (nI (a + i)))] [] h 0 0 := by
      intro m9
      induction m9 with
      | zero => intro i s2 h n h1 h2; omega
      | succ m9 ih =>
        intro i s2 h n h1 h2 hR hn hC
        have c58 : s2.2.2 58 D = ks.length := by rw [hC.2.2.1 58 (by decide)]; exact k58
        have c64 : i < ks.length - a → s2.2.2 64 (a + i) = (ks.drop a).getD i 0 := fun h9 => by rw [hC.2.2.1 64 (by decide), getD_drop9, hks' (a + i) (by omega)]
        refine z_iload 99 rfl rfl rfl ?_
        refine z_aload 100 rfl rfl rfl ?_
        refine y_ga 103 hR rfl rfl rfl ?_
        refine z_iload 104 rfl rfl rfl ?_
        refine y_al (f := 58) 105 _ hR rfl rfl rfl rfl (by omega) (by repeat (first | with_reducible exact c58 | with_reducible exact c64 (by omega) | with_reducible exact gA_eq _ _ _ _ | (with_reducible apply gA_ne; decide) | with_reducible apply gA_I | with_reducible apply gA_O | (with_reducible apply gA_nj; omega) | with_reducible rfl)) ?_
        refine z_nge 108 rfl rfl (by omega) (by omega) (fun hc105 => ?_) (fun hc105 => ?_)
        · refine z_aload 136 rfl rfl rfl ?_
          refine y_ga 139 hR rfl rfl rfl ?_
          refine z_iload 140 rfl rfl rfl ?_
          refine z_dup2 141 rfl rfl ?_
          refine y_al (f := 58) 142 _ hR rfl rfl rfl rfl (by omega) (by repeat (first | with_reducible exact c58 | with_reducible exact c64 (by omega) | with_reducible exact gA_eq _ _ _ _ | (with_reducible apply gA_ne; decide) | with_reducible apply gA_I | with_reducible apply gA_O | (with_reducible apply gA_nj; omega) | with_reducible rfl)) ?_
          refine z_iload 143 rfl rfl rfl ?_
          refine z_bop 144 _ rfl rfl (by first | with_reducible exact zb_1 (by omega) | exact zd_1 _ _) ?_
          refine y_as (f := 58) 145 hR rfl rfl rfl rfl (by omega) ?_
          intro h hR
          refine z_aload 146 rfl rfl rfl ?_
          refine z_iload 147 rfl rfl rfl ?_
          refine z_iload 149 rfl rfl rfl ?_
          refine z_jge 152 rfl rfl (fun _ => ?_) (fun h9 => absurd h9 (by omega))
          refine z_push 158 (nI 0) rfl rfl rfl ?_
          refine z_iload 160 rfl rfl rfl ?_
          refine z_cv3 163 rfl rfl hR.1 rfl (Nat.le_refl _) (Nat.le_refl _) ?_
          refine r_store hR hD (us := us) (w := w) (st := st) (pn := pn) ?_ ?_ ?_ ?_ (by omega) (Or.inl rfl) (fun _ h s3 hR hF => ?_) (fun h9 => absurd h9 (by decide))
          · exact ⟨hC.2.1.trans ho.1, (congrFun hC.1 37).trans ho.2.1, by show Seg (s2.2.2 65) 0 us; rw [hC.2.2.1 65 (by decide)]; exact ho.2.2⟩
          · show (stA 58 D _ s2).2.2 62 D = w
            rw [gAf (by decide), hC.2.2.1 62 (by decide)]; exact k62
          · exact (congrFun hC.1 34).trans h34
          · exact (congrFun hC.1 35).trans h35
          refine z_ireti rfl (Nat.le_refl _) (Nat.le_refl _) ?_
          obtain rfl : i = ks.length - a := by omega
          rw [← List.length_drop] at hC hF
          exact q0 st pn a us hE hul hal h s1 s2 s3 hR hK h22 hC hF
        · refine z_aload 109 rfl rfl rfl ?_
          refine y_ga 112 hR rfl rfl rfl ?_
          refine z_push 114 (nI 8) rfl rfl rfl ?_
          refine z_iload 115 rfl rfl rfl ?_
          refine z_bop 116 _ rfl rfl (by first | with_reducible exact zb_2 _ _ | exact zd_2 _ _) ?_
          refine z_iload 118 rfl rfl rfl ?_
          refine z_bop 119 _ rfl rfl (by first | with_reducible exact zb_0 _ _ | exact zd_0 _ _) ?_
          refine z_iload 120 rfl rfl rfl ?_
          refine z_bop 121 _ rfl rfl (by first | with_reducible exact zb_1 (by omega) | exact zd_1 _ _) ?_
          refine z_aload 122 rfl rfl rfl ?_
          refine y_ga 125 hR rfl rfl rfl ?_
          refine z_iload 127 rfl rfl rfl ?_
          refine y_al (f := 64) 128 _ hR rfl rfl rfl rfl (by omega) (by repeat (first | with_reducible exact c58 | with_reducible exact c64 (by omega) | with_reducible exact gA_eq _ _ _ _ | (with_reducible apply gA_ne; decide) | with_reducible apply gA_I | with_reducible apply gA_O | (with_reducible apply gA_nj; omega) | with_reducible rfl)) ?_
          refine y_as (f := 59) 129 hR rfl rfl rfl (by rw [show 8 * D + (a + i) - a = 8 * D + i by omega]) (by omega) ?_
          intro h hR
          refine z_iinc 132 _ rfl rfl rfl rfl (by first | with_reducible exact zi_1 _ | rfl) ?_
          refine z_goto rfl ?_
          exact ih (i + 1) _ h n (by omega) (by omega) hR hn hC.s1
    refine z_aload 73 rfl rfl rfl ?_
    refine y_ga 76 hR rfl rfl rfl ?_
    refine z_iload 77 rfl rfl rfl ?_
    refine y_al (f := 60) 78 _ hR rfl rfl rfl rfl (by omega) (by repeat (first | with_reducible exact k58 | with_reducible exact k60 | with_reducible exact gA_eq _ _ _ _ | (with_reducible apply gA_ne; decide) | with_reducible apply gA_I | with_reducible apply gA_O | (with_reducible apply gA_nj; omega) | with_reducible rfl)) ?_
    refine z_aload 79 rfl rfl rfl ?_
    refine y_ga 82 hR rfl rfl rfl ?_
    refine z_iload 83 rfl rfl rfl ?_
    refine y_al (f := 58) 84 _ hR rfl rfl rfl rfl (by omega) (by repeat (first | with_reducible exact k58 | with_reducible exact k60 | with_reducible exact gA_eq _ _ _ _ | (with_reducible apply gA_ne; decide) | with_reducible apply gA_I | with_reducible apply gA_O | (with_reducible apply gA_nj; omega) | with_reducible rfl)) ?_
    refine z_bop 85 _ rfl rfl (by first | with_reducible exact zb_1 (by omega) | exact zd_1 _ _) ?_
    refine z_iload 86 rfl rfl rfl ?_
    refine z_bop 87 _ rfl rfl (by first | with_reducible exact zb_0 _ _ | exact zd_0 _ _) ?_
    refine z_istore 89 rfl rfl rfl rfl ?_
    refine z_iload 91 rfl rfl rfl ?_
    refine z_jlt 94 rfl rfl (fun h9 => absurd h9 (by omega)) (fun _ => ?_)
    refine z_iload 95 rfl rfl rfl ?_
    refine z_istore 97 rfl rfl rfl rfl ?_
    exact copy (ks.length + 1) 0 s1 h n (by omega) (by omega) hR hn CpK.z
  have tailN : ∀ a st pn us s1 h o5 o6, a ≤ ks.length → us.length ≤ 2 * a → rdK K E H rule sg last (ks.length + 1) st0 pn0 ks [] = (true, st, pn, ks.drop a, us) → Rf r h0 s1 h → Keep s s1 → s1.1 22 = s.1 22 → s1.1 34 = st → s1.1 35 = pn → OutAt s1 65 us → Seg (s1.2.2 64) 0 ks → mZ (d + 5) tk_240 0 0 Q 72 [some (.ref r), some (.int (nI D)), some (.int (bI last)), some (.int (nI a)), some (.int (-9)), o5, o6] [] h 0 0 := by
    intro a st pn us s1 h o5 o6 hal hul hE hR hK h22 h34 h35 ho hks
    have k53 : s1.2.2 53 D = P := by rw [(hK 53 rfl).2]; exact h53
    have k55 : s1.2.2 55 D = rule := by rw [(hK 55 rfl).2]; exact h55
    have k58 : s1.2.2 58 D = ks.length := by rw [(hK 58 rfl).2]; exact h58
    have k60 : s1.2.2 60 D = fed := by rw [(hK 60 rfl).2]; exact h60
    have k62 : s1.2.2 62 D = w := by rw [(hK 62 rfl).2]; exact h62
    refine z_aload 73 rfl rfl rfl ?_
    refine y_ga 76 hR rfl rfl rfl ?_
    refine z_iload 77 rfl rfl rfl ?_
    refine y_al (f := 60) 78 _ hR rfl rfl rfl rfl (by omega) (by repeat (first | with_reducible exact k58 | with_reducible exact k60 | with_reducible exact gA_eq _ _ _ _ | (with_reducible apply gA_ne; decide) | with_reducible apply gA_I | with_reducible apply gA_O | (with_reducible apply gA_nj; omega) | with_reducible rfl)) ?_
    refine z_aload 79 rfl rfl rfl ?_
    refine y_ga 82 hR rfl rfl rfl ?_
    refine z_iload 83 rfl rfl rfl ?_
    refine y_al (f := 58) 84 _ hR rfl rfl rfl rfl (by omega) (by repeat (first | with_reducible exact k58 | with_reducible exact k60 | with_reducible exact gA_eq _ _ _ _ | (with_reducible apply gA_ne; decide) | with_reducible apply gA_I | with_reducible apply gA_O | (with_reducible apply gA_nj; omega) | with_reducible rfl)) ?_
    refine z_bop 85 _ rfl rfl (by first | with_reducible exact zb_1 (by omega) | exact zd_1 _ _) ?_
    refine z_iload 86 rfl rfl rfl ?_
    refine z_bop 87 _ rfl rfl (by first | with_reducible exact zb_0 _ _ | exact zd_0 _ _) ?_
    refine z_istore 89 rfl rfl rfl rfl ?_
    refine z_iload 91 rfl rfl rfl ?_
    refine z_jlt 94 rfl rfl (fun _ => ?_) (fun h9 => absurd h9 (by decide))
    refine z_aload 146 rfl rfl rfl ?_
    refine z_iload 147 rfl rfl rfl ?_
    refine z_iload 149 rfl rfl rfl ?_
    refine z_jge 152 rfl rfl (fun h9 => absurd h9 (by decide)) (fun _ => ?_)
    refine z_iload 154 rfl rfl rfl ?_
    refine z_goto rfl ?_
    refine z_iload 160 rfl rfl rfl ?_
    refine z_cv3 163 rfl rfl hR.1 rfl (Nat.le_refl _) (Nat.le_refl _) ?_
    refine r_store hR hD (us := us) ho k62 h34 h35 (by omega) (Or.inr (by decide)) (fun h9 => absurd h9 (by decide)) (fun _ h s3 hR hF => ?_)
    refine z_ireti rfl (Nat.le_refl _) (Nat.le_refl _) ?_
    exact q1 st pn a us hE hul hal h s1 s3 hR hK hF
  have loop : ∀ m9 a st pn us s1 h n o5 o6, (ks.drop a).length < m9 → a ≤ ks.length → 0 < n.toInt → st < 4 → pn ≤ 4 → us.length ≤ 2 * a → rdK K E H rule sg last (ks.length + 1) st0 pn0 ks [] = rdK K E H rule sg last m9 st pn (ks.drop a) us → Rf r h0 s1 h → Keep s s1 → s1.1 22 = s.1 22 → s1.1 34 = st → s1.1 35 = pn → OutAt s1 65 us → Seg (s1.2.2 64) 0 ks → mZ (d + 5) tk_240 0 0 Q 10 [some (.ref r), some (.int (nI D)), some (.int (bI last)), some (.int (nI a)), some (.int n), o5, o6] [] h 0 0 := by
    intro m9
    induction m9 with
    | zero => intro a st pn us s1 h n o5 o6 h1; omega
    | succ m9 ih =>
      intro a st pn us s1 h n o5 o6 h1 hal hn hst hpn hul hE hR hK h22 h34 h35 ho hks
      have k53 : s1.2.2 53 D = P := by rw [(hK 53 rfl).2]; exact h53
      have k55 : s1.2.2 55 D = rule := by rw [(hK 55 rfl).2]; exact h55
      have k58 : s1.2.2 58 D = ks.length := by rw [(hK 58 rfl).2]; exact h58
      have k60 : s1.2.2 60 D = fed := by rw [(hK 60 rfl).2]; exact h60
      have k62 : s1.2.2 62 D = w := by rw [(hK 62 rfl).2]; exact h62
      have hdl : (ks.drop a).length = ks.length - a := List.length_drop
      have k64 := hks.drop a
      have hT1 := hT.k hK
      have hk1 : s1.2.2 1 P = K := by rw [(hK 1 rfl).2]; exact hk
      have hsg1 : s1.2.2 21 0 = sg := by rw [(hK 21 rfl).2]; exact hsg
      have hb1 : ByAt s1 64 a (ks.drop a) := ⟨k64, fun j => by rw [getD_drop9]; exact hkb _⟩
      refine z_iload 11 rfl rfl rfl ?_
      refine z_aload 12 rfl rfl rfl ?_
      refine y_ga 15 hR rfl rfl rfl ?_
      refine z_iload 16 rfl rfl rfl ?_
      refine y_al (f := 58) 17 _ hR rfl rfl rfl rfl (by omega) (by repeat (first | with_reducible exact k58 | with_reducible exact k53 | with_reducible exact k55 | with_reducible exact g58 | with_reducible exact gA_eq _ _ _ _ | (with_reducible apply gA_ne; decide) | with_reducible apply gA_I | with_reducible apply gA_O | (with_reducible apply gA_nj; omega) | with_reducible rfl)) ?_
      refine z_nge 20 rfl rfl (by omega) (by omega) (fun hc17 => ?_) (fun hc17 => ?_)
      · exact tail a st pn us s1 h n o5 o6 hal (by omega) hul (by rw [hE, rdK, if_pos (by omega)]) hR hK h22 h34 h35 ho hks
      · refine z_iload 22 rfl rfl rfl ?_
        refine z_jle 25 rfl rfl (fun h9 => absurd h9 (by omega)) (fun _ => ?_)
        refine z_aload 26 rfl rfl rfl ?_
        refine z_aload 27 rfl rfl rfl ?_
        refine y_ga 30 hR rfl rfl rfl ?_
        refine z_iload 31 rfl rfl rfl ?_
        refine y_al (f := 53) 32 _ hR rfl rfl rfl rfl (by omega) (by repeat (first | with_reducible exact k58 | with_reducible exact k53 | with_reducible exact k55 | with_reducible exact g58 | with_reducible exact gA_eq _ _ _ _ | (with_reducible apply gA_ne; decide) | with_reducible apply gA_I | with_reducible apply gA_O | (with_reducible apply gA_nj; omega) | with_reducible rfl)) ?_
        refine z_aload 33 rfl rfl rfl ?_
        refine y_ga 36 hR rfl rfl rfl ?_
        refine z_iload 37 rfl rfl rfl ?_
        refine y_al (f := 55) 38 _ hR rfl rfl rfl rfl (by omega) (by repeat (first | with_reducible exact k58 | with_reducible exact k53 | with_reducible exact k55 | with_reducible exact g58 | with_reducible exact gA_eq _ _ _ _ | (with_reducible apply gA_ne; decide) | with_reducible apply gA_I | with_reducible apply gA_O | (with_reducible apply gA_nj; omega) | with_reducible rfl)) ?_
        refine z_aload 39 rfl rfl rfl ?_
        refine y_ga 42 hR rfl rfl rfl ?_
        refine z_iload 43 rfl rfl rfl ?_
        refine z_aload 44 rfl rfl rfl ?_
        refine y_ga 47 hR rfl rfl rfl ?_
        refine z_iload 48 rfl rfl rfl ?_
        refine y_al (f := 58) 49 _ hR rfl rfl rfl rfl (by omega) (by repeat (first | with_reducible exact k58 | with_reducible exact k53 | with_reducible exact k55 | with_reducible exact g58 | with_reducible exact gA_eq _ _ _ _ | (with_reducible apply gA_ne; decide) | with_reducible apply gA_I | with_reducible apply gA_O | (with_reducible apply gA_nj; omega) | with_reducible rfl)) ?_
        refine z_iload 50 rfl rfl rfl ?_
        refine z_cv6 53 rfl rfl hR.1 rfl (Nat.le_refl _) (Nat.le_refl _) ?_
        have ee : ks.length = a + (ks.drop a).length := by omega
        rw [ee]
        refine r_readOne (last := last) hR hP hk1 hK4 hT1 hW h34 h35 hst hpn hru hsg1 hsgb rfl ho rfl (by omega) (by decide) (by decide) (by decide) rfl hb1 (by omega) (by omega) (by decide) (fun h s2 hR hO g34 g35 g39 ho2 => ?_)
        clear g39
        obtain ⟨b1, b2, b3, b4, b5, b6, b7⟩ := rd1_b (K := K) (rule := rule) (sg := sg) (last := last) hW hb1.2 (by omega) hst hpn
        have hK2 := hK.trans (hO.keep (by decide))
        have g22 : s2.1 22 = s.1 22 := (hO.1 22 (by decide)).1.trans h22
        have g64 : Seg (s2.2.2 64) 0 ks := by rw [(hO.1 64 (by decide)).2]; exact hks
        have g58 : s2.2.2 58 D = ks.length := by rw [(hK2 58 rfl).2]; exact h58
        rcases (by omega : ((rd1 K E H rule sg last st pn (ks.drop a)).1 = 0 ∧ (rd1 K E H rule sg last st pn (ks.drop a)).2.2.2.2 = 1) ∨ ((rd1 K E H rule sg last st pn (ks.drop a)).1 = 0 ∧ (rd1 K E H rule sg last st pn (ks.drop a)).2.2.2.2 = 0) ∨ 1 ≤ (rd1 K E H rule sg last st pn (ks.drop a)).1) with hx | hx | hx
        · have eI : rI (rd1 K E H rule sg last st pn (ks.drop a)) = -9 := if_pos hx
          rw [eI]
          refine z_istore 55 rfl rfl rfl rfl ?_
          refine z_iload 56 rfl rfl rfl ?_
          refine z_iload 58 rfl rfl rfl ?_
          refine z_jle 61 rfl rfl (fun _ => ?_) (fun h9 => absurd h9 (by decide))
          refine z_push 67 (nI 0) rfl rfl rfl ?_
          refine z_bop 68 _ rfl rfl (by first | with_reducible exact zb_0 _ _ | exact zd_0 _ _) ?_
          refine z_istore 69 rfl rfl rfl rfl ?_
          refine z_goto rfl ?_
          refine z_iload 11 rfl rfl rfl ?_
          refine z_aload 12 rfl rfl rfl ?_
          refine y_ga 15 hR rfl rfl rfl ?_
          refine z_iload 16 rfl rfl rfl ?_
          refine y_al (f := 58) 17 _ hR rfl rfl rfl rfl (by omega) (by repeat (first | with_reducible exact k58 | with_reducible exact k53 | with_reducible exact k55 | with_reducible exact g58 | with_reducible exact gA_eq _ _ _ _ | (with_reducible apply gA_ne; decide) | with_reducible apply gA_I | with_reducible apply gA_O | (with_reducible apply gA_nj; omega) | with_reducible rfl)) ?_
          refine z_nge 20 rfl rfl (by omega) (by omega) (fun h9 => absurd h9 (by omega)) (fun _ => ?_)
          refine z_iload 22 rfl rfl rfl ?_
          refine z_jle 25 rfl rfl (fun _ => ?_) (fun h9 => absurd h9 (by decide))
          rw [b6 hx.1, List.append_nil] at ho2
          exact tailN a _ _ us s2 h o5 o6 hal hul (by rw [hE, rdK, if_neg (by omega), if_pos hx.1, decide_eq_true hx.2]) hR hK2 g22 g34 g35 ho2 g64
        · have eI : rI (rd1 K E H rule sg last st pn (ks.drop a)) = nI 0 := by rw [rI, if_neg (by omega), hx.1]
          rw [eI]
          refine z_istore 55 rfl rfl rfl rfl ?_
          refine z_iload 56 rfl rfl rfl ?_
          refine z_iload 58 rfl rfl rfl ?_
          refine z_zle 61 rfl rfl (by omega) (fun _ => ?_) (fun h9 => absurd h9 (by omega))
          refine z_push 67 (nI 0) rfl rfl rfl ?_
          refine z_bop 68 _ rfl rfl (by first | with_reducible exact zb_0 _ _ | exact zd_0 _ _) ?_
          refine z_istore 69 rfl rfl rfl rfl ?_
          refine z_goto rfl ?_
          refine z_iload 11 rfl rfl rfl ?_
          refine z_aload 12 rfl rfl rfl ?_
          refine y_ga 15 hR rfl rfl rfl ?_
          refine z_iload 16 rfl rfl rfl ?_
          refine y_al (f := 58) 17 _ hR rfl rfl rfl rfl (by omega) (by repeat (first | with_reducible exact k58 | with_reducible exact k53 | with_reducible exact k55 | with_reducible exact g58 | with_reducible exact gA_eq _ _ _ _ | (with_reducible apply gA_ne; decide) | with_reducible apply gA_I | with_reducible apply gA_O | (with_reducible apply gA_nj; omega) | with_reducible rfl)) ?_
          refine z_nge 20 rfl rfl (by omega) (by omega) (fun h9 => absurd h9 (by omega)) (fun _ => ?_)
          refine z_iload 22 rfl rfl rfl ?_
          refine z_zle 25 rfl rfl (by omega) (fun _ => ?_) (fun h9 => absurd h9 (by omega))
          rw [b6 hx.1, List.append_nil] at ho2
          exact tail a _ _ us s2 h (nI 0) o5 o6 hal (by decide) hul (by rw [hE, rdK, if_neg (by omega), if_pos hx.1, decide_eq_false (by omega)]) hR hK2 g22 g34 g35 ho2 g64
        · have eI : rI (rd1 K E H rule sg last st pn (ks.drop a)) = nI (rd1 K E H rule sg last st pn (ks.drop a)).1 := if_neg (fun h9 => by omega)
          rw [eI]
          have hm9 : (nI (rd1 K E H rule sg last st pn (ks.drop a)).1).toInt = ((rd1 K E H rule sg last st pn (ks.drop a)).1 : Int) := nI_toInt (by omega)
          refine z_istore 55 rfl rfl rfl rfl ?_
          refine z_iload 56 rfl rfl rfl ?_
          refine z_iload 58 rfl rfl rfl ?_
          refine z_jle 61 rfl rfl (fun h9 => absurd h9 (by omega)) (fun _ => ?_)
          refine z_iload 63 rfl rfl rfl ?_
          refine z_goto rfl ?_
          refine z_bop 68 _ rfl rfl (by first | with_reducible exact zb_0 _ _ | exact zd_0 _ _) ?_
          refine z_istore 69 rfl rfl rfl rfl ?_
          refine z_goto rfl ?_
          refine ih (a + (rd1 K E H rule sg last st pn (ks.drop a)).1) _ _ _ s2 h _ _ _ ?_ (by omega) (by omega) b2 b3 ?_ ?_ hR hK2 g22 g34 g35 ho2 g64
          · rw [List.length_drop]; omega
          · rw [List.length_append]; omega
          · rw [hE, rdK, if_neg (by omega), if_neg (by omega), List.drop_drop]
  refine z_in [some (.ref r), some (.int (nI D)), some (.int (bI last)), none, none, none, none] (by rfl) rfl rfl rfl ?_
  refine z_aload 1 rfl rfl rfl ?_
  refine z_iload 2 rfl rfl rfl ?_
  refine z_cv1 5 rfl rfl hR.1 rfl (Nat.le_refl _) (Nat.le_refl _) ?_
  refine r_load hR hD h56 h57 h58 h59 hk8 (fun h s1 hR hK hfa ho h22 h34 h35 h37 h38 hks => ?_)
  refine z_push 6 (nI 0) rfl rfl rfl ?_
  refine z_istore 7 rfl rfl rfl rfl ?_
  refine z_push 8 (nI 1) rfl rfl rfl ?_
  refine z_istore 10 rfl rfl rfl rfl ?_
  have ho1 : OutAt s1 65 [] := ⟨ho, h37, fun j hj => absurd hj (Nat.not_lt_zero j)⟩
  have h01 : 0 < (nI 1).toInt := by rw [nI_toInt (by decide)]; decide
  exact loop (ks.length + 1) 0 st0 pn0 [] s1 h (nI 1) none none (Nat.lt_succ_self ks.length) (Nat.zero_le _) h01 hst hpn (Nat.zero_le _) rfl hR hK h22 h34 h35 ho1 hks
