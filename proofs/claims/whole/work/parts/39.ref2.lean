/-! the reference: looking up entries and shifts, copying them -/
theorem sh_e (k : Nat) (hk : k < 32) : ((nI k &&& 31).toBitVec.smod 32).toNat = k := by
  have : ∀ k, k < 32 → ((nI k &&& 31).toBitVec.smod 32).toNat = k := by decide +kernel
  exact this k hk
theorem shr_n {a : Nat} (ha : a < 2 ^ 31) (k : Nat) (hk : k < 32) : mBop 7 (nI a) (nI k) = nI (a / 2 ^ k) := pk_shrN ha (nI k &&& 31) k (sh_e k hk)
theorem shl_n {a : Nat} (k : Nat) (hk : k < 32) (hb : a * 2 ^ k < 2 ^ 32) : mBop 6 (nI a) (nI k) = nI (a * 2 ^ k) := pk_shlN (nI k &&& 31) k (sh_e k hk) hb
theorem or_n {a b k : Nat} (ha : a % 2 ^ k = 0) (hb : b < 2 ^ k) : mBop 4 (nI a) (nI b) = nI (a + b) := by
  show nI a ||| nI b = _
  rw [nI_or]
  congr 1
  obtain ⟨c, rfl⟩ : ∃ c, a = 2 ^ k * c := ⟨a / 2 ^ k, by rw [Nat.mul_comm, Nat.div_mul_cancel (Nat.dvd_of_mod_eq_zero ha)]⟩
  exact (Nat.two_pow_add_eq_or_of_lt hb c).symm
set_option maxRecDepth 10000 in
theorem r_entryOf {d r : Nat} {h h0 : mH} {s : rS} {p st tx n : Nat} {E : List En} {H : List Sh} {Q : mP} (hR : Rf r h0 s h) (hT : TbR s p E H) (hW : TbW E H) (hst : st < 2 ^ 31) (htx : tx < 2 ^ 31) (hn : n < 2 ^ 31)  (q : Q (some (.int (oIb (100 * p) (ffd (eQ E st tx n) E.length 0)))) h) : mWP (d + 1) 184 [.ref r, .int (nI p), .int (nI st), .int (nI tx), .int (nI n)] h Q := by
  obtain ⟨hp, hT3, hT4, hTe, hTs⟩ := hT
  have hl := hW.1
  have loop : ∀ m i, E.length < i + m → i ≤ E.length → ffd (eQ E st tx n) E.length 0 = ffd (eQ E st tx n) (E.length - i) i → mZ d tk_184 0 0 Q 6 [some (.ref r), some (.int (nI p)), some (.int (nI st)), some (.int (nI tx)), some (.int (nI n)), some (.int (nI (100 * p + i)))] [] h 0 0 := by
    intro m
    induction m with
    | zero => intro i h1 h2; omega
    | succ m ih =>
      intro i h1 h2 hI
      have hW3 := hW.2.2.1 i
      have hW4 := fun hi => hW.tx (k := i) hi
      refine z_iload 8 rfl rfl rfl ?_
      refine z_push 10 (nI 100) rfl rfl rfl ?_
      refine z_iload 11 rfl rfl rfl ?_
      refine z_bop 12 _ rfl rfl (by first | with_reducible exact zb_2 _ _ | exact zd_2 _ _) ?_
      refine z_aload 13 rfl rfl rfl ?_
      refine y_ga 16 hR rfl rfl rfl ?_
      refine z_iload 17 rfl rfl rfl ?_
      refine y_al (f := 3) 18 _ hR rfl rfl rfl rfl (by omega) (by repeat (first | with_reducible exact hT3 | with_reducible exact (hTe i (by omega)).1 | with_reducible exact (hTe i (by omega)).2.1 | with_reducible exact (hTe i (by omega)).2.2.1 | with_reducible exact gA_eq _ _ _ _ | (with_reducible apply gA_ne; decide) | with_reducible apply gA_I | with_reducible apply gA_O | (with_reducible apply gA_nj; omega) | with_reducible rfl)) ?_
      refine z_bop 19 _ rfl rfl (by first | with_reducible exact zb_0 _ _ | exact zd_0 _ _) ?_
      refine z_nge 22 rfl rfl (by omega) (by omega) (fun hc19 => ?_) (fun hc19 => ?_)
      · refine z_push 66 (-1) rfl rfl rfl ?_
        refine z_ireti rfl (Nat.le_refl _) (Nat.le_refl _) ?_
        rw [hI, show E.length - i = 0 by omega] at q
        exact q
      · have hW5 := hW3 (by omega)
        have hW6 := hW4 (by omega)
        refine z_aload 23 rfl rfl rfl ?_
        refine y_ga 26 hR rfl rfl rfl ?_
        refine z_iload 28 rfl rfl rfl ?_
        refine y_al (f := 5) 29 _ hR rfl rfl rfl rfl (by omega) (by repeat (first | with_reducible exact hT3 | with_reducible exact (hTe i (by omega)).1 | with_reducible exact (hTe i (by omega)).2.1 | with_reducible exact (hTe i (by omega)).2.2.1 | with_reducible exact gA_eq _ _ _ _ | (with_reducible apply gA_ne; decide) | with_reducible apply gA_I | with_reducible apply gA_O | (with_reducible apply gA_nj; omega) | with_reducible rfl)) ?_
        refine z_iload 30 rfl rfl rfl ?_
        refine z_nne 33 rfl rfl (by omega) (by omega) (fun hc30 => ?_) (fun hc30 => ?_)
        · refine z_iinc 62 _ rfl rfl rfl rfl (by first | with_reducible exact zi_1 _ | rfl) ?_
          refine z_goto rfl ?_
          refine ih (i + 1) (by omega) (by omega) ?_
          rw [hI, ffd_no (by omega) ?_]
          first | (simp [eQ, hc30]; done) | (simp [eQ, hc42]; done) | (simp [eQ, hc53]; done)
        · refine z_aload 34 rfl rfl rfl ?_
          refine y_ga 37 hR rfl rfl rfl ?_
          refine z_iload 39 rfl rfl rfl ?_
          refine y_al (f := 6) 40 _ hR rfl rfl rfl rfl (by omega) (by repeat (first | with_reducible exact hT3 | with_reducible exact (hTe i (by omega)).1 | with_reducible exact (hTe i (by omega)).2.1 | with_reducible exact (hTe i (by omega)).2.2.1 | with_reducible exact gA_eq _ _ _ _ | (with_reducible apply gA_ne; decide) | with_reducible apply gA_I | with_reducible apply gA_O | (with_reducible apply gA_nj; omega) | with_reducible rfl)) ?_
          refine z_iload 42 rfl rfl rfl ?_
          refine z_nne 45 rfl rfl (by omega) (by omega) (fun hc42 => ?_) (fun hc42 => ?_)
          · refine z_iinc 62 _ rfl rfl rfl rfl (by first | with_reducible exact zi_1 _ | rfl) ?_
            refine z_goto rfl ?_
            refine ih (i + 1) (by omega) (by omega) ?_
            rw [hI, ffd_no (by omega) ?_]
            first | (simp [eQ, hc30]; done) | (simp [eQ, hc42]; done) | (simp [eQ, hc53]; done)
          · refine z_aload 46 rfl rfl rfl ?_
            refine y_ga 49 hR rfl rfl rfl ?_
            refine z_iload 51 rfl rfl rfl ?_
            refine y_al (f := 7) 52 _ hR rfl rfl rfl rfl (by omega) (by repeat (first | with_reducible exact hT3 | with_reducible exact (hTe i (by omega)).1 | with_reducible exact (hTe i (by omega)).2.1 | with_reducible exact (hTe i (by omega)).2.2.1 | with_reducible exact gA_eq _ _ _ _ | (with_reducible apply gA_ne; decide) | with_reducible apply gA_I | with_reducible apply gA_O | (with_reducible apply gA_nj; omega) | with_reducible rfl)) ?_
            refine z_iload 53 rfl rfl rfl ?_
            refine z_nne 56 rfl rfl (by omega) (by omega) (fun hc53 => ?_) (fun hc53 => ?_)
            · refine z_iinc 62 _ rfl rfl rfl rfl (by first | with_reducible exact zi_1 _ | rfl) ?_
              refine z_goto rfl ?_
              refine ih (i + 1) (by omega) (by omega) ?_
              rw [hI, ffd_no (by omega) ?_]
              first | (simp [eQ, hc30]; done) | (simp [eQ, hc42]; done) | (simp [eQ, hc53]; done)
            · refine z_iload 58 rfl rfl rfl ?_
              refine z_ireti rfl (Nat.le_refl _) (Nat.le_refl _) ?_
              rw [hI, ffd_yes (by omega) (by simp [eQ, hc30, hc42, hc53])] at q
              exact q
  refine z_in [some (.ref r), some (.int (nI p)), some (.int (nI st)), some (.int (nI tx)), some (.int (nI n)), none] (by rfl) rfl rfl rfl ?_
  refine z_push 2 (nI 100) rfl rfl rfl ?_
  refine z_iload 3 rfl rfl rfl ?_
  refine z_bop 4 _ rfl rfl (by first | with_reducible exact zb_2 _ _ | exact zd_2 _ _) ?_
  refine z_istore 6 rfl rfl rfl rfl ?_
  exact loop (E.length + 1) 0 (by omega) (by omega) (by rw [Nat.sub_zero])
set_option maxRecDepth 10000 in
theorem r_shiftOf {d r : Nat} {h h0 : mH} {s : rS} {p st b : Nat} {E : List En} {H : List Sh} {Q : mP} (hR : Rf r h0 s h) (hT : TbR s p E H) (hW : TbW E H) (hst : st < 2 ^ 31) (htx : b < 2 ^ 31)  (q : Q (some (.int (oIb (10 * p) (ffd (sQ H st b) H.length 0)))) h) : mWP (d + 1) 185 [.ref r, .int (nI p), .int (nI st), .int (nI b)] h Q := by
  obtain ⟨hp, hT3, hT4, hTe, hTs⟩ := hT
  have hl := hW.2.1
  have loop : ∀ m i, H.length < i + m → i ≤ H.length → ffd (sQ H st b) H.length 0 = ffd (sQ H st b) (H.length - i) i → mZ d tk_185 0 0 Q 6 [some (.ref r), some (.int (nI p)), some (.int (nI st)), some (.int (nI b)), some (.int (nI (10 * p + i)))] [] h 0 0 := by
    intro m
    induction m with
    | zero => intro i h1 h2; omega
    | succ m ih =>
      intro i h1 h2 hI
      have hW3 := hW.2.2.2 i
      refine z_iload 8 rfl rfl rfl ?_
      refine z_push 10 (nI 10) rfl rfl rfl ?_
      refine z_iload 11 rfl rfl rfl ?_
      refine z_bop 12 _ rfl rfl (by first | with_reducible exact zb_2 _ _ | exact zd_2 _ _) ?_
      refine z_aload 13 rfl rfl rfl ?_
      refine y_ga 16 hR rfl rfl rfl ?_
      refine z_iload 17 rfl rfl rfl ?_
      refine y_al (f := 4) 18 _ hR rfl rfl rfl rfl (by omega) (by repeat (first | with_reducible exact hT4 | with_reducible exact (hTs i (by omega)).1 | with_reducible exact (hTs i (by omega)).2.1 | with_reducible exact gA_eq _ _ _ _ | (with_reducible apply gA_ne; decide) | with_reducible apply gA_I | with_reducible apply gA_O | (with_reducible apply gA_nj; omega) | with_reducible rfl)) ?_
      refine z_bop 19 _ rfl rfl (by first | with_reducible exact zb_0 _ _ | exact zd_0 _ _) ?_
      refine z_nge 22 rfl rfl (by omega) (by omega) (fun hc19 => ?_) (fun hc19 => ?_)
      · refine z_push 54 (-1) rfl rfl rfl ?_
        refine z_ireti rfl (Nat.le_refl _) (Nat.le_refl _) ?_
        rw [hI, show H.length - i = 0 by omega] at q
        exact q
      · have hW5 := hW3 (by omega)
        refine z_aload 23 rfl rfl rfl ?_
        refine y_ga 26 hR rfl rfl rfl ?_
        refine z_iload 28 rfl rfl rfl ?_
        refine y_al (f := 10) 29 _ hR rfl rfl rfl rfl (by omega) (by repeat (first | with_reducible exact hT4 | with_reducible exact (hTs i (by omega)).1 | with_reducible exact (hTs i (by omega)).2.1 | with_reducible exact gA_eq _ _ _ _ | (with_reducible apply gA_ne; decide) | with_reducible apply gA_I | with_reducible apply gA_O | (with_reducible apply gA_nj; omega) | with_reducible rfl)) ?_
        refine z_iload 30 rfl rfl rfl ?_
        refine z_nne 33 rfl rfl (by omega) (by omega) (fun hc30 => ?_) (fun hc30 => ?_)
        · refine z_iinc 50 _ rfl rfl rfl rfl (by first | with_reducible exact zi_1 _ | rfl) ?_
          refine z_goto rfl ?_
          refine ih (i + 1) (by omega) (by omega) ?_
          rw [hI, ffd_no (by omega) ?_]
          first | (simp [sQ, hc30]; done) | (simp [sQ, hc41]; done)
        · refine z_aload 34 rfl rfl rfl ?_
          refine y_ga 37 hR rfl rfl rfl ?_
          refine z_iload 39 rfl rfl rfl ?_
          refine y_al (f := 11) 40 _ hR rfl rfl rfl rfl (by omega) (by repeat (first | with_reducible exact hT4 | with_reducible exact (hTs i (by omega)).1 | with_reducible exact (hTs i (by omega)).2.1 | with_reducible exact gA_eq _ _ _ _ | (with_reducible apply gA_ne; decide) | with_reducible apply gA_I | with_reducible apply gA_O | (with_reducible apply gA_nj; omega) | with_reducible rfl)) ?_
          refine z_iload 41 rfl rfl rfl ?_
          refine z_nne 44 rfl rfl (by omega) (by omega) (fun hc41 => ?_) (fun hc41 => ?_)
          · refine z_iinc 50 _ rfl rfl rfl rfl (by first | with_reducible exact zi_1 _ | rfl) ?_
            refine z_goto rfl ?_
            refine ih (i + 1) (by omega) (by omega) ?_
            rw [hI, ffd_no (by omega) ?_]
            first | (simp [sQ, hc30]; done) | (simp [sQ, hc41]; done)
          · refine z_iload 46 rfl rfl rfl ?_
            refine z_ireti rfl (Nat.le_refl _) (Nat.le_refl _) ?_
            rw [hI, ffd_yes (by omega) (by simp [sQ, hc30, hc41])] at q
            exact q
  refine z_in [some (.ref r), some (.int (nI p)), some (.int (nI st)), some (.int (nI b)), none] (by rfl) rfl rfl rfl ?_
  refine z_push 2 (nI 10) rfl rfl rfl ?_
  refine z_iload 3 rfl rfl rfl ?_
  refine z_bop 4 _ rfl rfl (by first | with_reducible exact zb_2 _ _ | exact zd_2 _ _) ?_
  refine z_istore 6 rfl rfl rfl rfl ?_
  exact loop (H.length + 1) 0 (by omega) (by omega) (by rw [Nat.sub_zero])
def cpE (a b : Nat) (s : rS) : rS := stA 9 b (s.2.2 9 a) (stA 8 b (s.2.2 8 a) (stA 7 b (s.2.2 7 a) (stA 6 b (s.2.2 6 a) (stA 5 b (s.2.2 5 a) s))))
def cpS (a b : Nat) (s : rS) : rS := stA 13 b (s.2.2 13 a) (stA 12 b (s.2.2 12 a) (stA 11 b (s.2.2 11 a) (stA 10 b (s.2.2 10 a) s)))
set_option maxRecDepth 10000 in
theorem r_copyEntry {d r : Nat} {h h0 : mH} {s : rS} {a b : Nat} {Q : mP} (hR : Rf r h0 s h) (ha : a < 1100) (hb : b < 1100) (h9 : s.2.2 9 a < 2)  (q : ∀ h', Rf r h0 (cpE a b s) h' → Q none h') : mWP (d + 1) 179 [.ref r, .int (nI a), .int (nI b)] h Q := by
  refine z_in [some (.ref r), some (.int (nI a)), some (.int (nI b))] (by rfl) rfl rfl rfl ?_
  refine z_aload 1 rfl rfl rfl ?_
  refine y_ga 4 hR rfl rfl rfl ?_
  refine z_iload 5 rfl rfl rfl ?_
  refine z_aload 6 rfl rfl rfl ?_
  refine y_ga 9 hR rfl rfl rfl ?_
  refine z_iload 10 rfl rfl rfl ?_
  refine y_al (f := 5) 11 _ hR rfl rfl rfl rfl (by omega) (by repeat (first | with_reducible exact gA_eq _ _ _ _ | (with_reducible apply gA_ne; decide) | with_reducible apply gA_I | with_reducible apply gA_O | (with_reducible apply gA_nj; omega) | with_reducible rfl)) ?_
  refine y_as (f := 5) 12 hR rfl rfl rfl rfl (by omega) ?_
  intro h hR
  refine z_aload 13 rfl rfl rfl ?_
  refine y_ga 16 hR rfl rfl rfl ?_
  refine z_iload 17 rfl rfl rfl ?_
  refine z_aload 18 rfl rfl rfl ?_
  refine y_ga 21 hR rfl rfl rfl ?_
  refine z_iload 22 rfl rfl rfl ?_
  refine y_al (f := 6) 23 _ hR rfl rfl rfl rfl (by omega) (by repeat (first | with_reducible exact gA_eq _ _ _ _ | (with_reducible apply gA_ne; decide) | with_reducible apply gA_I | with_reducible apply gA_O | (with_reducible apply gA_nj; omega) | with_reducible rfl)) ?_
  refine y_as (f := 6) 24 hR rfl rfl rfl rfl (by omega) ?_
  intro h hR
  refine z_aload 25 rfl rfl rfl ?_
  refine y_ga 28 hR rfl rfl rfl ?_
  refine z_iload 29 rfl rfl rfl ?_
  refine z_aload 30 rfl rfl rfl ?_
  refine y_ga 33 hR rfl rfl rfl ?_
  refine z_iload 34 rfl rfl rfl ?_
  refine y_al (f := 7) 35 _ hR rfl rfl rfl rfl (by omega) (by repeat (first | with_reducible exact gA_eq _ _ _ _ | (with_reducible apply gA_ne; decide) | with_reducible apply gA_I | with_reducible apply gA_O | (with_reducible apply gA_nj; omega) | with_reducible rfl)) ?_
  refine y_as (f := 7) 36 hR rfl rfl rfl rfl (by omega) ?_
  intro h hR
  refine z_aload 37 rfl rfl rfl ?_
  refine y_ga 40 hR rfl rfl rfl ?_
  refine z_iload 41 rfl rfl rfl ?_
  refine z_aload 42 rfl rfl rfl ?_
  refine y_ga 45 hR rfl rfl rfl ?_
  refine z_iload 46 rfl rfl rfl ?_
  refine y_al (f := 8) 47 _ hR rfl rfl rfl rfl (by omega) (by repeat (first | with_reducible exact gA_eq _ _ _ _ | (with_reducible apply gA_ne; decide) | with_reducible apply gA_I | with_reducible apply gA_O | (with_reducible apply gA_nj; omega) | with_reducible rfl)) ?_
  refine y_as (f := 8) 48 hR rfl rfl rfl rfl (by omega) ?_
  intro h hR
  refine z_aload 49 rfl rfl rfl ?_
  refine y_ga 52 hR rfl rfl rfl ?_
  refine z_iload 53 rfl rfl rfl ?_
  refine z_aload 54 rfl rfl rfl ?_
  refine y_ga 57 hR rfl rfl rfl ?_
  refine z_iload 58 rfl rfl rfl ?_
  refine y_bl (f := 9) 59 _ hR rfl rfl rfl rfl (by omega) (by repeat (first | with_reducible exact gA_eq _ _ _ _ | (with_reducible apply gA_ne; decide) | with_reducible apply gA_I | with_reducible apply gA_O | (with_reducible apply gA_nj; omega) | with_reducible rfl)) ?_
  refine y_bs (f := 9) 60 hR rfl rfl rfl rfl (by omega) h9 ?_
  intro h hR
  refine z_vret rfl (Nat.le_refl _) (Nat.le_refl _) ?_
  exact q h hR
set_option maxRecDepth 10000 in
theorem r_copyShift {d r : Nat} {h h0 : mH} {s : rS} {a b : Nat} {Q : mP} (hR : Rf r h0 s h) (ha : a < 110) (hb : b < 110) (h9 : s.2.2 13 a < 2)  (q : ∀ h', Rf r h0 (cpS a b s) h' → Q none h') : mWP (d + 1) 180 [.ref r, .int (nI a), .int (nI b)] h Q := by
  refine z_in [some (.ref r), some (.int (nI a)), some (.int (nI b))] (by rfl) rfl rfl rfl ?_
  refine z_aload 1 rfl rfl rfl ?_
  refine y_ga 4 hR rfl rfl rfl ?_
  refine z_iload 5 rfl rfl rfl ?_
  refine z_aload 6 rfl rfl rfl ?_
  refine y_ga 9 hR rfl rfl rfl ?_
  refine z_iload 10 rfl rfl rfl ?_
  refine y_al (f := 10) 11 _ hR rfl rfl rfl rfl (by omega) (by repeat (first | with_reducible exact gA_eq _ _ _ _ | (with_reducible apply gA_ne; decide) | with_reducible apply gA_I | with_reducible apply gA_O | (with_reducible apply gA_nj; omega) | with_reducible rfl)) ?_
  refine y_as (f := 10) 12 hR rfl rfl rfl rfl (by omega) ?_
  intro h hR
  refine z_aload 13 rfl rfl rfl ?_
  refine y_ga 16 hR rfl rfl rfl ?_
  refine z_iload 17 rfl rfl rfl ?_
  refine z_aload 18 rfl rfl rfl ?_
  refine y_ga 21 hR rfl rfl rfl ?_
  refine z_iload 22 rfl rfl rfl ?_
  refine y_al (f := 11) 23 _ hR rfl rfl rfl rfl (by omega) (by repeat (first | with_reducible exact gA_eq _ _ _ _ | (with_reducible apply gA_ne; decide) | with_reducible apply gA_I | with_reducible apply gA_O | (with_reducible apply gA_nj; omega) | with_reducible rfl)) ?_
  refine y_as (f := 11) 24 hR rfl rfl rfl rfl (by omega) ?_
  intro h hR
  refine z_aload 25 rfl rfl rfl ?_
  refine y_ga 28 hR rfl rfl rfl ?_
  refine z_iload 29 rfl rfl rfl ?_
  refine z_aload 30 rfl rfl rfl ?_
  refine y_ga 33 hR rfl rfl rfl ?_
  refine z_iload 34 rfl rfl rfl ?_
  refine y_al (f := 12) 35 _ hR rfl rfl rfl rfl (by omega) (by repeat (first | with_reducible exact gA_eq _ _ _ _ | (with_reducible apply gA_ne; decide) | with_reducible apply gA_I | with_reducible apply gA_O | (with_reducible apply gA_nj; omega) | with_reducible rfl)) ?_
  refine y_as (f := 12) 36 hR rfl rfl rfl rfl (by omega) ?_
  intro h hR
  refine z_aload 37 rfl rfl rfl ?_
  refine y_ga 40 hR rfl rfl rfl ?_
  refine z_iload 41 rfl rfl rfl ?_
  refine z_aload 42 rfl rfl rfl ?_
  refine y_ga 45 hR rfl rfl rfl ?_
  refine z_iload 46 rfl rfl rfl ?_
  refine y_bl (f := 13) 47 _ hR rfl rfl rfl rfl (by omega) (by repeat (first | with_reducible exact gA_eq _ _ _ _ | (with_reducible apply gA_ne; decide) | with_reducible apply gA_I | with_reducible apply gA_O | (with_reducible apply gA_nj; omega) | with_reducible rfl)) ?_
  refine y_bs (f := 13) 48 hR rfl rfl rfl rfl (by omega) h9 ?_
  intro h hR
  refine z_vret rfl (Nat.le_refl _) (Nat.le_refl _) ?_
  exact q h hR
set_option maxRecDepth 10000 in
theorem r_put {d r : Nat} {h h0 : mH} {s : rS} {o kk nn n v : Nat} {Q : mP} (hR : Rf r h0 s h) (ho : s.2.1 = o) (ha : rArr o = some (kk, 0, nn)) (hn : s.1 37 = n) (hl : n < nn)  (q : ∀ h', Rf r h0 (stI 37 (n + 1) (stA o n v s)) h' → Q none h') : mWP (d + 1) 210 [.ref r, .int (nI v)] h Q := by
  refine z_in [some (.ref r), some (.int (nI v))] (by rfl) rfl rfl rfl ?_
  refine z_aload 1 rfl rfl rfl ?_
  refine y_go 4 hR rfl rfl (by repeat (first | with_reducible exact gO_eq _ _ | with_reducible apply gO_I | with_reducible apply gO_A | with_reducible exact hn | with_reducible exact ho | with_reducible rfl)) ha ?_
  refine z_aload 5 rfl rfl rfl ?_
  refine y_gi 8 _ hR rfl rfl rfl rfl rfl (by repeat (first | with_reducible exact gI_eq _ _ _ | (with_reducible apply gI_ne; decide) | with_reducible apply gI_A | with_reducible apply gI_O | with_reducible exact hn | with_reducible exact ho | with_reducible rfl)) ?_
  refine z_iload 9 rfl rfl rfl ?_
  refine y_as (f := o) 10 hR rfl rfl ha rfl (by omega) ?_
  intro h hR
  refine z_aload 11 rfl rfl rfl ?_
  first | refine z_dup 12 rfl rfl ?_ | refine z_dupi 12 rfl rfl ?_
  refine y_gi 15 _ hR rfl rfl rfl rfl rfl (by repeat (first | with_reducible exact gI_eq _ _ _ | (with_reducible apply gI_ne; decide) | with_reducible apply gI_A | with_reducible apply gI_O | with_reducible exact hn | with_reducible exact ho | with_reducible rfl)) ?_
  refine z_push 16 (nI 1) rfl rfl rfl ?_
  refine z_bop 17 _ rfl rfl (by first | with_reducible exact zb_0 _ _ | exact zd_0 _ _) ?_
  refine y_pi 20 hR rfl rfl rfl rfl rfl (mFi rfl) ?_
  intro h hR
  refine z_vret rfl (Nat.le_refl _) (Nat.le_refl _) ?_
  exact q h hR
set_option maxRecDepth 10000 in
theorem r_first {d : Nat} {h : mH} {p : Nat} {Q : mP} (h1 : 65536 ≤ p) (h2 : p < 1114112)  (q : Q (some (.int (nI (55296 + (p - 65536) / 1024)))) h) : mWP (d + 1) 202 [.int (nI p)] h Q := by
  refine z_in [some (.int (nI p))] (by rfl) rfl rfl rfl ?_
  refine z_push 2 (nI 55296) rfl rfl rfl ?_
  refine z_iload 3 rfl rfl rfl ?_
  refine z_push 5 (nI 65536) rfl rfl rfl ?_
  refine z_bop 6 _ rfl rfl (by first | with_reducible exact zb_1 (by omega) | exact zd_1 _ _) ?_
  refine z_push 8 (nI 10) rfl rfl rfl ?_
  refine z_bop 9 _ rfl rfl (shr_n (by omega) 10 (by decide)) ?_
  refine z_bop 10 _ rfl rfl (by first | with_reducible exact zb_0 _ _ | exact zd_0 _ _) ?_
  refine z_ireti rfl (Nat.le_refl _) (Nat.le_refl _) ?_
  exact q
set_option maxRecDepth 10000 in
theorem r_second {d : Nat} {h : mH} {p : Nat} {Q : mP} (h1 : 65536 ≤ p) (h2 : p < 1114112)  (q : Q (some (.int (nI (56320 + (p - 65536) % 1024)))) h) : mWP (d + 1) 203 [.int (nI p)] h Q := by
  refine z_in [some (.int (nI p))] (by rfl) rfl rfl rfl ?_
  refine z_push 2 (nI 56320) rfl rfl rfl ?_
  refine z_iload 3 rfl rfl rfl ?_
  refine z_push 5 (nI 65536) rfl rfl rfl ?_
  refine z_bop 6 _ rfl rfl (by first | with_reducible exact zb_1 (by omega) | exact zd_1 _ _) ?_
  refine z_push 9 (nI 1023) rfl rfl rfl ?_
  refine z_bop 10 _ rfl rfl (pk_andN (by omega) 10 rfl) ?_
  refine z_bop 11 _ rfl rfl (by first | with_reducible exact zb_0 _ _ | exact zd_0 _ _) ?_
  refine z_ireti rfl (Nat.le_refl _) (Nat.le_refl _) ?_
  exact q
set_option maxRecDepth 10000 in
theorem r_turned {d : Nat} {h : mH} {u : Nat} {Q : mP} (h1 : u < 65536)  (q : Q (some (.int (nI (u % 256 * 256 + u / 256)))) h) : mWP (d + 1) 204 [.int (nI u)] h Q := by
  refine z_in [some (.int (nI u))] (by rfl) rfl rfl rfl ?_
  refine z_iload 1 rfl rfl rfl ?_
  refine z_push 4 (nI 255) rfl rfl rfl ?_
  refine z_bop 5 _ rfl rfl (pk_andN (by omega) 8 rfl) ?_
  refine z_push 7 (nI 8) rfl rfl rfl ?_
  refine z_bop 8 _ rfl rfl (shl_n 8 (by decide) (by omega)) ?_
  refine z_iload 9 rfl rfl rfl ?_
  refine z_push 11 (nI 8) rfl rfl rfl ?_
  refine z_bop 12 _ rfl rfl (shr_n (by omega) 8 (by decide)) ?_
  refine z_bop 13 _ rfl rfl (or_n (k := 8) (by omega) (by omega)) ?_
  refine z_ireti rfl (Nat.le_refl _) (Nat.le_refl _) ?_
  exact q
