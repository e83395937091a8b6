/-! the class: findings -/
theorem inR_t {n : Nat} {p : Int32} (h : 0 ≤ p.toInt ∧ p.toInt < n) : inR n p = true := decide_eq_true h
theorem inR_f {n : Nat} {p : Int32} (h : ¬ (0 ≤ p.toInt ∧ p.toInt < n)) : inR n p = false := decide_eq_false h
theorem CI.pg {h : mH} {A : Ab} {pad : Nat → Nat} {sp : Option Nat} {res wrk P : Nat} (hC : CI h A pad sp res wrk) (hP : P < A.pgs.length) : ∃ m rc, h.2 (pad P) = oPg (pgK A.pgs P) (pgC A.pgs P) (pad P) m rc := (hC.2.2.1.2.2.1 P hP).2.2.hd
set_option maxRecDepth 100000 in
theorem c_isPage {d : Nat} {h : mH} {A : Ab} {pad : Nat → Nat} {sp : Option Nat} {res wrk : Nat} {p : Int32} {Q : mP} (hC : CI h A pad sp res wrk)  (q : Q (some (.int (bI (inR A.pgs.length p)))) h) : mWP (d + 1) 152 [.ref 1, .int p] h Q := by
  have hl := hC.2.2.1.1
  refine z_in [some (.ref 1), some (.int p)] (by rfl) rfl rfl rfl ?_
  refine z_iload 1 rfl rfl rfl ?_
  first | refine z_jlt 4 rfl rfl (fun hc1 => ?_) (fun hc1 => ?_)
  · refine z_push 17 (nI 0) rfl rfl rfl ?_
    refine z_iretb rfl (Nat.le_refl _) (Nat.le_refl _) (by first | decide | exact bI_01 _) ?_
    rw [inR_f (by omega)] at q
    exact q
  · refine z_iload 5 rfl rfl rfl ?_
    refine z_aload 6 rfl rfl rfl ?_
    refine z_get 9 rfl rfl hC.1 rfl ?_
    refine z_kge 12 rfl rfl (by omega) (fun hc9 => ?_) (fun hc9 => ?_)
    · refine z_push 17 (nI 0) rfl rfl rfl ?_
      refine z_iretb rfl (Nat.le_refl _) (Nat.le_refl _) (by first | decide | exact bI_01 _) ?_
      rw [inR_f (by omega)] at q
      exact q
    · refine z_push 13 (nI 1) rfl rfl rfl ?_
      refine z_goto rfl ?_
      refine z_iretb rfl (Nat.le_refl _) (Nat.le_refl _) (by first | decide | exact bI_01 _) ?_
      rw [inR_t (by omega)] at q
      exact q
set_option maxRecDepth 100000 in
theorem c_tableFinding {d : Nat} {h : mH} {A : Ab} {pad : Nat → Nat} {sp : Option Nat} {res wrk : Nat} {p : Int32} {Q : mP} (hC : CI h A pad sp res wrk) (hKb : ∀ P, P < A.pgs.length → pgK A.pgs P < 4)  (q : Q (some (.int (tfI A.pgs p))) h) : mWP (d + 2) 154 [.ref 1, .int p] h Q := by
  obtain ⟨c1, cr, cp, cb, cu, cq, cs, ck, cru, cm⟩ := id hC
  obtain ⟨cp0, ⟨pf, cp1, cp2⟩, cp3, cp4, cp5⟩ := id cp
  refine z_in [some (.ref 1), some (.int p)] (by rfl) rfl rfl rfl ?_
  refine z_aload 1 rfl rfl rfl ?_
  refine z_iload 2 rfl rfl rfl ?_
  refine z_cv1 5 rfl rfl (by first | exact c1 | exact cp1 | exact hpg | fail "lk") rfl (Nat.le_refl _) (Nat.le_refl _) ?_
  refine c_isPage hC ?_
  first | refine z_bne 8 rfl rfl (fun hc5 => ?_) (fun hc5 => ?_)
  · obtain ⟨P, hP, rfl, hp1, hp2⟩ := ixP cp0 hc5
    obtain ⟨m9, rc9, hpg⟩ := hC.pg hP
    have hK4 := hKb P hP
    refine z_aload 11 rfl rfl rfl ?_
    refine z_get 14 rfl rfl (by first | exact c1 | exact cp1 | exact hpg | fail "lk") rfl ?_
    refine z_iload 15 rfl rfl rfl ?_
    refine z_qld 16 rfl rfl (by first | exact c1 | exact cp1 | exact hpg | fail "lk") (by decide) rfl (by omega) (by omega) (cp2 P hP) ?_
    refine z_get 19 rfl rfl (by first | exact c1 | exact cp1 | exact hpg | fail "lk") rfl ?_
    first | refine z_zne 22 rfl rfl (by omega) (fun hc19 => ?_) (fun hc19 => ?_)
    · refine z_push 28 (-3) rfl rfl rfl ?_
      refine z_ireti rfl (Nat.le_refl _) (Nat.le_refl _) ?_
      rw [tfI, if_pos (by omega), hp2, if_neg hc19] at q
      exact q
    · refine z_push 23 (nI 0) rfl rfl rfl ?_
      refine z_goto rfl ?_
      refine z_ireti rfl (Nat.le_refl _) (Nat.le_refl _) ?_
      rw [tfI, if_pos (by omega), hp2, if_pos hc19] at q
      exact q
  · refine z_push 9 (-1) rfl rfl rfl ?_
    refine z_ireti rfl (Nat.le_refl _) (Nat.le_refl _) ?_
    rw [tfI, if_neg (of_decide_eq_false hc5)] at q
    exact q
set_option maxRecDepth 100000 in
theorem c_openTableFinding {d : Nat} {h : mH} {A : Ab} {pad : Nat → Nat} {sp : Option Nat} {res wrk : Nat} {p : Int32} {Q : mP} (hC : CI h A pad sp res wrk) (hKb : ∀ P, P < A.pgs.length → pgK A.pgs P < 4)  (q : Q (some (.int (fxA A.pgs p))) h) : mWP (d + 3) 155 [.ref 1, .int p] h Q := by
  obtain ⟨c1, cr, cp, cb, cu, cq, cs, ck, cru, cm⟩ := id hC
  obtain ⟨cp0, ⟨pf, cp1, cp2⟩, cp3, cp4, cp5⟩ := id cp
  refine z_in [some (.ref 1), some (.int p), none] (by rfl) rfl rfl rfl ?_
  refine z_aload 1 rfl rfl rfl ?_
  refine z_iload 2 rfl rfl rfl ?_
  refine z_cv1 5 rfl rfl (by first | exact c1 | exact cp1 | exact hpg | fail "lk") rfl (Nat.le_refl _) (Nat.le_refl _) ?_
  refine c_tableFinding hC hKb ?_
  by_cases hr : 0 ≤ p.toInt ∧ p.toInt < A.pgs.length
  rotate_left
  · rw [tfI, if_neg hr]
    rw [fxA, if_neg hr] at q
    refine z_istore 6 rfl rfl rfl rfl ?_
    refine z_iload 7 rfl rfl rfl ?_
    refine z_jne 10 rfl rfl (fun _ => ?_) (fun h9 => absurd h9 (by decide))
    refine z_iload 26 rfl rfl rfl ?_
    refine z_ireti rfl (Nat.le_refl _) (Nat.le_refl _) ?_
    exact q
  obtain ⟨P, hP, rfl, hp1, hp2⟩ := ixP cp0 (inR_t hr)
  obtain ⟨m9, rc9, hpg⟩ := hC.pg hP
  by_cases hk : pgK A.pgs P = 0
  rotate_left
  · rw [tfI, if_pos hr, hp2, if_neg hk]
    rw [fxA, if_pos hr, hp2, if_neg hk] at q
    refine z_istore 6 rfl rfl rfl rfl ?_
    refine z_iload 7 rfl rfl rfl ?_
    refine z_jne 10 rfl rfl (fun _ => ?_) (fun h9 => absurd h9 (by decide))
    refine z_iload 26 rfl rfl rfl ?_
    refine z_ireti rfl (Nat.le_refl _) (Nat.le_refl _) ?_
    exact q
  rw [tfI, if_pos hr, hp2, if_pos hk, show (0 : Int32) = nI 0 from rfl]
  rw [fxA, if_pos hr, hp2, if_pos hk] at q
  refine z_istore 6 rfl rfl rfl rfl ?_
  refine z_iload 7 rfl rfl rfl ?_
  refine z_zne 10 rfl rfl (by omega) (fun h9 => absurd h9 (by omega)) (fun _ => ?_)
  refine z_aload 11 rfl rfl rfl ?_
  refine z_get 14 rfl rfl (by first | exact c1 | exact cp1 | exact hpg | fail "lk") rfl ?_
  refine z_iload 15 rfl rfl rfl ?_
  refine z_qld 16 rfl rfl (by first | exact c1 | exact cp1 | exact hpg | fail "lk") (by decide) rfl (by omega) (by omega) (cp2 P hP) ?_
  refine z_get 19 rfl rfl (by first | exact c1 | exact cp1 | exact hpg | fail "lk") rfl ?_
  first | refine z_beq 22 rfl rfl (fun hc19 => ?_) (fun hc19 => ?_)
  · refine z_iload 26 rfl rfl rfl ?_
    refine z_ireti rfl (Nat.le_refl _) (Nat.le_refl _) ?_
    rw [if_neg (by rw [hc19]; decide)] at q
    exact q
  · refine z_push 24 (-4) rfl rfl rfl ?_
    refine z_ireti rfl (Nat.le_refl _) (Nat.le_refl _) ?_
    rw [if_pos hc19] at q
    exact q
set_option maxRecDepth 100000 in
theorem c_closedFinding {d : Nat} {h : mH} {A : Ab} {pad : Nat → Nat} {sp : Option Nat} {res wrk : Nat} {p : Int32} {Q : mP} (hC : CI h A pad sp res wrk)  (q : Q (some (.int (cfI A.pgs p))) h) : mWP (d + 2) 156 [.ref 1, .int p] h Q := by
  obtain ⟨c1, cr, cp, cb, cu, cq, cs, ck, cru, cm⟩ := id hC
  obtain ⟨cp0, ⟨pf, cp1, cp2⟩, cp3, cp4, cp5⟩ := id cp
  refine z_in [some (.ref 1), some (.int p)] (by rfl) rfl rfl rfl ?_
  refine z_aload 1 rfl rfl rfl ?_
  refine z_iload 2 rfl rfl rfl ?_
  refine z_cv1 5 rfl rfl (by first | exact c1 | exact cp1 | exact hpg | fail "lk") rfl (Nat.le_refl _) (Nat.le_refl _) ?_
  refine c_isPage hC ?_
  first | refine z_bne 8 rfl rfl (fun hc5 => ?_) (fun hc5 => ?_)
  · obtain ⟨P, hP, rfl, hp1, hp2⟩ := ixP cp0 hc5
    obtain ⟨m9, rc9, hpg⟩ := hC.pg hP
    refine z_aload 11 rfl rfl rfl ?_
    refine z_get 14 rfl rfl (by first | exact c1 | exact cp1 | exact hpg | fail "lk") rfl ?_
    refine z_iload 15 rfl rfl rfl ?_
    refine z_qld 16 rfl rfl (by first | exact c1 | exact cp1 | exact hpg | fail "lk") (by decide) rfl (by omega) (by omega) (cp2 P hP) ?_
    refine z_get 19 rfl rfl (by first | exact c1 | exact cp1 | exact hpg | fail "lk") rfl ?_
    first | refine z_beq 22 rfl rfl (fun hc19 => ?_) (fun hc19 => ?_)
    · refine z_push 28 (-5) rfl rfl rfl ?_
      refine z_ireti rfl (Nat.le_refl _) (Nat.le_refl _) ?_
      rw [cfI, if_pos (by omega), hp2, if_neg (by rw [hc19]; decide)] at q
      exact q
    · refine z_push 23 (nI 0) rfl rfl rfl ?_
      refine z_goto rfl ?_
      refine z_ireti rfl (Nat.le_refl _) (Nat.le_refl _) ?_
      rw [cfI, if_pos (by omega), hp2, if_pos hc19] at q
      exact q
  · refine z_push 9 (-1) rfl rfl rfl ?_
    refine z_ireti rfl (Nat.le_refl _) (Nat.le_refl _) ?_
    rw [cfI, if_neg (of_decide_eq_false hc5)] at q
    exact q
set_option maxRecDepth 100000 in
theorem c_bothClosedFinding {d : Nat} {h : mH} {A : Ab} {pad : Nat → Nat} {sp : Option Nat} {res wrk : Nat} {p q9 : Int32} {Q : mP} (hC : CI h A pad sp res wrk)  (q : Q (some (.int (bfI A.pgs p q9))) h) : mWP (d + 2) 157 [.ref 1, .int p, .int q9] h Q := by
  obtain ⟨c1, cr, cp, cb, cu, cq, cs, ck, cru, cm⟩ := id hC
  obtain ⟨cp0, ⟨pf, cp1, cp2⟩, cp3, cp4, cp5⟩ := id cp
  refine z_in [some (.ref 1), some (.int p), some (.int q9)] (by rfl) rfl rfl rfl ?_
  refine z_aload 1 rfl rfl rfl ?_
  refine z_iload 2 rfl rfl rfl ?_
  refine z_cv1 5 rfl rfl (by first | exact c1 | exact cp1 | exact hpg | exact hpg2 | fail "lk") rfl (Nat.le_refl _) (Nat.le_refl _) ?_
  refine c_isPage hC ?_
  first | refine z_beq 8 rfl rfl (fun hc5 => ?_) (fun hc5 => ?_)
  · refine z_push 17 (-1) rfl rfl rfl ?_
    refine z_ireti rfl (Nat.le_refl _) (Nat.le_refl _) ?_
    rw [bfI, if_neg (fun h9 => of_decide_eq_false hc5 h9.1)] at q
    exact q
  · refine z_aload 9 rfl rfl rfl ?_
    refine z_iload 10 rfl rfl rfl ?_
    refine z_cv1 13 rfl rfl (by first | exact c1 | exact cp1 | exact hpg | exact hpg2 | fail "lk") rfl (Nat.le_refl _) (Nat.le_refl _) ?_
    refine c_isPage hC ?_
    first | refine z_bne 16 rfl rfl (fun hc13 => ?_) (fun hc13 => ?_)
    · obtain ⟨P, hP, rfl, hp1, hp2⟩ := ixP cp0 hc5
      obtain ⟨P2, hP2, rfl, hp12, hp22⟩ := ixP cp0 hc13
      obtain ⟨m9, rc9, hpg⟩ := hC.pg hP
      obtain ⟨m8, rc8, hpg2⟩ := hC.pg hP2
      refine z_aload 19 rfl rfl rfl ?_
      refine z_get 22 rfl rfl (by first | exact c1 | exact cp1 | exact hpg | exact hpg2 | fail "lk") rfl ?_
      refine z_iload 23 rfl rfl rfl ?_
      refine z_qld 24 rfl rfl (by first | exact c1 | exact cp1 | exact hpg | exact hpg2 | fail "lk") (by decide) rfl (by omega) (by omega) (cp2 P hP) ?_
      refine z_get 27 rfl rfl (by first | exact c1 | exact cp1 | exact hpg | exact hpg2 | fail "lk") rfl ?_
      first | refine z_beq 30 rfl rfl (fun hc27 => ?_) (fun hc27 => ?_)
      · refine z_push 48 (-5) rfl rfl rfl ?_
        refine z_ireti rfl (Nat.le_refl _) (Nat.le_refl _) ?_
        rw [bfI, if_pos (by omega), hp2, hp22, if_neg (fun h9 => by rw [hc27] at h9; exact absurd h9.1 (by decide))] at q
        exact q
      · refine z_aload 31 rfl rfl rfl ?_
        refine z_get 34 rfl rfl (by first | exact c1 | exact cp1 | exact hpg | exact hpg2 | fail "lk") rfl ?_
        refine z_iload 35 rfl rfl rfl ?_
        refine z_qld 36 rfl rfl (by first | exact c1 | exact cp1 | exact hpg | exact hpg2 | fail "lk") (by decide) rfl (by omega) (by omega) (cp2 P2 hP2) ?_
        refine z_get 39 rfl rfl (by first | exact c1 | exact cp1 | exact hpg | exact hpg2 | fail "lk") rfl ?_
        first | refine z_beq 42 rfl rfl (fun hc39 => ?_) (fun hc39 => ?_)
        · refine z_push 48 (-5) rfl rfl rfl ?_
          refine z_ireti rfl (Nat.le_refl _) (Nat.le_refl _) ?_
          rw [bfI, if_pos (by omega), hp2, hp22, if_neg (fun h9 => by rw [hc39] at h9; exact absurd h9.2 (by decide))] at q
          exact q
        · refine z_push 43 (nI 0) rfl rfl rfl ?_
          refine z_goto rfl ?_
          refine z_ireti rfl (Nat.le_refl _) (Nat.le_refl _) ?_
          rw [bfI, if_pos (by omega), hp2, hp22, if_pos ⟨hc27, hc39⟩] at q
          exact q
    · refine z_push 17 (-1) rfl rfl rfl ?_
      refine z_ireti rfl (Nat.le_refl _) (Nat.le_refl _) ?_
      rw [bfI, if_neg (fun h9 => of_decide_eq_false hc13 h9.2)] at q
      exact q
def gfI (mcs : Nat → Option Mc) (d : Int32) : Int32 := if 0 ≤ d.toInt ∧ d.toInt ≤ 3 then (match mcs d.toInt.toNat with
  | none => -2
  | some m => if m.2.2.2.2.2.2.2.1 = 0 then 0 else -2) else -1
def phI : Option Mc → Int32
  | none => -1
  | some m => nI m.2.2.2.2.2.2.2.1
theorem McI.hd {h : mH} {a : Nat} {l : List Pg} {pad : Nat → Nat} {m : Option Mc} (x : McI h a l pad m) : ∃ wr k fed pl fi wt, h.2 a = oMc a wr (phI m) k fed pl fi wt := by
  cases m with
  | none =>
    obtain ⟨p, wr, rule, sr, pn, sw, ks, fed, pl, fi, x1⟩ := x
    exact ⟨_, _, _, _, _, _, x1.1⟩
  | some m =>
    obtain ⟨sr, sw, pl, fi, x1, x2⟩ := x
    exact ⟨_, _, _, _, _, _, x1.1⟩
theorem jSt_ix {d : Int32} (h : jState d = true) : ∃ D, D < 4 ∧ d = nI D ∧ d.toInt = D ∧ d.toInt.toNat = D := by
  have h1 := of_decide_eq_true h
  obtain ⟨W, a, b, c, e⟩ := ix_of (x := d) (n := 4) h1
  exact ⟨W, a, b, c, e⟩
set_option maxRecDepth 100000 in
theorem c_goingFinding {d : Nat} {h : mH} {A : Ab} {pad : Nat → Nat} {sp : Option Nat} {res wrk : Nat} {dd : Int32} {Q : mP} (hC : CI h A pad sp res wrk) (hmd : ∀ D m, A.mcs D = some m → m.2.2.2.2.2.2.2.1 ≤ 2)  (q : Q (some (.int (gfI A.mcs dd))) h) : mWP (d + 2) 158 [.ref 1, .int dd] h Q := by
  obtain ⟨c1, cr, cp, cb, cu, cq, cs, ck, cru, cm⟩ := id hC
  obtain ⟨cp0, ⟨pf, cp1, cp2⟩, cp3, cp4, cp5⟩ := id cp
  obtain ⟨⟨mf, cm1, cm2⟩, cm3⟩ := id cm
  refine z_in [some (.ref 1), some (.int dd)] (by rfl) rfl rfl rfl ?_
  refine z_iload 1 rfl rfl rfl ?_
  refine z_cs1 4 rfl rfl rfl (Nat.le_refl _) (Nat.le_refl _) ?_
  refine c_isMachine ?_
  first | refine z_bne 7 rfl rfl (fun hc4 => ?_) (fun hc4 => ?_)
  · obtain ⟨D, hD, rfl, hp1, hp2⟩ := jSt_ix hc4
    obtain ⟨wr9, k9, fed9, pl9, fi9, wt9, hmh⟩ := (cm3 D hD).hd
    refine z_aload 10 rfl rfl rfl ?_
    refine z_get 13 rfl rfl (by first | exact c1 | exact cm1 | exact hmh | fail "lk") rfl ?_
    refine z_iload 14 rfl rfl rfl ?_
    refine z_qld 15 rfl rfl (by first | exact c1 | exact cm1 | exact hmh | fail "lk") (by decide) rfl (by omega) (by omega) (cm2 D hD) ?_
    refine z_get 18 rfl rfl (by first | exact c1 | exact cm1 | exact hmh | fail "lk") rfl ?_
    first | refine z_ine 21 rfl rfl (fun hc18 => ?_) (fun hc18 => ?_)
    · refine z_push 27 (-2) rfl rfl rfl ?_
      refine z_ireti rfl (Nat.le_refl _) (Nat.le_refl _) ?_
      rw [gfI, if_pos (by omega), hp2] at q
      rcases hmm : A.mcs D with _ | m
      · rw [hmm] at q hc18
        exact q
      · rw [hmm] at q hc18
        have hmd9 := hmd D m hmm
        have hc9 : m.2.2.2.2.2.2.2.1 ≠ 0 := fun h9 => hc18 (by rw [phI, h9]; rfl)
        simp only [if_neg hc9] at q
        exact q
    · refine z_push 22 (nI 0) rfl rfl rfl ?_
      refine z_goto rfl ?_
      refine z_ireti rfl (Nat.le_refl _) (Nat.le_refl _) ?_
      rw [gfI, if_pos (by omega), hp2] at q
      rcases hmm : A.mcs D with _ | m
      · rw [hmm] at q hc18
        exact absurd hc18 (by decide)
      · rw [hmm] at q hc18
        have hmd9 := hmd D m hmm
        have hc9 : m.2.2.2.2.2.2.2.1 = 0 := (nI_iff (by omega) (by omega)).mp hc18
        simp only [if_pos hc9] at q
        exact q
  · refine z_push 8 (-1) rfl rfl rfl ?_
    refine z_ireti rfl (Nat.le_refl _) (Nat.le_refl _) ?_
    have h8 := of_decide_eq_false hc4
    rw [gfI, if_neg (by omega)] at q
    exact q
