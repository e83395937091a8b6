/-! the class: misread -/
theorem bf_sp {l : List Pg} {p q : Int32} {Y : Int32 × Ab} {T : Ab} (h : ¬ bfI l p q = 0) : (if (0 ≤ p.toInt ∧ p.toInt < l.length) ∧ (0 ≤ q.toInt ∧ q.toInt < l.length) then (if pgC l p.toInt.toNat = true ∧ pgC l q.toInt.toNat = true then Y else (-5, T)) else (-1, T)) = (bfI l p q, T) := by
  unfold bfI at h ⊢
  by_cases e1 : (0 ≤ p.toInt ∧ p.toInt < l.length) ∧ (0 ≤ q.toInt ∧ q.toInt < l.length)
  · rw [if_pos e1] at h ⊢
    rw [if_pos e1]
    by_cases e2 : pgC l p.toInt.toNat = true ∧ pgC l q.toInt.toNat = true
    · rw [if_pos e2] at h; exact absurd rfl h
    · rw [if_neg e2, if_neg e2]
  · rw [if_neg e1, if_neg e1]
theorem bf_0 {l : List Pg} {p q : Int32} (h : bfI l p q = 0) : ((0 ≤ p.toInt ∧ p.toInt < l.length) ∧ (0 ≤ q.toInt ∧ q.toInt < l.length)) ∧ pgC l p.toInt.toNat = true ∧ pgC l q.toInt.toNat = true := by
  unfold bfI at h
  by_cases e1 : (0 ≤ p.toInt ∧ p.toInt < l.length) ∧ (0 ≤ q.toInt ∧ q.toInt < l.length)
  · rw [if_pos e1] at h
    by_cases e2 : pgC l p.toInt.toNat = true ∧ pgC l q.toInt.toNat = true
    · exact ⟨e1, e2⟩
    · rw [if_neg e2] at h; exact absurd h (by decide)
  · rw [if_neg e1] at h; exact absurd h (by decide)
theorem c_cnt {d : Nat} {t : mK} {Q : mP} {pc : Nat} {L : List (Option Value)} {h : mH} {a b : Nat} {x : Option Value} (e : a = b) (k : mZ d t 0 0 Q pc (L ++ [some (.int (nI a)), x]) [] h 0 0) : mZ d t 0 0 Q pc (L ++ [some (.int (nI b)), x]) [] h 0 0 := e ▸ k
set_option maxRecDepth 100000 in
theorem c_misread {d : Nat} {h : mH} {A : Ab} {pad : Nat → Nat} {sp : Option Nat} {res wrk : Nat} {p q9 : Int32} {Q : mP} (hC : CI h A pad sp res wrk) (hA : AbW A)  (q : ∀ h', CInv h' (sp_misread A p q9).2 → KpX h h' → Q (some (.int (sp_misread A p q9).1)) h') : mWP (d + 7) 132 [.ref 1, .int p, .int q9] h Q := by
  obtain ⟨c1, cr, cp, cb, cu, cq, cs, ck, cru, cm⟩ := id hC
  obtain ⟨cp0, ⟨pf, cp1, cp2⟩, cp3, cp4, cp5⟩ := id cp
  obtain ⟨hPB, hKb, hGd, hbb, hub, hsg1, hsg2, hFW, hFd⟩ := id hA
  obtain ⟨lw, hlw⟩ := cs.1
  obtain ⟨lb, hlb⟩ := cs.2.1
  refine z_in [some (.ref 1), some (.int p), some (.int q9), none, none, none, none, none, none] (by rfl) rfl rfl rfl ?_
  refine z_aload 1 rfl rfl rfl ?_
  refine z_iload 2 rfl rfl rfl ?_
  refine z_iload 3 rfl rfl rfl ?_
  refine z_cv2 6 rfl rfl (by first | exact c1 | exact cp1 | exact hC2.1 | exact dp1 | exact hC3.1 | fail "lk") rfl (Nat.le_refl _) (Nat.le_refl _) ?_
  refine c_bothClosedFinding hC ?_
  refine z_istore 7 rfl rfl rfl rfl ?_
  refine z_iload 8 rfl rfl rfl ?_
  first | refine z_ieq 11 rfl rfl (fun hc8 => ?_) (fun hc8 => ?_)
  · obtain ⟨⟨hr, hrq⟩, hcl, hclq⟩ := bf_0 hc8
    obtain ⟨P, hP, rfl, hp1, hp2⟩ := ixP cp0 (inR_t hr)
    obtain ⟨U, hU, rfl, hu1, hu2⟩ := ixP cp0 (inR_t hrq)
    rw [hp2] at hcl
    rw [hu2] at hclq
    refine z_aload 18 rfl rfl rfl ?_
    refine z_aload 19 rfl rfl rfl ?_
    refine z_get 22 rfl rfl (by first | exact c1 | exact cp1 | exact hC2.1 | exact dp1 | exact hC3.1 | fail "lk") rfl ?_
    refine z_iload 23 rfl rfl rfl ?_
    refine z_qld 24 rfl rfl (by first | exact c1 | exact cp1 | exact hC2.1 | exact dp1 | exact hC3.1 | fail "lk") (by decide) rfl (by omega) (by omega) (cp2 P hP) ?_
    refine z_push 25 (nI 3) rfl rfl rfl ?_
    refine z_aload 26 rfl rfl rfl ?_
    refine z_get 29 rfl rfl (by first | exact c1 | exact cp1 | exact hC2.1 | exact dp1 | exact hC3.1 | fail "lk") rfl ?_
    refine z_cv3 32 rfl rfl (by first | exact c1 | exact cp1 | exact hC2.1 | exact dp1 | exact hC3.1 | fail "lk") rfl (Nat.le_refl _) (Nat.le_refl _) ?_
    refine c_readAll hC hA hP hcl (by decide) (Or.inr ⟨rfl, rfl⟩) hlb (fun us fl hX h2 hC2 hw2 hr9 hF2 hs2 => ?_) (fun a us fl hX => absurd hX (rdPg_some hA hP (by decide)))
    obtain ⟨dp0, ⟨df, dp1, dp2⟩, dp3, dp4, dp5⟩ := id hC2.2.2.1
    obtain ⟨lw2, hlw2⟩ := hC2.2.2.2.2.2.2.1.1
    refine z_istore 34 rfl rfl rfl rfl ?_
    refine z_aload 35 rfl rfl rfl ?_
    refine z_aload 36 rfl rfl rfl ?_
    refine z_get 39 rfl rfl (by first | exact c1 | exact cp1 | exact hC2.1 | exact dp1 | exact hC3.1 | fail "lk") rfl ?_
    refine z_iload 40 rfl rfl rfl ?_
    refine z_qld 41 rfl rfl (by first | exact c1 | exact cp1 | exact hC2.1 | exact dp1 | exact hC3.1 | fail "lk") (by decide) rfl (by omega) (by omega) (dp2 U hU) ?_
    refine z_push 42 (nI 3) rfl rfl rfl ?_
    refine z_aload 43 rfl rfl rfl ?_
    refine z_get 46 rfl rfl (by first | exact c1 | exact cp1 | exact hC2.1 | exact dp1 | exact hC3.1 | fail "lk") rfl ?_
    refine z_cv3 49 rfl rfl (by first | exact c1 | exact cp1 | exact hC2.1 | exact dp1 | exact hC3.1 | fail "lk") rfl (Nat.le_refl _) (Nat.le_refl _) ?_
    refine c_readAll hC2 hA hU hclq (by decide) (Or.inl ⟨rfl, rfl⟩) hlw2 (fun us2 fl2 hX3 h3 hC3 hw4 hr99 hF3 hs3 => ?_) (fun a us fl hX => absurd hX (rdPg_some hA hU (by decide)))
    have hw3 : RwAt h3 11 2000 us := hw2.e (fun x x1 x2 => hF3 x (by omega) (by omega))
    have hm1 := hw3.2.1
    have hm2 := hw4.2.1
    obtain ⟨N, hN0, hN1, hN2, hN3⟩ := minN us.length us2.length
    obtain ⟨u1, u2, f1, u3, u4⟩ := id hw3
    obtain ⟨v1, v2, f2, v3, v4⟩ := id hw4
    have e2 : (rdPg A P 3).2.1 = us := by rw [hX]
    have e3 : (rdPg A U 3).2.1 = us2 := by rw [hX3]
    have vb1 : ∀ j, us.getD j 0 < 65536 := fun j => by rw [← e2]; exact getD_all (rdPg_ub (hPB P hP) hbb (nPt_lt hsg1)) (by decide) j
    have vb2 : ∀ j, us2.getD j 0 < 65536 := fun j => by rw [← e3]; exact getD_all (rdPg_ub (hPB U hU) hbb (nPt_lt hsg1)) (by decide) j
    have loop : ∀ D0, D0 ≤ 6000 → msC us us2 = D0 + cnt9 (neL us us2) N → ∀ m i fx, N < i + m → i ≤ N → mZ (d + 6) tk_132 0 0 Q 75 [some (.ref 1), some (.int (nI P)), some (.int (nI U)), some (.int fx), some (.int (nI us.length)), some (.int (nI us2.length)), some (.int (nI N)), some (.int (nI (D0 + cnt9 (neL us us2) i))), some (.int (nI i))] [] h3 0 0 := by
      intro D0 hD0 hms m
      induction m with
      | zero => intro i fx i1 i2; omega
      | succ m ih =>
        intro i fx i1 i2
        have hcn := cnt9_le (neL us us2) i
        have hi1 := vb1 i
        have hi2 := vb2 i
        refine z_iload 77 rfl rfl rfl ?_
        refine z_iload 79 rfl rfl rfl ?_
        refine z_nge 82 rfl rfl (by omega) (by omega) (fun hc79 => ?_) (fun hc79 => ?_)
        · refine z_iload 116 rfl rfl rfl ?_
          refine z_ireti rfl (Nat.le_refl _) (Nat.le_refl _) ?_
          obtain rfl : i = N := by omega
          have e9 : sp_misread A (nI P) (nI U) = (nI (msC us us2), A) := by
            rw [sp_misread, if_pos ⟨hr, hrq⟩, hp2, hu2, if_pos ⟨hcl, hclq⟩, e2, e3]
          rw [e9, hms] at q
          exact q h3 hC3.inv (KpX.trans (h1 := h2) ⟨fun x hx => hF2 x (by omega) (by omega), by rw [hs2]; exact Nat.le_refl _⟩ ⟨fun x hx => hF3 x (by omega) (by omega), by rw [hs3]; exact Nat.le_refl _⟩)
        · refine z_aload 83 rfl rfl rfl ?_
          refine z_get 86 rfl rfl (by first | exact hC3.1 | exact u1 | exact u3 | exact v1 | exact v3 | fail "lk") rfl ?_
          refine z_get 89 rfl rfl (by first | exact hC3.1 | exact u1 | exact u3 | exact v1 | exact v3 | fail "lk") rfl ?_
          refine z_iload 91 rfl rfl rfl ?_
          refine z_ald 92 rfl rfl (by first | exact hC3.1 | exact u1 | exact u3 | exact v1 | exact v3 | fail "lk") rfl (by omega) (by omega) ?_
          refine z_aload 93 rfl rfl rfl ?_
          refine z_get 96 rfl rfl (by first | exact hC3.1 | exact u1 | exact u3 | exact v1 | exact v3 | fail "lk") rfl ?_
          refine z_get 99 rfl rfl (by first | exact hC3.1 | exact u1 | exact u3 | exact v1 | exact v3 | fail "lk") rfl ?_
          refine z_iload 101 rfl rfl rfl ?_
          refine z_ald 102 rfl rfl (by first | exact hC3.1 | exact u1 | exact u3 | exact v1 | exact v3 | fail "lk") rfl (by omega) (by omega) ?_
          refine z_ceq 105 rfl rfl (fun hc102 => ?_) (fun hc102 => ?_)
          · refine z_iinc 111 _ rfl rfl rfl rfl (by first | with_reducible exact zi_1 _ | rfl) ?_
            refine z_goto rfl ?_
            have h9 := ih (i + 1) fx (by omega) (by omega)
            rw [show cnt9 (neL us us2) (i + 1) = cnt9 (neL us us2) i + 0 from by rw [cnt9, if_neg (by rw [u4 i (by omega), v4 i (by omega)] at hc102; rw [neL, decide_eq_true ((nI_eq (by omega) (by omega)).mp hc102)]; decide)]] at h9
            exact h9
          · refine z_iinc 108 _ rfl rfl rfl rfl (by first | with_reducible exact zi_1 _ | rfl) ?_
            refine z_iinc 111 _ rfl rfl rfl rfl (by first | with_reducible exact zi_1 _ | rfl) ?_
            refine z_goto rfl ?_
            have h9 := ih (i + 1) fx (by omega) (by omega)
            rw [show cnt9 (neL us us2) (i + 1) = cnt9 (neL us us2) i + 1 from by rw [cnt9, if_pos (by rw [neL, decide_eq_false (fun e9 => hc102 (by rw [u4 i (by omega), v4 i (by omega), e9]))]; rfl)]] at h9
            exact h9
    refine z_istore 51 rfl rfl rfl rfl ?_
    refine z_iload 53 rfl rfl rfl ?_
    refine z_iload 55 rfl rfl rfl ?_
    refine z_min 58 _ rfl rfl rfl (Nat.le_refl _) (Nat.le_refl _) (show _ = nI N from (zminN (by omega) (by omega)).trans (by rw [hN0])) ?_
    refine z_istore 60 rfl rfl rfl rfl ?_
    refine z_iload 62 rfl rfl rfl ?_
    refine z_iload 64 rfl rfl rfl ?_
    refine z_max 67 _ rfl rfl rfl (Nat.le_refl _) (Nat.le_refl _) (zmaxN (by omega) (by omega)) ?_
    refine z_iload 69 rfl rfl rfl ?_
    refine z_bop 70 _ rfl rfl (by first | with_reducible exact zb_1 (by omega) | exact zd_1 _ _) ?_
    refine z_istore 72 rfl rfl rfl rfl ?_
    refine z_push 73 (nI 0) rfl rfl rfl ?_
    refine z_istore 75 rfl rfl rfl rfl ?_
    rw [show max us.length us2.length - N = max us.length us2.length - N + cnt9 (neL us us2) 0 from rfl]
    exact loop _ (by omega) (by rw [msC, hN0]) (N + 1) 0 _ (by omega) (by omega)
  · refine z_aload 12 rfl rfl rfl ?_
    refine z_iload 13 rfl rfl rfl ?_
    refine z_cv1 16 rfl rfl (by first | exact c1 | exact cp1 | exact hC2.1 | exact dp1 | exact hC3.1 | fail "lk") rfl (Nat.le_refl _) (Nat.le_refl _) ?_
    refine c_ansN hC (bfI_n hc8) (fun h1 hC1 hX1 => ?_)
    refine z_ireti rfl (Nat.le_refl _) (Nat.le_refl _) ?_
    have e9 : sp_misread A p q9 = (bfI A.pgs p q9, A.tell) := bf_sp hc8
    rw [e9] at q
    exact q h1 hC1.inv hX1
