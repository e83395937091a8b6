/-! the law -/
theorem lw_len {Ls : Nat} (h : Ls ≤ 3072) : (nI Ls - nI 6).toInt = (Ls : Int) - 6 := by
  by_cases h6 : 6 ≤ Ls
  · rw [show nI Ls - nI 6 = nI (Ls - 6) from zb_1 h6, nI_toInt (by omega)]; omega
  · rcases (show Ls = 0 ∨ Ls = 1 ∨ Ls = 2 ∨ Ls = 3 ∨ Ls = 4 ∨ Ls = 5 by omega) with rfl | rfl | rfl | rfl | rfl | rfl <;> decide
set_option maxRecDepth 100000 in
theorem lw_sw {Ls i nc ns : Nat} {xs : Nat → Int32} {h : mH} {A : Ab} {Q : mP} (V : Int32) (hI : LI Ls xs h A) (hi : i + 6 ≤ Ls) (hLs : Ls ≤ 3072) (hnc : nc + 20 ≤ 600000) (hns : ns + 1863 ≤ 7302250) (ih : ∀ h' A' nc' ns', LI Ls xs h' A' → nc' ≤ nc + 20 → ns' ≤ ns + 1863 → mZ 80 tk_262 600000 7302250 Q 1278 [some (.ref 0), some (.ref 1), some (.ref 96), some (.int (nI i))] [] h' nc' ns') : mZ 80 tk_262 600000 7302250 Q 33 [some (.ref 0), some (.ref 1), some (.ref 96), some (.int (nI i))] [.int V] h nc ns := by
  by_cases hsw : 0 ≤ V.toInt ∧ V.toInt < 31
  · obtain ⟨j9, hj9, hx9⟩ : ∃ j9 : Nat, j9 < 31 ∧ V.toInt = (j9 : Int) := ⟨V.toInt.toNat, by omega, by omega⟩
    have h9 : j9 = 0 ∨ j9 = 1 ∨ j9 = 2 ∨ j9 = 3 ∨ j9 = 4 ∨ j9 = 5 ∨ j9 = 6 ∨ j9 = 7 ∨ j9 = 8 ∨ j9 = 9 ∨ j9 = 10 ∨ j9 = 11 ∨ j9 = 12 ∨ j9 = 13 ∨ j9 = 14 ∨ j9 = 15 ∨ j9 = 16 ∨ j9 = 17 ∨ j9 = 18 ∨ j9 = 19 ∨ j9 = 20 ∨ j9 = 21 ∨ j9 = 22 ∨ j9 = 23 ∨ j9 = 24 ∨ j9 = 25 ∨ j9 = 26 ∨ j9 = 27 ∨ j9 = 28 ∨ j9 = 29 ∨ j9 = 30 := by omega
    rcases h9 with rfl | rfl | rfl | rfl | rfl | rfl | rfl | rfl | rfl | rfl | rfl | rfl | rfl | rfl | rfl | rfl | rfl | rfl | rfl | rfl | rfl | rfl | rfl | rfl | rfl | rfl | rfl | rfl | rfl | rfl | rfl
    · exact z_swIn 172 rfl 0 (by omega) rfl (lw_page hI hi hLs hnc hns ih)
    · exact z_swIn 195 rfl 1 (by omega) rfl (lw_derive hI hi hLs hnc hns ih)
    · exact z_swIn 218 rfl 2 (by omega) rfl (lw_entry hI hi hLs hnc hns ih)
    · exact z_swIn 281 rfl 3 (by omega) rfl (lw_shift hI hi hLs hnc hns ih)
    · exact z_swIn 360 rfl 4 (by omega) rfl (lw_drop hI hi hLs hnc hns ih)
    · exact z_swIn 413 rfl 5 (by omega) rfl (lw_close hI hi hLs hnc hns ih)
    · exact z_swIn 436 rfl 6 (by omega) rfl (lw_size hI hi hLs hnc hns ih)
    · exact z_swIn 469 rfl 7 (by omega) rfl (lw_code hI hi hLs hnc hns ih)
    · exact z_swIn 503 rfl 8 (by omega) rfl (lw_bytesIn hI hi hLs hnc hns ih)
    · exact z_swIn 566 rfl 9 (by omega) rfl (lw_unitsIn hI hi hLs hnc hns ih)
    · exact z_swIn 629 rfl 10 (by omega) rfl (lw_fill hI hi hLs hnc hns ih)
    · exact z_swIn 652 rfl 11 (by omega) rfl (lw_decode hI hi hLs hnc hns ih)
    · exact z_swIn 685 rfl 12 (by omega) rfl (lw_encode hI hi hLs hnc hns ih)
    · exact z_swIn 718 rfl 13 (by omega) rfl (lw_transcode hI hi hLs hnc hns ih)
    · exact z_swIn 771 rfl 14 (by omega) rfl (lw_result hI hi hLs hnc hns ih)
    · exact z_swIn 794 rfl 15 (by omega) rfl (lw_sign hI hi hLs hnc hns ih)
    · exact z_swIn 827 rfl 16 (by omega) rfl (lw_fallback hI hi hLs hnc hns ih)
    · exact z_swIn 850 rfl 17 (by omega) rfl (lw_begin hI hi hLs hnc hns ih)
    · exact z_swIn 919 rfl 18 (by omega) rfl (lw_feed hI hi hLs hnc hns ih)
    · exact z_swIn 952 rfl 19 (by omega) rfl (lw_end hI hi hLs hnc hns ih)
    · exact z_swIn 975 rfl 20 (by omega) rfl (lw_take hI hi hLs hnc hns ih)
    · exact z_swIn 998 rfl 21 (by omega) rfl (lw_machine hI hi hLs hnc hns ih)
    · exact z_swIn 1031 rfl 22 (by omega) rfl (lw_coverage hI hi hLs hnc hns ih)
    · exact z_swIn 1074 rfl 23 (by omega) rfl (lw_differ hI hi hLs hnc hns ih)
    · exact z_swIn 1117 rfl 24 (by omega) rfl (lw_misread hI hi hLs hnc hns ih)
    · exact z_swIn 1150 rfl 25 (by omega) rfl (lw_faults hI hi hLs hnc hns ih)
    · exact z_swIn 1173 rfl 26 (by omega) rfl (lw_detect hI hi hLs hnc hns ih)
    · exact z_swIn 1186 rfl 27 (by omega) rfl (lw_lengths hI hi hLs hnc hns ih)
    · exact z_swIn 1219 rfl 28 (by omega) rfl (lw_send hI hi hLs hnc hns ih)
    · exact z_swIn 1242 rfl 29 (by omega) rfl (lw_receive hI hi hLs hnc hns ih)
    · exact z_swIn 1255 rfl 30 (by omega) rfl (lw_told hI hi hLs hnc hns ih)
  · exact z_swOut rfl (by simp only [List.length]; omega) (ih h A nc ns hI (by omega) (by omega))
theorem zi_6 (a : Nat) : nI a + Int32.ofInt 6 = nI (a + 6) := by
  rw [show Int32.ofInt 6 = nI 6 from by decide]
  exact zb_0 a 6
theorem CI.al9 {h h' : mH} {A : Ab} {pad : Nat → Nat} {sp : Option Nat} {res wrk : Nat} (a : CI h A pad sp res wrk) (f : ∀ x, x < h.1 → h'.2 x = h.2 x) (hs : h.1 ≤ h'.1) (h96 : 96 ≤ h.1) : CI h' A pad sp res wrk := by
  obtain ⟨c1, cr, cp, cb, cu, cq, cs, ck, cru, cm⟩ := a
  exact ⟨(f _ (by omega)).trans c1, cr, cp.e (f _ (by omega)) (fun x x1 x2 => f x x2) hs, cb.e (fun x x1 x2 => f x (by omega)), cu.e (fun x x1 x2 => f x (by omega)), cq.e (fun x x1 x2 => f x (by omega)), cs.e (fun x x1 x2 => f x (by omega)) (fun x x1 x2 => f x (by omega)) (fun x x1 x2 => f x (by omega)) (f _ (by omega)), ck.e (f _ (by omega)), cru.e (fun x x1 x2 => f x (by omega)), cm.e (f _ (by omega)) (fun x x1 x2 => f x (by omega))⟩

set_option maxRecDepth 100000 in
theorem lw_loop {Ls : Nat} {xs : Nat → Int32} (hLs : Ls ≤ 3072) : ∀ m9 i h A nc ns, Ls < i + 6 * m9 → i ≤ 4000 → LI Ls xs h A → nc + 20 * m9 ≤ 600000 → ns + 1863 * m9 ≤ 7302250 → mZ 80 tk_262 600000 7302250 (fun v _ => v = some (.int 1)) 18 [some (.ref 0), some (.ref 1), some (.ref 96), some (.int (nI i))] [] h nc ns := by
  intro m9
  induction m9 with
  | zero =>
    intro i h A nc ns h1 hi4 hI hnc hns
    refine z_iload 19 rfl rfl rfl ?_
    refine z_aload 20 rfl rfl rfl ?_
    refine z_alen 21 rfl rfl hI.2.2.2.2 (by decide) ?_
    refine z_push 23 (nI 6) rfl rfl rfl ?_
    refine z_bop 24 _ rfl rfl (zd_1 _ _) ?_
    refine z_tgt 27 rfl rfl (fun hc24 => ?_) (fun hc24 => ?_)
    · skip
      refine z_push 1285 (nI 1) rfl rfl rfl ?_
      refine z_iretb rfl (by omega) (by omega) (by decide) ?_
      rfl
    · rw [lw_len hLs, nI_toInt (by omega)] at hc24
      omega
  | succ m9 ih =>
    intro i h A nc ns h1 hi4 hI hnc hns
    refine z_iload 19 rfl rfl rfl ?_
    refine z_aload 20 rfl rfl rfl ?_
    refine z_alen 21 rfl rfl hI.2.2.2.2 (by decide) ?_
    refine z_push 23 (nI 6) rfl rfl rfl ?_
    refine z_bop 24 _ rfl rfl (zd_1 _ _) ?_
    refine z_tgt 27 rfl rfl (fun hc24 => ?_) (fun hc24 => ?_)
    · skip
      refine z_push 1285 (nI 1) rfl rfl rfl ?_
      refine z_iretb rfl (by omega) (by omega) (by decide) ?_
      rfl
    · rw [lw_len hLs, nI_toInt (by omega)] at hc24
      refine z_aload 28 rfl rfl rfl ?_
      refine z_iload 29 rfl rfl rfl ?_
      refine z_sld 30 rfl rfl hI.2.2.2.2 rfl (by omega) (by omega) ?_
      refine z_push 32 (nI 31) rfl rfl rfl ?_
      refine z_bop 33 _ rfl rfl (zd_3 _ _) ?_
      refine lw_sw _ hI (by omega) hLs (by omega) (by omega) (fun h2 A2 nc2 ns2 hI2 hn2 hs2 => ?_)
      refine z_iinc 1281 _ rfl rfl rfl rfl (zi_6 i) ?_
      refine z_goto rfl ?_
      exact ih (i + 6) h2 A2 nc2 ns2 (by omega) (by omega) hI2 (by omega) (by omega)
set_option maxRecDepth 100000 in
theorem law_ok : mLaw := by
  intro Ls xs hLs
  show mZ 80 tk_262 600000 7302250 (fun v _ => v = some (.int 1)) 0 [some (.ref 0), none, none, none] [] (mHp0 Ls xs) 0 0
  refine z_newA 3 1 rfl rfl rfl (by omega) (by omega) ?_
  first | refine z_dup 4 rfl rfl ?_ | refine z_dupi 4 rfl rfl ?_
  refine z_ci0 7 rfl rfl rfl (by omega) (by omega) ?_
  refine c_X_init (mw_eq _ _ _) rfl (fun h1 z1 hC1 h10 => ?_)
  have hs1 : h1.2 0 = .inl (9, Ls, xs) := h10.trans (mw_ne (by decide) rfl)
  refine z_astore 8 rfl rfl rfl rfl ?_
  refine z_newA 11 96 z1 rfl rfl (by omega) (by omega) ?_
  first | refine z_dup 12 rfl rfl ?_ | refine z_dupi 12 rfl rfl ?_
  refine z_ci0 15 rfl rfl rfl (by omega) (by omega) ?_
  refine c_Rf_init (mw_eq _ _ _) rfl (fun h2 z2 hR2 hf2 => ?_)
  have f2 : ∀ x, x < 96 → h2.2 x = h1.2 x := fun x hx => (hf2 x hx).trans (mw_ne (by omega) rfl)
  have hC2 := hC1.al9 (h' := h2) (fun x hx => f2 x (by omega)) (by omega) (by omega)
  have hI2 : LI Ls xs h2 A0 := ⟨hC2.inv, ⟨s0, hR2, RInv.new⟩, A0_I, by omega, (f2 0 (by decide)).trans hs1⟩
  refine z_astore 16 rfl rfl rfl rfl ?_
  refine z_push 17 (nI 0) rfl rfl rfl ?_
  refine z_istore 18 rfl rfl rfl rfl ?_
  exact lw_loop hLs 513 0 h2 A0 _ _ (by omega) (by omega) hI2 (by omega) (by omega)
