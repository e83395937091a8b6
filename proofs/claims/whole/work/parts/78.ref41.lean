/-! the reference: send -/
def sndM (E : List En) (H : List Sh) : List Nat := [E.length] ++ enBs E E.length ++ [H.length] ++ shBs H H.length
def sndS (E : List En) (H : List Sh) : Nat := smN (sndM E H) (sndM E H).length % 65521
def sndL (E : List En) (H : List Sh) : List Nat := sndM E H ++ [sndS E H / 256] ++ [sndS E H % 256]
def sp_send (A : Ab) (p : Int32) : Int32 × Ab :=
  if 0 ≤ p.toInt ∧ p.toInt < A.pgs.length then
    if pgK A.pgs p.toInt.toNat = 0 then
      if pgC A.pgs p.toInt.toNat = true then
        (nI (sndL (pgE A.pgs p.toInt.toNat) (pgH A.pgs p.toInt.toNat)).length, A.wRes (2, sndL (pgE A.pgs p.toInt.toNat) (pgH A.pgs p.toInt.toNat)))
      else (-5, A.tell)
    else (-3, A.tell)
  else (-1, A.tell)
theorem b2_b (x : Bool) : b2 x < 256 := by cases x <;> decide
theorem btD_m {v : Nat} : ∀ m x, x ∈ btD v m → x < 256
  | 0, x, h => absurd h (by simp [btD])
  | m + 1, x, h => by
    rw [btD, List.mem_cons] at h
    rcases h with rfl | h
    · omega
    · exact btD_m m x h
theorem enBs_m {E : List En} {H : List Sh} (hW : TbW E H) : ∀ k, k ≤ E.length → ∀ x, x ∈ enBs E k → x < 256
  | 0, _, x, h => absurd h (by simp [enBs])
  | k + 1, hk, x, h => by
    rw [enBs, List.mem_append] at h
    rcases h with h | h
    · exact enBs_m hW k (by omega) x h
    · have := hW.2.2.1 k (by omega)
      have hb := b2_b (enF E k)
      simp only [enB, List.mem_append, List.mem_singleton] at h
      rcases h with (((h | h) | h) | h) | h
      · omega
      · omega
      · exact btD_m _ x h
      · exact btD_m _ x h
      · omega
theorem shBs_m {E : List En} {H : List Sh} (hW : TbW E H) : ∀ k, k ≤ H.length → ∀ x, x ∈ shBs H k → x < 256
  | 0, _, x, h => absurd h (by simp [shBs])
  | k + 1, hk, x, h => by
    rw [shBs, List.mem_append] at h
    rcases h with h | h
    · exact shBs_m hW k (by omega) x h
    · have := hW.2.2.2 k (by omega)
      have hb := b2_b (shK H k)
      simp only [shB, List.mem_append, List.mem_singleton] at h
      rcases h with ((h | h) | h) | h <;> omega
theorem sndM_b {E : List En} {H : List Sh} (hW : TbW E H) (j : Nat) : (sndM E H).getD j 0 < 256 := by
  rw [List.getD_eq_getElem?_getD]
  rcases h : (sndM E H)[j]? with _ | x
  · show (0 : Nat) < 256
    decide
  · have hm := List.mem_of_getElem? h
    show x < 256
    have h1 := hW.1
    have h2 := hW.2.1
    simp only [sndM, List.mem_append, List.mem_singleton] at hm
    rcases hm with ((h | h) | h) | h
    · omega
    · exact enBs_m hW _ (Nat.le_refl _) x h
    · omega
    · exact shBs_m hW _ (Nat.le_refl _) x h
theorem sndM_len {E : List En} {H : List Sh} (hW : TbW E H) : (sndM E H).length ≤ 1000 := by
  have h1 := hW.1
  have h2 := hW.2.1
  have h3 := enBs_len hW E.length (Nat.le_refl _)
  simp only [sndM, List.length_append, List.length_singleton, shBs_len]
  omega

set_option maxRecDepth 100000 in
theorem r_send {d r : Nat} {h h0 : mH} {s : rS} {A : Ab} {p : Int32} {Q : mP} (hR : Rf r h0 s h) (hI : RInv s A) (hB : PgB A.pgs) (hK : ∀ P, P < A.pgs.length → pgK A.pgs P < 4)  (q : ∀ h' s', Rf r h0 s' h' → RInv s' (sp_send A p).2 → Q (some (.int (sp_send A p).1)) h') : mWP (d + 3) 254 [.ref r, .int p] h Q := by
  have hG := hI.1
  have hG2 := hG.2.1
  refine z_in [some (.ref r), some (.int p), none, none] (by rfl) rfl rfl rfl ?_
  refine z_aload 1 rfl rfl rfl ?_
  refine z_iload 2 rfl rfl rfl ?_
  refine z_cv1 5 rfl rfl hR.1 rfl (Nat.le_refl _) (Nat.le_refl _) ?_
  refine r_isPage hR hG.1 hG.2.1 ?_
  first | refine z_bne 8 rfl rfl (fun hc5 => ?_) (fun hc5 => ?_)
  · rw [decide_eq_true_eq] at hc5
    obtain ⟨P, hPP, rfl, hp1, hp2⟩ := ix_of hc5
    obtain ⟨hg1, hg2, hT⟩ := hG.2.2 P hPP
    have hW := hB P hPP
    have f3 := hT.2.1
    have hk9 := hK P hPP
    have hel := enBs_len hW _ (Nat.le_refl _)
    have hw1 := hW.1
    have hw2 := hW.2.1
    refine z_aload 15 rfl rfl rfl ?_
    refine y_ga 18 hR rfl rfl rfl ?_
    refine z_iload 19 rfl rfl rfl ?_
    refine y_al (f := 1) 20 _ hR rfl rfl rfl rfl (by omega) (by repeat (first | with_reducible exact hg1 | with_reducible exact hg2 | with_reducible exact f3 | with_reducible exact gA_eq _ _ _ _ | (with_reducible apply gA_ne; decide) | with_reducible apply gA_I | with_reducible apply gA_O | (with_reducible apply gA_nj; omega) | with_reducible rfl)) ?_
    first | refine z_zeq 23 rfl rfl (by omega) (fun hc20 => ?_) (fun hc20 => ?_)
    · refine z_aload 31 rfl rfl rfl ?_
      refine y_ga 34 hR rfl rfl rfl ?_
      refine z_iload 35 rfl rfl rfl ?_
      refine y_bb (f := 2) 36 _ hR rfl rfl rfl rfl (by omega) (by repeat (first | with_reducible exact hg1 | with_reducible exact hg2 | with_reducible exact f3 | with_reducible exact gA_eq _ _ _ _ | (with_reducible apply gA_ne; decide) | with_reducible apply gA_I | with_reducible apply gA_O | (with_reducible apply gA_nj; omega) | with_reducible rfl)) ?_
      first | refine z_bne 39 rfl rfl (fun hc36 => ?_) (fun hc36 => ?_)
      · refine z_aload 47 rfl rfl rfl ?_
        refine z_aload 48 rfl rfl rfl ?_
        refine y_ga 51 hR rfl rfl rfl ?_
        refine y_po 54 (f := 45) hR rfl rfl rfl ?_
        intro h hR
        refine z_aload 55 rfl rfl rfl ?_
        refine z_push 56 (nI 0) rfl rfl rfl ?_
        refine y_pi 59 hR rfl rfl rfl rfl rfl (mFi rfl) ?_
        intro h hR
        refine z_aload 60 rfl rfl rfl ?_
        refine z_aload 61 rfl rfl rfl ?_
        refine y_ga 64 hR rfl rfl rfl ?_
        refine z_iload 65 rfl rfl rfl ?_
        refine y_al (f := 3) 66 _ hR rfl rfl rfl rfl (by omega) (by repeat (first | with_reducible exact hg1 | with_reducible exact hg2 | with_reducible exact f3 | with_reducible exact gA_eq _ _ _ _ | (with_reducible apply gA_ne; decide) | with_reducible apply gA_I | with_reducible apply gA_O | (with_reducible apply gA_nj; omega) | with_reducible rfl)) ?_
        refine z_cv1 69 rfl rfl hR.1 rfl (Nat.le_refl _) (Nat.le_refl _) ?_
        refine r_put1 (o := 45) (l := []) hR ⟨rfl, by repeat (first | with_reducible exact gI_eq _ _ _ | (with_reducible apply gI_ne; decide) | with_reducible apply gI_A | with_reducible apply gI_O | with_reducible rfl | exact gI_eq _ _ _), fun j hj => absurd hj (Nat.not_lt_zero j)⟩ rfl (by decide) (fun h s1 hR hO1 ho1 => ?_)
        have hT1 := hO1.tb (by decide) (show TbR _ P (pgE A.pgs P) (pgH A.pgs P) from hT)
        refine z_push 71 (nI 100) rfl rfl rfl ?_
        refine z_iload 72 rfl rfl rfl ?_
        refine z_bop 73 _ rfl rfl (by first | with_reducible exact zb_2 _ _ | exact zd_2 _ _) ?_
        refine z_istore 74 rfl rfl rfl rfl ?_
        refine r_sendE (l0 := [(pgE A.pgs P).length]) hW (show 1 ≤ 2000 by decide) ((pgE A.pgs P).length + 1) 0 s1 h _ (by omega) (by omega) hR hT1 ho1 (fun h s3 o3 hR hO3 ho3 => ?_)
        have hT3 := hO3.tb (by decide) hT1
        have f4 := hT3.2.2.1
        refine z_aload 203 rfl rfl rfl ?_
        refine z_aload 204 rfl rfl rfl ?_
        refine y_ga 207 hR rfl rfl rfl ?_
        refine z_iload 208 rfl rfl rfl ?_
        refine y_al (f := 4) 209 _ hR rfl rfl rfl rfl (by omega) (by repeat (first | with_reducible exact f4 | with_reducible exact gA_eq _ _ _ _ | (with_reducible apply gA_ne; decide) | with_reducible apply gA_I | with_reducible apply gA_O | (with_reducible apply gA_nj; omega) | with_reducible rfl)) ?_
        refine z_cv1 212 rfl rfl hR.1 rfl (Nat.le_refl _) (Nat.le_refl _) ?_
        refine r_put1 hR ho3 rfl (by simp only [List.length_append, List.length_singleton]; omega) (fun h s5 hR hO5 ho5 => ?_)
        have hT5 := hO5.tb (by decide) hT3
        refine z_push 214 (nI 10) rfl rfl rfl ?_
        refine z_iload 215 rfl rfl rfl ?_
        refine z_bop 216 _ rfl rfl (by first | with_reducible exact zb_2 _ _ | exact zd_2 _ _) ?_
        refine z_istore 217 rfl rfl rfl rfl ?_
        refine r_sendH (l0 := [(pgE A.pgs P).length] ++ enBs (pgE A.pgs P) (pgE A.pgs P).length ++ [(pgH A.pgs P).length]) hW (by simp only [List.length_append, List.length_singleton]; omega) ((pgH A.pgs P).length + 1) 0 s5 h (by omega) (by omega) hR hT5 (by rw [shBs, List.append_nil]; exact ho5) (fun h s7 hR hO7 ho7 => ?_)
        change OutAt s7 45 (sndM (pgE A.pgs P) (pgH A.pgs P)) at ho7
        have f37 : s7.1 37 = (sndM (pgE A.pgs P) (pgH A.pgs P)).length := ho7.2.1
        have hml := sndM_len hW
        refine z_aload 287 rfl rfl rfl ?_
        refine z_aload 288 rfl rfl rfl ?_
        refine y_ga 291 hR rfl rfl rfl ?_
        refine z_aload 292 rfl rfl rfl ?_
        refine y_gi 295 _ hR rfl rfl rfl rfl rfl (by repeat (first | with_reducible exact gI_eq _ _ _ | (with_reducible apply gI_ne; decide) | with_reducible apply gI_A | with_reducible apply gI_O | with_reducible exact f37 | with_reducible exact f37b | with_reducible exact f37c | with_reducible rfl)) ?_
        refine z_cv2 298 rfl rfl hR.1 rfl (Nat.le_refl _) (Nat.le_refl _) ?_
        refine r_sumOf (f := 45) (bs := sndM (pgE A.pgs P) (pgH A.pgs P)) hR (fun j hj => by have := ho7.2.2 j hj; rw [Nat.zero_add] at this; exact this) rfl (by omega) (by omega) (sndM_b hW) ?_
        have hss : sndS (pgE A.pgs P) (pgH A.pgs P) < 65521 := Nat.mod_lt _ (by decide)
        change mZ _ _ _ _ _ _ _ [.int (nI (sndS (pgE A.pgs P) (pgH A.pgs P)))] _ _ _
        refine z_istore 299 rfl rfl rfl rfl ?_
        refine z_aload 300 rfl rfl rfl ?_
        refine z_iload 301 rfl rfl rfl ?_
        refine z_push 303 (nI 8) rfl rfl rfl ?_
        refine z_bop 304 _ rfl rfl (show _ = nI (sndS (pgE A.pgs P) (pgH A.pgs P) / 256) from shr_n (by omega) 8 (by decide)) ?_
        refine z_cv1 307 rfl rfl hR.1 rfl (Nat.le_refl _) (Nat.le_refl _) ?_
        refine r_put1 hR ho7 rfl (by omega) (fun h s8 hR hO8 ho8 => ?_)
        refine z_aload 308 rfl rfl rfl ?_
        refine z_iload 309 rfl rfl rfl ?_
        refine z_push 312 (nI 255) rfl rfl rfl ?_
        refine z_bop 313 _ rfl rfl (show _ = nI (sndS (pgE A.pgs P) (pgH A.pgs P) % 256) from zo_a (by omega)) ?_
        refine z_cv1 316 rfl rfl hR.1 rfl (Nat.le_refl _) (Nat.le_refl _) ?_
        refine r_put1 hR ho8 rfl (by rw [List.length_append, List.length_singleton]; omega) (fun h s9 hR hO9 ho9 => ?_)
        have f37c : s9.1 37 = (sndL (pgE A.pgs P) (pgH A.pgs P)).length := ho9.2.1
        have hll : (sndL (pgE A.pgs P) (pgH A.pgs P)).length ≤ 1002 := by rw [sndL, List.length_append, List.length_append, List.length_singleton, List.length_singleton]; omega
        refine z_aload 317 rfl rfl rfl ?_
        refine z_aload 318 rfl rfl rfl ?_
        refine y_ga 321 hR rfl rfl rfl ?_
        refine z_aload 322 rfl rfl rfl ?_
        refine y_gi 325 _ hR rfl rfl rfl rfl rfl (by repeat (first | with_reducible exact gI_eq _ _ _ | (with_reducible apply gI_ne; decide) | with_reducible apply gI_A | with_reducible apply gI_O | with_reducible exact f37 | with_reducible exact f37b | with_reducible exact f37c | with_reducible rfl)) ?_
        refine z_push 326 (nI 2) rfl rfl rfl ?_
        refine z_cv3 329 rfl rfl hR.1 rfl (Nat.le_refl _) (Nat.le_refl _) ?_
        refine r_resultOf hR (f := 45) rfl (by decide) (by omega) (by omega) ho9.2.2 (fun h s10 hR hO10 hre => ?_)
        refine z_ireti rfl (Nat.le_refl _) (Nat.le_refl _) ?_
        have e9 : sp_send A (nI P) = (nI (sndL (pgE A.pgs P) (pgH A.pgs P)).length, A.wRes (2, sndL (pgE A.pgs P) (pgH A.pgs P))) := by
          rw [sp_send, if_pos hc5, hp2, if_pos hc20, if_pos hc36]
        rw [e9] at q
        have hKp : Keep s s9 := (((((((Keep.rfl.O).I rfl).trans (hO1.keep (by decide))).trans (hO3.keep (by decide))).trans (hO5.keep (by decide))).trans (hO7.keep (by decide))).trans (hO8.keep (by decide))).trans (hO9.keep (by decide))
        have hI9 := hI.k0 hKp ?g22
        exact q h s10 hR (hI9.res hO10 hre)
        exact (hO9.1 22 (by decide)).1.trans ((hO8.1 22 (by decide)).1.trans ((hO7.1 22 (by decide)).1.trans ((hO5.1 22 (by decide)).1.trans ((hO3.1 22 (by decide)).1.trans (hO1.1 22 (by decide)).1))))
      · refine z_aload 40 rfl rfl rfl ?_
        refine z_push 42 (-5) rfl rfl rfl ?_
        refine z_cv1 45 rfl rfl hR.1 rfl (Nat.le_refl _) (Nat.le_refl _) ?_
        refine r_tell hR (fun h9 => absurd h9 (by decide)) (fun _ h hR => ?_)
        refine z_ireti rfl (Nat.le_refl _) (Nat.le_refl _) ?_
        have e9 : sp_send A (nI P) = (-5, A.tell) := by rw [sp_send, if_pos hc5, hp2, if_pos hc20, if_neg (by rw [hc36]; decide)]
        rw [e9] at q
        exact q h _ hR hI.tell
    · refine z_aload 24 rfl rfl rfl ?_
      refine z_push 26 (-3) rfl rfl rfl ?_
      refine z_cv1 29 rfl rfl hR.1 rfl (Nat.le_refl _) (Nat.le_refl _) ?_
      refine r_tell hR (fun h9 => absurd h9 (by decide)) (fun _ h hR => ?_)
      refine z_ireti rfl (Nat.le_refl _) (Nat.le_refl _) ?_
      have e9 : sp_send A (nI P) = (-3, A.tell) := by rw [sp_send, if_pos hc5, hp2, if_neg hc20]
      rw [e9] at q
      exact q h _ hR hI.tell
  · refine z_aload 9 rfl rfl rfl ?_
    refine z_push 10 (-1) rfl rfl rfl ?_
    refine z_cv1 13 rfl rfl hR.1 rfl (Nat.le_refl _) (Nat.le_refl _) ?_
    refine r_tell hR (fun h9 => absurd h9 (by decide)) (fun _ h hR => ?_)
    refine z_ireti rfl (Nat.le_refl _) (Nat.le_refl _) ?_
    rw [decide_eq_false_iff_not] at hc5
    have e9 : sp_send A p = (-1, A.tell) := if_neg hc5
    rw [e9] at q
    exact q h _ hR hI.tell
