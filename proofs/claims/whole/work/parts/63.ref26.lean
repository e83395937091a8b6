/-! the reference: lengths, coverage -/
def lnOn (A : Ab) (P s : Nat) : Bool := (rchd (pgH A.pgs P)).testBit s && (decide (pgK A.pgs P = 0) || decide (s = 0))
def lnU (w : Nat) (b : Option Nat) (n : Nat) : Option Nat := match b with
  | none => some n
  | some x => if (w = 0 ∧ n < x) ∨ (w ≠ 0 ∧ x < n) then some n else some x
def lnF (A : Ab) (P w : Nat) : Nat → Nat → Option Nat → Int32 × Ab
  | 0, _, b => (oI b, A)
  | m + 1, s, b => if lnOn A P s = true then
      (if (wrPg A P 0 A.uns 1000000 s).1 = 0 then lnF A P w m (s + 1) (lnU w b (wrPg A P 0 A.uns 1000000 s).2.2.length)
       else (wrI (wrPg A P 0 A.uns 1000000 s), (if (wrPg A P 0 A.uns 1000000 s).1 = 1 then A.wPlc (wrPg A P 0 A.uns 1000000 s).2.1 else A).tell))
    else lnF A P w m (s + 1) b
def sp_lengths (A : Ab) (p w : Int32) : Int32 × Ab :=
  if 0 ≤ p.toInt ∧ p.toInt < A.pgs.length then
    if pgC A.pgs p.toInt.toNat = true then
      if 0 ≤ w.toInt ∧ w.toInt ≤ 1 then lnF A p.toInt.toNat w.toInt.toNat 4 0 none
      else (-1, A.tell)
    else (-5, A.tell)
  else (-1, A.tell)
theorem lnF_s {A : Ab} {P w s : Nat} {b : Option Nat} (h : s < 4) : lnF A P w (4 - s) s b = if lnOn A P s = true then
      (if (wrPg A P 0 A.uns 1000000 s).1 = 0 then lnF A P w (4 - (s + 1)) (s + 1) (lnU w b (wrPg A P 0 A.uns 1000000 s).2.2.length)
       else (wrI (wrPg A P 0 A.uns 1000000 s), (if (wrPg A P 0 A.uns 1000000 s).1 = 1 then A.wPlc (wrPg A P 0 A.uns 1000000 s).2.1 else A).tell))
    else lnF A P w (4 - (s + 1)) (s + 1) b := by
  rw [show 4 - s = 4 - (s + 1) + 1 by omega]; rfl
theorem RInv.cnt {s2 s3 : rS} {A : Ab} (h : RInv s2 A) (hk : Keep (stI 48 1 s2) s3) : RInv (stI 48 0 s3) (A.wPlc (s3.1 22)) := by
  have h48 : s2.1 48 = 0 := h.2.2.2.2.2.2.2.2.2.2
  have hk2 : Keep s2 (stI 48 0 s3) := fun c hc => by
    refine ⟨?_, (hk c hc).2⟩
    by_cases e : c = 48
    · subst e; rw [gI_eq, h48]
    · rw [gI_ne e rfl, (hk c hc).1, gI_ne e rfl]
  exact h.k hk2
theorem RInv.f29 {s s1 : rS} {A : Ab} (hI : RInv s A) (hO : OnA f29 s s1) : RInv s1 A := hI.k0 (hO.keep (fun f hf => by have := Nat.eq_of_beq_eq_true hf; subst this; rfl)) (by rw [hO.1])
theorem lnU_b {w n : Nat} {b : Option Nat} (h : ∀ x, b = some x → x < 2 ^ 31) (hn : n < 2 ^ 31) : ∀ x, lnU w b n = some x → x < 2 ^ 31 := by
  intro x hx
  unfold lnU at hx
  split at hx
  · cases hx; exact hn
  · split at hx
    · cases hx; exact hn
    · cases hx; exact h _ rfl
set_option maxRecDepth 100000 in
theorem r_lengths {d r : Nat} {h h0 : mH} {s : rS} {A : Ab} {p w : Int32} {Q : mP} (hR : Rf r h0 s h) (hI : RInv s A) (hAW : AbW A)  (q : ∀ h' s', Rf r h0 s' h' → RInv s' (sp_lengths A p w).2 → Q (some (.int (sp_lengths A p w).1)) h') : mWP (d + 55) 252 [.ref r, .int p, .int w] h Q := by
  have hG := hI.1
  have hG2 := hG.2.1
  obtain ⟨hB, hK, hGd, hbb, hub, hs1, hs2, hFW, hFd⟩ := hAW
  have f0 : s.1 0 = A.pgs.length := hI.1.1
  have f14 : s.1 14 = A.bys.length := hI.2.1.1
  have f16 : s.1 16 = A.uns.length := hI.2.2.1.1
  have f18 : s.1 18 = A.res.2.length := hI.2.2.2.1.1
  have f19 : s.1 19 = A.res.1 := hI.2.2.2.1.2.2.1
  have f22 : s.1 22 = A.plc := hI.2.2.2.2.2.2.2.1
  have f24 : s.1 24 = A.fnd := hI.2.2.2.2.2.2.2.2.2.1
  have f25 : s.1 25 = A.fbs.length := hI.2.2.2.2.2.1.1
  have f48 : s.1 48 = 0 := hI.2.2.2.2.2.2.2.2.2.2
  have l0 : A.pgs.length ≤ 10 := hI.1.2.1
  have l14 : A.bys.length ≤ 1000 := hI.2.1.2.1
  have l16 : A.uns.length ≤ 1000 := hI.2.2.1.2.1
  have l18 : A.res.2.length ≤ 6000 := hI.2.2.2.1.2.1
  have l25 : A.fbs.length ≤ 40 := hI.2.2.2.2.2.1.2.1
  refine z_in [some (.ref r), some (.int p), some (.int w), none, none, none] (by rfl) rfl rfl rfl ?_
  refine z_aload 1 rfl rfl rfl ?_
  refine z_iload 2 rfl rfl rfl ?_
  refine z_cv1 5 rfl rfl hR.1 rfl (Nat.le_refl _) (Nat.le_refl _) ?_
  refine r_isPage hR hG.1 hG.2.1 ?_
  first | refine z_bne 8 rfl rfl (fun hc5 => ?_) (fun hc5 => ?_)
  · rw [decide_eq_true_eq] at hc5
    obtain ⟨P, hPP, rfl, hp1, hp2⟩ := ix_of hc5
    obtain ⟨hg1, hg2, hT⟩ := hG.2.2 P hPP
    refine z_aload 15 rfl rfl rfl ?_
    refine y_ga 18 hR rfl rfl rfl ?_
    refine z_iload 19 rfl rfl rfl ?_
    refine y_bb (f := 2) 20 _ hR rfl rfl rfl rfl (by omega) (by repeat (first | with_reducible exact hg2 | with_reducible exact f0 | with_reducible exact f14 | with_reducible exact f16 | with_reducible exact f18 | with_reducible exact f19 | with_reducible exact f22 | with_reducible exact f24 | with_reducible exact f25 | with_reducible exact f48 | with_reducible exact gA_eq _ _ _ _ | (with_reducible apply gA_ne; decide) | with_reducible apply gA_I | with_reducible apply gA_O | (with_reducible apply gA_nj; omega) | with_reducible rfl)) ?_
    first | refine z_bne 23 rfl rfl (fun hc20 => ?_) (fun hc20 => ?_)
    · refine z_iload 31 rfl rfl rfl ?_
      refine z_push 32 (nI 0) rfl rfl rfl ?_
      refine z_push 33 (nI 1) rfl rfl rfl ?_
      refine z_cs3 36 rfl rfl rfl (Nat.le_refl _) (Nat.le_refl _) ?_
      refine r_in ?_
      rw [jIn_l (by omega) (by omega)]
      first | refine z_bne 39 rfl rfl (fun hc36 => ?_) (fun hc36 => ?_)
      · rw [decide_eq_true_eq] at hc36
        obtain ⟨W, hWl, rfl, hw1, hw2⟩ := ix_of (x := w) (n := 2) (by omega)
        have e8 : sp_lengths A (nI P) (nI W) = lnF A P W 4 0 none := by rw [sp_lengths, if_pos hc5, hp2, if_pos hc20, if_pos (by omega), hw2]
        rw [e8] at q
        clear e8
        have loop : ∀ m s9 (b : Option Nat) s1 h o5, 4 < s9 + m → s9 ≤ 4 → lnF A P W 4 0 none = lnF A P W (4 - s9) s9 b → Rf r h0 s1 h → RInv s1 A → (∀ x, b = some x → x < 2 ^ 31) → mZ (d + 54) tk_252 0 0 Q 50 [some (.ref r), some (.int (nI P)), some (.int (nI W)), some (.int (oI b)), some (.int (nI s9)), o5] [] h 0 0 := by
          intro m
          induction m with
          | zero => intro s9 b s1 h o5 h1 h2; omega
          | succ m ih =>
            intro s9 b s1 h o5 h1 h2 hL hR hI1 hob
            have hTP := (hI1.1.2.2 P hPP).2.2
            refine z_iload 52 rfl rfl rfl ?_
            refine z_push 53 (nI 4) rfl rfl rfl ?_
            refine z_nge 56 rfl rfl (by omega) (by omega) (fun hc53 => ?_) (fun hc53 => ?_)
            · refine z_iload 168 rfl rfl rfl ?_
              refine z_ireti rfl (Nat.le_refl _) (Nat.le_refl _) ?_
              rw [hL, show 4 - s9 = 0 by omega] at q
              exact q h s1 hR hI1
            · refine z_aload 57 rfl rfl rfl ?_
              refine z_iload 58 rfl rfl rfl ?_
              refine z_cv1 61 rfl rfl hR.1 rfl (Nat.le_refl _) (Nat.le_refl _) ?_
              refine r_reach hR hTP (hB P hPP) (fun h s2 hR hO2 hBt0 => ?_)
              have hBt : ∀ j, j < 4 → s2.2.2 29 j = b2 ((rchd (pgH A.pgs P)).testBit j) := hBt0
              have hI2 := hI1.f29 hO2
              have k1 : s2.2.2 1 P = pgK A.pgs P := (hI2.1.2.2 P hPP).1
              have hKP := hK P hPP
              have k16 : s2.1 16 = A.uns.length := hI2.2.2.1.1
              refine z_aload 62 rfl rfl rfl ?_
              refine y_ga 65 hR rfl rfl rfl ?_
              refine z_iload 67 rfl rfl rfl ?_
              refine y_bb (f := 29) 68 _ hR rfl rfl rfl rfl (by omega) (by repeat (first | with_reducible exact hBt _ (by omega) | with_reducible exact k1 | with_reducible exact k16 | with_reducible exact gA_eq _ _ _ _ | (with_reducible apply gA_ne; decide) | with_reducible apply gA_I | with_reducible apply gA_O | (with_reducible apply gA_nj; omega) | with_reducible rfl)) ?_
              first | refine z_beq 71 rfl rfl (fun hc68 => ?_) (fun hc68 => ?_)
              · refine z_iinc 164 _ rfl rfl rfl rfl (by first | with_reducible exact zi_1 _ | rfl) ?_
                refine z_goto rfl ?_
                refine ih (s9 + 1) b s2 h _ (by omega) (by omega) ?_ hR hI2 hob
                rw [hL, lnF_s (by omega), if_neg (by simp [lnOn, hc68])]
              · refine z_aload 72 rfl rfl rfl ?_
                refine y_ga 75 hR rfl rfl rfl ?_
                refine z_iload 76 rfl rfl rfl ?_
                refine y_al (f := 1) 77 _ hR rfl rfl rfl rfl (by omega) (by repeat (first | with_reducible exact hBt _ (by omega) | with_reducible exact k1 | with_reducible exact k16 | with_reducible exact gA_eq _ _ _ _ | (with_reducible apply gA_ne; decide) | with_reducible apply gA_I | with_reducible apply gA_O | (with_reducible apply gA_nj; omega) | with_reducible rfl)) ?_
                first | refine z_zeq 80 rfl rfl (by omega) (fun hc77 => ?_) (fun hc77 => ?_)
                · have hon : lnOn A P s9 = true := by
                    simp only [lnOn, hc68, Bool.true_and, Bool.or_eq_true, decide_eq_true_eq]
                    omega
                  have hso : SOk (pgK A.pgs P) (pgH A.pgs P) s9 := ⟨by omega, fun _ => ⟨by omega, hc68⟩⟩
                  refine z_aload 89 rfl rfl rfl ?_
                  refine z_push 90 (nI 1) rfl rfl rfl ?_
                  refine y_pi 93 hR rfl rfl rfl rfl rfl (mFb rfl (by decide)) ?_
                  intro h hR
                  refine z_aload 94 rfl rfl rfl ?_
                  refine z_iload 95 rfl rfl rfl ?_
                  refine z_push 96 (nI 0) rfl rfl rfl ?_
                  refine z_aload 97 rfl rfl rfl ?_
                  refine y_ga 100 hR rfl rfl rfl ?_
                  refine z_aload 101 rfl rfl rfl ?_
                  refine y_gi 104 _ hR rfl rfl rfl rfl rfl (by repeat (first | with_reducible exact gI_eq _ _ _ | (with_reducible apply gI_ne; decide) | with_reducible apply gI_A | with_reducible apply gI_O | with_reducible exact hBt _ (by omega) | with_reducible exact k1 | with_reducible exact k16 | with_reducible rfl)) ?_
                  refine z_iload 106 rfl rfl rfl ?_
                  refine z_push 109 (nI 1000000) rfl rfl rfl ?_
                  refine z_cv6 112 rfl rfl hR.1 rfl (Nat.le_refl _) (Nat.le_refl _) ?_
                  refine r_writeAll (F := A.fbs) (f := 17) (c := true) (m := 1000000) hR (by omega) k1 (hK P hPP) (hI2.1.2.2 P hPP).2.2 (hB P hPP) (hGd P hPP hc20) hso wA1 (by omega) hI2.2.2.2.2.1.2 (nPt_lt hs2) hI2.2.2.2.2.2.1 hFW hFd (gI_eq _ _ _) rfl l16 (by omega) (by decide) hI2.2.2.1.2.2 hub (fun h s3 hR hKp g22 hfa hok => ?_)
                  rw [show wrAll A.fbs (pgK A.pgs P) (pgE A.pgs P) (pgH A.pgs P) 0 A.sgn.2 A.uns 1000000 s9 = (wrPg A P 0 A.uns 1000000 s9) from rfl] at hok g22 ⊢
                  have hI3 := hI2.cnt hKp
                  rw [g22, show (stI 48 1 s2).1 22 = A.plc from hI2.2.2.2.2.2.2.2.1] at hI3
                  have hcd : (wrPg A P 0 A.uns 1000000 s9).1 = 0 ∨ (wrPg A P 0 A.uns 1000000 s9).1 = 1 ∨ ((wrPg A P 0 A.uns 1000000 s9).1 ≠ 0 ∧ (wrPg A P 0 A.uns 1000000 s9).1 ≠ 1) := by omega
                  rcases hcd with hcd | hcd | hcd
                  · obtain ⟨hk1, hk2, hk3⟩ := hok hcd
                    rw [show wrI (wrPg A P 0 A.uns 1000000 s9) = nI (wrPg A P 0 A.uns 1000000 s9).2.2.length from if_pos hcd]
                    have hm9 : (nI (wrPg A P 0 A.uns 1000000 s9).2.2.length).toInt = ((wrPg A P 0 A.uns 1000000 s9).2.2.length : Int) := nI_toInt (by omega)
                    rw [if_neg (by omega), wPlc_id] at hI3
                    refine z_istore 114 rfl rfl rfl rfl ?_
                    refine z_aload 115 rfl rfl rfl ?_
                    refine z_push 116 (nI 0) rfl rfl rfl ?_
                    refine y_pi 119 hR rfl rfl rfl rfl rfl (mFb rfl (by decide)) ?_
                    intro h hR
                    refine z_iload 121 rfl rfl rfl ?_
                    refine z_jge 124 rfl rfl (fun _ => ?_) (fun h9 => absurd h9 (by omega))
                    rcases b with _ | xb
                    · simp only [oI]
                      refine z_iload 132 rfl rfl rfl ?_
                      refine z_jlt 135 rfl rfl (fun _ => ?_) (fun h9 => absurd h9 (by decide))
                      refine z_iload 156 rfl rfl rfl ?_
                      refine z_goto rfl ?_
                      refine z_istore 161 rfl rfl rfl rfl ?_
                      refine z_iinc 164 _ rfl rfl rfl rfl (by first | with_reducible exact zi_1 _ | rfl) ?_
                      refine z_goto rfl ?_
                      have h9 := fun o5 => ih (s9 + 1) (lnU W none (wrPg A P 0 A.uns 1000000 s9).2.2.length) _ h o5 (by omega) (by omega) (by rw [hL, lnF_s (by omega), if_pos hon, if_pos hcd]) hR hI3 (lnU_b hob (by omega))
                      rw [show lnU W none (wrPg A P 0 A.uns 1000000 s9).2.2.length = some (wrPg A P 0 A.uns 1000000 s9).2.2.length from rfl] at h9
                      exact h9 _
                    · simp only [oI]
                      have hx9 := hob xb rfl
                      refine z_iload 132 rfl rfl rfl ?_
                      refine z_zlt 135 rfl rfl (by omega) (fun h9 => absurd h9 (by omega)) (fun _ => ?_)
                      refine z_iload 136 rfl rfl rfl ?_
                      first | refine z_zne 139 rfl rfl (by omega) (fun hc136 => ?_) (fun hc136 => ?_)
                      · refine z_iload 150 rfl rfl rfl ?_
                        refine z_iload 151 rfl rfl rfl ?_
                        refine z_nle 154 rfl rfl (by omega) (by omega) (fun hc151 => ?_) (fun hc151 => ?_)
                        · refine z_iload 160 rfl rfl rfl ?_
                          refine z_istore 161 rfl rfl rfl rfl ?_
                          refine z_iinc 164 _ rfl rfl rfl rfl (by first | with_reducible exact zi_1 _ | rfl) ?_
                          refine z_goto rfl ?_
                          have h9 := fun o5 => ih (s9 + 1) (lnU W (some xb) (wrPg A P 0 A.uns 1000000 s9).2.2.length) _ h o5 (by omega) (by omega) (by rw [hL, lnF_s (by omega), if_pos hon, if_pos hcd]) hR hI3 (lnU_b hob (by omega))
                          rw [show lnU W (some xb) (wrPg A P 0 A.uns 1000000 s9).2.2.length = some xb from if_neg (by omega)] at h9
                          exact h9 _
                        · refine z_iload 156 rfl rfl rfl ?_
                          refine z_goto rfl ?_
                          refine z_istore 161 rfl rfl rfl rfl ?_
                          refine z_iinc 164 _ rfl rfl rfl rfl (by first | with_reducible exact zi_1 _ | rfl) ?_
                          refine z_goto rfl ?_
                          have h9 := fun o5 => ih (s9 + 1) (lnU W (some xb) (wrPg A P 0 A.uns 1000000 s9).2.2.length) _ h o5 (by omega) (by omega) (by rw [hL, lnF_s (by omega), if_pos hon, if_pos hcd]) hR hI3 (lnU_b hob (by omega))
                          rw [show lnU W (some xb) (wrPg A P 0 A.uns 1000000 s9).2.2.length = some (wrPg A P 0 A.uns 1000000 s9).2.2.length from if_pos (by omega)] at h9
                          exact h9 _
                      · refine z_iload 141 rfl rfl rfl ?_
                        refine z_iload 142 rfl rfl rfl ?_
                        refine z_nge 145 rfl rfl (by omega) (by omega) (fun hc142 => ?_) (fun hc142 => ?_)
                        · refine z_iload 160 rfl rfl rfl ?_
                          refine z_istore 161 rfl rfl rfl rfl ?_
                          refine z_iinc 164 _ rfl rfl rfl rfl (by first | with_reducible exact zi_1 _ | rfl) ?_
                          refine z_goto rfl ?_
                          have h9 := fun o5 => ih (s9 + 1) (lnU W (some xb) (wrPg A P 0 A.uns 1000000 s9).2.2.length) _ h o5 (by omega) (by omega) (by rw [hL, lnF_s (by omega), if_pos hon, if_pos hcd]) hR hI3 (lnU_b hob (by omega))
                          rw [show lnU W (some xb) (wrPg A P 0 A.uns 1000000 s9).2.2.length = some xb from if_neg (by omega)] at h9
                          exact h9 _
                        · refine z_goto rfl ?_
                          refine z_iload 156 rfl rfl rfl ?_
                          refine z_goto rfl ?_
                          refine z_istore 161 rfl rfl rfl rfl ?_
                          refine z_iinc 164 _ rfl rfl rfl rfl (by first | with_reducible exact zi_1 _ | rfl) ?_
                          refine z_goto rfl ?_
                          have h9 := fun o5 => ih (s9 + 1) (lnU W (some xb) (wrPg A P 0 A.uns 1000000 s9).2.2.length) _ h o5 (by omega) (by omega) (by rw [hL, lnF_s (by omega), if_pos hon, if_pos hcd]) hR hI3 (lnU_b hob (by omega))
                          rw [show lnU W (some xb) (wrPg A P 0 A.uns 1000000 s9).2.2.length = some (wrPg A P 0 A.uns 1000000 s9).2.2.length from if_pos (by omega)] at h9
                          exact h9 _
                  · rw [show wrI (wrPg A P 0 A.uns 1000000 s9) = -10 from by rw [wrI, if_neg (by omega), if_pos hcd]]
                    rw [if_pos hcd] at hI3
                    refine z_istore 114 rfl rfl rfl rfl ?_
                    refine z_aload 115 rfl rfl rfl ?_
                    refine z_push 116 (nI 0) rfl rfl rfl ?_
                    refine y_pi 119 hR rfl rfl rfl rfl rfl (mFb rfl (by decide)) ?_
                    intro h hR
                    refine z_iload 121 rfl rfl rfl ?_
                    refine z_jge 124 rfl rfl (fun h9 => absurd h9 (by decide)) (fun _ => ?_)
                    refine z_aload 125 rfl rfl rfl ?_
                    refine z_iload 127 rfl rfl rfl ?_
                    refine z_cv1 130 rfl rfl hR.1 rfl (Nat.le_refl _) (Nat.le_refl _) ?_
                    refine r_tell hR (fun h9 => absurd h9 (by decide)) (fun _ h hR => ?_)
                    refine z_ireti rfl (Nat.le_refl _) (Nat.le_refl _) ?_
                    rw [hL, lnF_s (by omega), if_pos hon, if_neg (by omega), if_pos hcd] at q
                    rw [show wrI (wrPg A P 0 A.uns 1000000 s9) = -10 from by rw [wrI, if_neg (by omega), if_pos hcd]] at q
                    exact q h _ hR hI3.tell
                  · rw [show wrI (wrPg A P 0 A.uns 1000000 s9) = -6 from by rw [wrI, if_neg hcd.1, if_neg hcd.2]]
                    rw [if_neg hcd.2, wPlc_id] at hI3
                    refine z_istore 114 rfl rfl rfl rfl ?_
                    refine z_aload 115 rfl rfl rfl ?_
                    refine z_push 116 (nI 0) rfl rfl rfl ?_
                    refine y_pi 119 hR rfl rfl rfl rfl rfl (mFb rfl (by decide)) ?_
                    intro h hR
                    refine z_iload 121 rfl rfl rfl ?_
                    refine z_jge 124 rfl rfl (fun h9 => absurd h9 (by decide)) (fun _ => ?_)
                    refine z_aload 125 rfl rfl rfl ?_
                    refine z_iload 127 rfl rfl rfl ?_
                    refine z_cv1 130 rfl rfl hR.1 rfl (Nat.le_refl _) (Nat.le_refl _) ?_
                    refine r_tell hR (fun h9 => absurd h9 (by decide)) (fun _ h hR => ?_)
                    refine z_ireti rfl (Nat.le_refl _) (Nat.le_refl _) ?_
                    rw [hL, lnF_s (by omega), if_pos hon, if_neg (by omega), if_neg hcd.2] at q
                    rw [show wrI (wrPg A P 0 A.uns 1000000 s9) = -6 from by rw [wrI, if_neg hcd.1, if_neg hcd.2]] at q
                    exact q h _ hR hI3.tell
                · refine z_iload 82 rfl rfl rfl ?_
                  first | refine z_zle 85 rfl rfl (by omega) (fun hc82 => ?_) (fun hc82 => ?_)
                  · have hon : lnOn A P s9 = true := by
                      simp only [lnOn, hc68, Bool.true_and, Bool.or_eq_true, decide_eq_true_eq]
                      omega
                    have hso : SOk (pgK A.pgs P) (pgH A.pgs P) s9 := ⟨by omega, fun _ => ⟨by omega, hc68⟩⟩
                    refine z_aload 89 rfl rfl rfl ?_
                    refine z_push 90 (nI 1) rfl rfl rfl ?_
                    refine y_pi 93 hR rfl rfl rfl rfl rfl (mFb rfl (by decide)) ?_
                    intro h hR
                    refine z_aload 94 rfl rfl rfl ?_
                    refine z_iload 95 rfl rfl rfl ?_
                    refine z_push 96 (nI 0) rfl rfl rfl ?_
                    refine z_aload 97 rfl rfl rfl ?_
                    refine y_ga 100 hR rfl rfl rfl ?_
                    refine z_aload 101 rfl rfl rfl ?_
                    refine y_gi 104 _ hR rfl rfl rfl rfl rfl (by repeat (first | with_reducible exact gI_eq _ _ _ | (with_reducible apply gI_ne; decide) | with_reducible apply gI_A | with_reducible apply gI_O | with_reducible exact hBt _ (by omega) | with_reducible exact k1 | with_reducible exact k16 | with_reducible rfl)) ?_
                    refine z_iload 106 rfl rfl rfl ?_
                    refine z_push 109 (nI 1000000) rfl rfl rfl ?_
                    refine z_cv6 112 rfl rfl hR.1 rfl (Nat.le_refl _) (Nat.le_refl _) ?_
                    refine r_writeAll (F := A.fbs) (f := 17) (c := true) (m := 1000000) hR (by omega) k1 (hK P hPP) (hI2.1.2.2 P hPP).2.2 (hB P hPP) (hGd P hPP hc20) hso wA1 (by omega) hI2.2.2.2.2.1.2 (nPt_lt hs2) hI2.2.2.2.2.2.1 hFW hFd (gI_eq _ _ _) rfl l16 (by omega) (by decide) hI2.2.2.1.2.2 hub (fun h s3 hR hKp g22 hfa hok => ?_)
                    rw [show wrAll A.fbs (pgK A.pgs P) (pgE A.pgs P) (pgH A.pgs P) 0 A.sgn.2 A.uns 1000000 s9 = (wrPg A P 0 A.uns 1000000 s9) from rfl] at hok g22 ⊢
                    have hI3 := hI2.cnt hKp
                    rw [g22, show (stI 48 1 s2).1 22 = A.plc from hI2.2.2.2.2.2.2.2.1] at hI3
                    have hcd : (wrPg A P 0 A.uns 1000000 s9).1 = 0 ∨ (wrPg A P 0 A.uns 1000000 s9).1 = 1 ∨ ((wrPg A P 0 A.uns 1000000 s9).1 ≠ 0 ∧ (wrPg A P 0 A.uns 1000000 s9).1 ≠ 1) := by omega
                    rcases hcd with hcd | hcd | hcd
                    · obtain ⟨hk1, hk2, hk3⟩ := hok hcd
                      rw [show wrI (wrPg A P 0 A.uns 1000000 s9) = nI (wrPg A P 0 A.uns 1000000 s9).2.2.length from if_pos hcd]
                      have hm9 : (nI (wrPg A P 0 A.uns 1000000 s9).2.2.length).toInt = ((wrPg A P 0 A.uns 1000000 s9).2.2.length : Int) := nI_toInt (by omega)
                      rw [if_neg (by omega), wPlc_id] at hI3
                      refine z_istore 114 rfl rfl rfl rfl ?_
                      refine z_aload 115 rfl rfl rfl ?_
                      refine z_push 116 (nI 0) rfl rfl rfl ?_
                      refine y_pi 119 hR rfl rfl rfl rfl rfl (mFb rfl (by decide)) ?_
                      intro h hR
                      refine z_iload 121 rfl rfl rfl ?_
                      refine z_jge 124 rfl rfl (fun _ => ?_) (fun h9 => absurd h9 (by omega))
                      rcases b with _ | xb
                      · simp only [oI]
                        refine z_iload 132 rfl rfl rfl ?_
                        refine z_jlt 135 rfl rfl (fun _ => ?_) (fun h9 => absurd h9 (by decide))
                        refine z_iload 156 rfl rfl rfl ?_
                        refine z_goto rfl ?_
                        refine z_istore 161 rfl rfl rfl rfl ?_
                        refine z_iinc 164 _ rfl rfl rfl rfl (by first | with_reducible exact zi_1 _ | rfl) ?_
                        refine z_goto rfl ?_
                        have h9 := fun o5 => ih (s9 + 1) (lnU W none (wrPg A P 0 A.uns 1000000 s9).2.2.length) _ h o5 (by omega) (by omega) (by rw [hL, lnF_s (by omega), if_pos hon, if_pos hcd]) hR hI3 (lnU_b hob (by omega))
                        rw [show lnU W none (wrPg A P 0 A.uns 1000000 s9).2.2.length = some (wrPg A P 0 A.uns 1000000 s9).2.2.length from rfl] at h9
                        exact h9 _
                      · simp only [oI]
                        have hx9 := hob xb rfl
                        refine z_iload 132 rfl rfl rfl ?_
                        refine z_zlt 135 rfl rfl (by omega) (fun h9 => absurd h9 (by omega)) (fun _ => ?_)
                        refine z_iload 136 rfl rfl rfl ?_
                        first | refine z_zne 139 rfl rfl (by omega) (fun hc136 => ?_) (fun hc136 => ?_)
                        · refine z_iload 150 rfl rfl rfl ?_
                          refine z_iload 151 rfl rfl rfl ?_
                          refine z_nle 154 rfl rfl (by omega) (by omega) (fun hc151 => ?_) (fun hc151 => ?_)
                          · refine z_iload 160 rfl rfl rfl ?_
                            refine z_istore 161 rfl rfl rfl rfl ?_
                            refine z_iinc 164 _ rfl rfl rfl rfl (by first | with_reducible exact zi_1 _ | rfl) ?_
                            refine z_goto rfl ?_
                            have h9 := fun o5 => ih (s9 + 1) (lnU W (some xb) (wrPg A P 0 A.uns 1000000 s9).2.2.length) _ h o5 (by omega) (by omega) (by rw [hL, lnF_s (by omega), if_pos hon, if_pos hcd]) hR hI3 (lnU_b hob (by omega))
                            rw [show lnU W (some xb) (wrPg A P 0 A.uns 1000000 s9).2.2.length = some xb from if_neg (by omega)] at h9
                            exact h9 _
                          · refine z_iload 156 rfl rfl rfl ?_
                            refine z_goto rfl ?_
                            refine z_istore 161 rfl rfl rfl rfl ?_
                            refine z_iinc 164 _ rfl rfl rfl rfl (by first | with_reducible exact zi_1 _ | rfl) ?_
                            refine z_goto rfl ?_
                            have h9 := fun o5 => ih (s9 + 1) (lnU W (some xb) (wrPg A P 0 A.uns 1000000 s9).2.2.length) _ h o5 (by omega) (by omega) (by rw [hL, lnF_s (by omega), if_pos hon, if_pos hcd]) hR hI3 (lnU_b hob (by omega))
                            rw [show lnU W (some xb) (wrPg A P 0 A.uns 1000000 s9).2.2.length = some (wrPg A P 0 A.uns 1000000 s9).2.2.length from if_pos (by omega)] at h9
                            exact h9 _
                        · refine z_iload 141 rfl rfl rfl ?_
                          refine z_iload 142 rfl rfl rfl ?_
                          refine z_nge 145 rfl rfl (by omega) (by omega) (fun hc142 => ?_) (fun hc142 => ?_)
                          · refine z_iload 160 rfl rfl rfl ?_
                            refine z_istore 161 rfl rfl rfl rfl ?_
                            refine z_iinc 164 _ rfl rfl rfl rfl (by first | with_reducible exact zi_1 _ | rfl) ?_
                            refine z_goto rfl ?_
                            have h9 := fun o5 => ih (s9 + 1) (lnU W (some xb) (wrPg A P 0 A.uns 1000000 s9).2.2.length) _ h o5 (by omega) (by omega) (by rw [hL, lnF_s (by omega), if_pos hon, if_pos hcd]) hR hI3 (lnU_b hob (by omega))
                            rw [show lnU W (some xb) (wrPg A P 0 A.uns 1000000 s9).2.2.length = some xb from if_neg (by omega)] at h9
                            exact h9 _
                          · refine z_goto rfl ?_
                            refine z_iload 156 rfl rfl rfl ?_
                            refine z_goto rfl ?_
                            refine z_istore 161 rfl rfl rfl rfl ?_
                            refine z_iinc 164 _ rfl rfl rfl rfl (by first | with_reducible exact zi_1 _ | rfl) ?_
                            refine z_goto rfl ?_
                            have h9 := fun o5 => ih (s9 + 1) (lnU W (some xb) (wrPg A P 0 A.uns 1000000 s9).2.2.length) _ h o5 (by omega) (by omega) (by rw [hL, lnF_s (by omega), if_pos hon, if_pos hcd]) hR hI3 (lnU_b hob (by omega))
                            rw [show lnU W (some xb) (wrPg A P 0 A.uns 1000000 s9).2.2.length = some (wrPg A P 0 A.uns 1000000 s9).2.2.length from if_pos (by omega)] at h9
                            exact h9 _
                    · rw [show wrI (wrPg A P 0 A.uns 1000000 s9) = -10 from by rw [wrI, if_neg (by omega), if_pos hcd]]
                      rw [if_pos hcd] at hI3
                      refine z_istore 114 rfl rfl rfl rfl ?_
                      refine z_aload 115 rfl rfl rfl ?_
                      refine z_push 116 (nI 0) rfl rfl rfl ?_
                      refine y_pi 119 hR rfl rfl rfl rfl rfl (mFb rfl (by decide)) ?_
                      intro h hR
                      refine z_iload 121 rfl rfl rfl ?_
                      refine z_jge 124 rfl rfl (fun h9 => absurd h9 (by decide)) (fun _ => ?_)
                      refine z_aload 125 rfl rfl rfl ?_
                      refine z_iload 127 rfl rfl rfl ?_
                      refine z_cv1 130 rfl rfl hR.1 rfl (Nat.le_refl _) (Nat.le_refl _) ?_
                      refine r_tell hR (fun h9 => absurd h9 (by decide)) (fun _ h hR => ?_)
                      refine z_ireti rfl (Nat.le_refl _) (Nat.le_refl _) ?_
                      rw [hL, lnF_s (by omega), if_pos hon, if_neg (by omega), if_pos hcd] at q
                      rw [show wrI (wrPg A P 0 A.uns 1000000 s9) = -10 from by rw [wrI, if_neg (by omega), if_pos hcd]] at q
                      exact q h _ hR hI3.tell
                    · rw [show wrI (wrPg A P 0 A.uns 1000000 s9) = -6 from by rw [wrI, if_neg hcd.1, if_neg hcd.2]]
                      rw [if_neg hcd.2, wPlc_id] at hI3
                      refine z_istore 114 rfl rfl rfl rfl ?_
                      refine z_aload 115 rfl rfl rfl ?_
                      refine z_push 116 (nI 0) rfl rfl rfl ?_
                      refine y_pi 119 hR rfl rfl rfl rfl rfl (mFb rfl (by decide)) ?_
                      intro h hR
                      refine z_iload 121 rfl rfl rfl ?_
                      refine z_jge 124 rfl rfl (fun h9 => absurd h9 (by decide)) (fun _ => ?_)
                      refine z_aload 125 rfl rfl rfl ?_
                      refine z_iload 127 rfl rfl rfl ?_
                      refine z_cv1 130 rfl rfl hR.1 rfl (Nat.le_refl _) (Nat.le_refl _) ?_
                      refine r_tell hR (fun h9 => absurd h9 (by decide)) (fun _ h hR => ?_)
                      refine z_ireti rfl (Nat.le_refl _) (Nat.le_refl _) ?_
                      rw [hL, lnF_s (by omega), if_pos hon, if_neg (by omega), if_neg hcd.2] at q
                      rw [show wrI (wrPg A P 0 A.uns 1000000 s9) = -6 from by rw [wrI, if_neg hcd.1, if_neg hcd.2]] at q
                      exact q h _ hR hI3.tell
                  · refine z_goto rfl ?_
                    refine z_iinc 164 _ rfl rfl rfl rfl (by first | with_reducible exact zi_1 _ | rfl) ?_
                    refine z_goto rfl ?_
                    refine ih (s9 + 1) b s2 h _ (by omega) (by omega) ?_ hR hI2 hob
                    rw [hL, lnF_s (by omega), if_neg (by simp [lnOn, hc77, show ¬ s9 = 0 from by omega])]
        refine z_push 46 (-1) rfl rfl rfl ?_
        refine z_istore 47 rfl rfl rfl rfl ?_
        refine z_push 48 (nI 0) rfl rfl rfl ?_
        refine z_istore 50 rfl rfl rfl rfl ?_
        exact loop 5 0 none s h _ (by omega) (by omega) rfl hR hI (fun x hx => by cases hx)
      · refine z_aload 40 rfl rfl rfl ?_
        refine z_push 41 (-1) rfl rfl rfl ?_
        refine z_cv1 44 rfl rfl hR.1 rfl (Nat.le_refl _) (Nat.le_refl _) ?_
        refine r_tell hR (fun h9 => absurd h9 (by decide)) (fun _ h hR => ?_)
        refine z_ireti rfl (Nat.le_refl _) (Nat.le_refl _) ?_
        rw [decide_eq_false_iff_not] at hc36
        have e9 : sp_lengths A (nI P) w = (-1, A.tell) := by rw [sp_lengths, if_pos hc5, hp2, if_pos hc20, if_neg (by omega)]
        rw [e9] at q
        exact q h _ hR hI.tell
    · refine z_aload 24 rfl rfl rfl ?_
      refine z_push 26 (-5) rfl rfl rfl ?_
      refine z_cv1 29 rfl rfl hR.1 rfl (Nat.le_refl _) (Nat.le_refl _) ?_
      refine r_tell hR (fun h9 => absurd h9 (by decide)) (fun _ h hR => ?_)
      refine z_ireti rfl (Nat.le_refl _) (Nat.le_refl _) ?_
      have e9 : sp_lengths A (nI P) w = (-5, A.tell) := by rw [sp_lengths, if_pos hc5, hp2, if_neg (by rw [hc20]; decide)]
      rw [e9] at q
      exact q h _ hR hI.tell
  · refine z_aload 9 rfl rfl rfl ?_
    refine z_push 10 (-1) rfl rfl rfl ?_
    refine z_cv1 13 rfl rfl hR.1 rfl (Nat.le_refl _) (Nat.le_refl _) ?_
    refine r_tell hR (fun h9 => absurd h9 (by decide)) (fun _ h hR => ?_)
    refine z_ireti rfl (Nat.le_refl _) (Nat.le_refl _) ?_
    rw [decide_eq_false_iff_not] at hc5
    have e9 : sp_lengths A p w = (-1, A.tell) := if_neg hc5
    rw [e9] at q
    exact q h _ hR hI.tell
def cvP (K : Nat) (E : List En) (v : Nat) : Bool := nPt v && (fnd K E v).isSome
def cvC (K : Nat) (E : List En) : Nat → Nat → Nat → Nat
  | 0, _, n => n
  | m + 1, v, n => cvC K E m (v + 1) (n + (if cvP K E v = true then 1 else 0))
def sp_coverage (A : Ab) (p f t : Int32) : Int32 × Ab :=
  if 0 ≤ p.toInt ∧ p.toInt < A.pgs.length then
    if pgC A.pgs p.toInt.toNat = true then
      if (0 ≤ f.toInt ∧ f.toInt ≤ 1114111) ∧ (0 ≤ t.toInt ∧ t.toInt ≤ 1114111) ∧ f.toInt ≤ t.toInt ∧ t.toInt - f.toInt < 65536 then (nI (cvC (pgK A.pgs p.toInt.toNat) (pgE A.pgs p.toInt.toNat) (t.toInt.toNat + 1 - f.toInt.toNat) f.toInt.toNat 0), A)
      else (-1, A.tell)
    else (-5, A.tell)
  else (-1, A.tell)
theorem jPoint_nn {x : Nat} (h : x < 2 ^ 31) : jPoint (nI x) = nPt x := by
  rw [jPoint, jHalf, nPt, nI_toInt h]
  congr 1
  · congr 1; rw [eq_iff_iff]; omega
  · congr 2; rw [eq_iff_iff]; omega
theorem cvC_s {K n v c : Nat} {E : List En} (h : v < n) : cvC K E (n - v) v c = cvC K E (n - (v + 1)) (v + 1) (c + (if cvP K E v = true then 1 else 0)) := by
  rw [show n - v = n - (v + 1) + 1 by omega]; rfl
set_option maxRecDepth 100000 in
theorem r_coverage {d r : Nat} {h h0 : mH} {s : rS} {A : Ab} {p f t : Int32} {Q : mP} (hR : Rf r h0 s h) (hI : RInv s A) (hAW : AbW A)  (q : ∀ h' s', Rf r h0 s' h' → RInv s' (sp_coverage A p f t).2 → Q (some (.int (sp_coverage A p f t).1)) h') : mWP (d + 3) 246 [.ref r, .int p, .int f, .int t] h Q := by
  have hG := hI.1
  have hG2 := hG.2.1
  obtain ⟨hB, hK, hGd, hbb, hub, hs1, hs2, hFW, hFd⟩ := hAW
  have f0 : s.1 0 = A.pgs.length := hI.1.1
  have f14 : s.1 14 = A.bys.length := hI.2.1.1
  have f16 : s.1 16 = A.uns.length := hI.2.2.1.1
  have f18 : s.1 18 = A.res.2.length := hI.2.2.2.1.1
  have f19 : s.1 19 = A.res.1 := hI.2.2.2.1.2.2.1
  have f22 : s.1 22 = A.plc := hI.2.2.2.2.2.2.2.1
  have f24 : s.1 24 = A.fnd := hI.2.2.2.2.2.2.2.2.2.1
  have f25 : s.1 25 = A.fbs.length := hI.2.2.2.2.2.1.1
  have f48 : s.1 48 = 0 := hI.2.2.2.2.2.2.2.2.2.2
  have l0 : A.pgs.length ≤ 10 := hI.1.2.1
  have l14 : A.bys.length ≤ 1000 := hI.2.1.2.1
  have l16 : A.uns.length ≤ 1000 := hI.2.2.1.2.1
  have l18 : A.res.2.length ≤ 6000 := hI.2.2.2.1.2.1
  have l25 : A.fbs.length ≤ 40 := hI.2.2.2.2.2.1.2.1
  refine z_in [some (.ref r), some (.int p), some (.int f), some (.int t), none, none] (by rfl) rfl rfl rfl ?_
  refine z_aload 1 rfl rfl rfl ?_
  refine z_iload 2 rfl rfl rfl ?_
  refine z_cv1 5 rfl rfl hR.1 rfl (Nat.le_refl _) (Nat.le_refl _) ?_
  refine r_isPage hR hG.1 hG.2.1 ?_
  first | refine z_bne 8 rfl rfl (fun hc5 => ?_) (fun hc5 => ?_)
  · rw [decide_eq_true_eq] at hc5
    obtain ⟨P, hPP, rfl, hp1, hp2⟩ := ix_of hc5
    obtain ⟨hg1, hg2, hT⟩ := hG.2.2 P hPP
    refine z_aload 15 rfl rfl rfl ?_
    refine y_ga 18 hR rfl rfl rfl ?_
    refine z_iload 19 rfl rfl rfl ?_
    refine y_bb (f := 2) 20 _ hR rfl rfl rfl rfl (by omega) (by repeat (first | with_reducible exact hg2 | with_reducible exact gA_eq _ _ _ _ | (with_reducible apply gA_ne; decide) | with_reducible apply gA_I | with_reducible apply gA_O | (with_reducible apply gA_nj; omega) | with_reducible rfl)) ?_
    first | refine z_bne 23 rfl rfl (fun hc20 => ?_) (fun hc20 => ?_)
    · refine z_iload 31 rfl rfl rfl ?_
      refine z_push 32 (nI 0) rfl rfl rfl ?_
      refine z_push 34 (nI 1114111) rfl rfl rfl ?_
      refine z_cs3 37 rfl rfl rfl (Nat.le_refl _) (Nat.le_refl _) ?_
      refine r_in ?_
      rw [jIn_l (by omega) (by omega)]
      first | refine z_beq 40 rfl rfl (fun hc37 => ?_) (fun hc37 => ?_)
      · refine z_aload 64 rfl rfl rfl ?_
        refine z_push 65 (-1) rfl rfl rfl ?_
        refine z_cv1 68 rfl rfl hR.1 rfl (Nat.le_refl _) (Nat.le_refl _) ?_
        refine r_tell hR (fun h9 => absurd h9 (by decide)) (fun _ h hR => ?_)
        refine z_ireti rfl (Nat.le_refl _) (Nat.le_refl _) ?_
        rw [decide_eq_false_iff_not] at hc37
        have e9 : sp_coverage A (nI P) f t = (-1, A.tell) := by rw [sp_coverage, if_pos hc5, hp2, if_pos hc20, if_neg (fun h9 => hc37 (by have := h9.1; omega))]
        rw [e9] at q
        exact q h _ hR hI.tell
      · refine z_iload 41 rfl rfl rfl ?_
        refine z_push 42 (nI 0) rfl rfl rfl ?_
        refine z_push 44 (nI 1114111) rfl rfl rfl ?_
        refine z_cs3 47 rfl rfl rfl (Nat.le_refl _) (Nat.le_refl _) ?_
        refine r_in ?_
        rw [jIn_l (by omega) (by omega)]
        first | refine z_beq 50 rfl rfl (fun hc47 => ?_) (fun hc47 => ?_)
        · refine z_aload 64 rfl rfl rfl ?_
          refine z_push 65 (-1) rfl rfl rfl ?_
          refine z_cv1 68 rfl rfl hR.1 rfl (Nat.le_refl _) (Nat.le_refl _) ?_
          refine r_tell hR (fun h9 => absurd h9 (by decide)) (fun _ h hR => ?_)
          refine z_ireti rfl (Nat.le_refl _) (Nat.le_refl _) ?_
          rw [decide_eq_false_iff_not] at hc47
          have e9 : sp_coverage A (nI P) f t = (-1, A.tell) := by rw [sp_coverage, if_pos hc5, hp2, if_pos hc20, if_neg (fun h9 => hc47 (by have := h9.2.1; omega))]
          rw [e9] at q
          exact q h _ hR hI.tell
        · rw [decide_eq_true_eq] at hc37 hc47
          obtain ⟨f, hfl, rfl, hf1, hf2⟩ := ix_of (x := f) (n := 1114112) (by omega)
          obtain ⟨t, htl, rfl, ht1, ht2⟩ := ix_of (x := t) (n := 1114112) (by omega)
          refine z_iload 51 rfl rfl rfl ?_
          refine z_iload 52 rfl rfl rfl ?_
          refine z_tlt 55 rfl rfl (fun hc52 => ?_) (fun hc52 => ?_)
          · refine z_aload 64 rfl rfl rfl ?_
            refine z_push 65 (-1) rfl rfl rfl ?_
            refine z_cv1 68 rfl rfl hR.1 rfl (Nat.le_refl _) (Nat.le_refl _) ?_
            refine r_tell hR (fun h9 => absurd h9 (by decide)) (fun _ h hR => ?_)
            refine z_ireti rfl (Nat.le_refl _) (Nat.le_refl _) ?_
            have e9 : sp_coverage A (nI P) (nI f) (nI t) = (-1, A.tell) := by rw [sp_coverage, if_pos hc5, hp2, if_pos hc20, if_neg (by omega)]
            rw [e9] at q
            exact q h _ hR hI.tell
          · refine z_iload 56 rfl rfl rfl ?_
            refine z_iload 57 rfl rfl rfl ?_
            refine z_bop 58 _ rfl rfl (by first | with_reducible exact zb_1 (by omega) | exact zd_1 _ _) ?_
            refine z_push 60 (nI 65536) rfl rfl rfl ?_
            refine z_nlt 63 rfl rfl (by omega) (by omega) (fun hc60 => ?_) (fun hc60 => ?_)
            · have e9 : sp_coverage A (nI P) (nI f) (nI t) = (nI (cvC (pgK A.pgs P) (pgE A.pgs P) (t + 1 - f) f 0), A) := by
                rw [sp_coverage, if_pos hc5, hp2, if_pos hc20, if_pos ⟨by omega, by omega, by omega, by omega⟩, ht2, hf2]
              have loop : ∀ m v n s1 h, t + 1 < v + m → v ≤ t + 1 → n ≤ v → cvC (pgK A.pgs P) (pgE A.pgs P) (t + 1 - f) f 0 = cvC (pgK A.pgs P) (pgE A.pgs P) (t + 1 - v) v n → Rf r h0 s1 h → RInv s1 A → mZ (d + 2) tk_246 0 0 Q 75 [some (.ref r), some (.int (nI P)), some (.int (nI f)), some (.int (nI t)), some (.int (nI n)), some (.int (nI v))] [] h 0 0 := by
                intro m
                induction m with
                | zero => intro v n s1 h h1 h2; omega
                | succ m ih =>
                  intro v n s1 h h1 h2 h3 hC hR hI1
                  refine z_iload 77 rfl rfl rfl ?_
                  refine z_iload 78 rfl rfl rfl ?_
                  refine z_ngt 81 rfl rfl (by omega) (by omega) (fun hc78 => ?_) (fun hc78 => ?_)
                  · refine z_iload 117 rfl rfl rfl ?_
                    refine z_ireti rfl (Nat.le_refl _) (Nat.le_refl _) ?_
                    rw [e9, hC, show t + 1 - v = 0 by omega] at q
                    exact q h s1 hR hI1
                  · refine z_iload 83 rfl rfl rfl ?_
                    refine z_iload 85 rfl rfl rfl ?_
                    refine z_cs1 88 rfl rfl rfl (Nat.le_refl _) (Nat.le_refl _) ?_
                    refine r_isPoint ?_
                    rw [jPoint_nn (by omega)]
                    generalize hjq : nPt v = jq
                    first | refine z_beq 91 rfl rfl (fun hc88 => ?_) (fun hc88 => ?_)
                    · refine z_push 106 (nI 0) rfl rfl rfl ?_
                      refine z_bop 107 _ rfl rfl (by first | with_reducible exact zb_0 _ _ | exact zd_0 _ _) ?_
                      refine z_istore 109 rfl rfl rfl rfl ?_
                      refine z_iinc 112 _ rfl rfl rfl rfl (by first | with_reducible exact zi_1 _ | rfl) ?_
                      refine z_goto rfl ?_
                      refine ih (v + 1) (n + 0) s1 h (by omega) (by omega) (by omega) ?_ hR hI1
                      rw [hC, cvC_s (by omega), if_neg (by rw [cvP, hjq, hc88]; simp)]
                    · refine z_aload 92 rfl rfl rfl ?_
                      refine z_iload 93 rfl rfl rfl ?_
                      refine z_iload 95 rfl rfl rfl ?_
                      refine z_cv2 98 rfl rfl hR.1 rfl (Nat.le_refl _) (Nat.le_refl _) ?_
                      refine r_find hR (by omega) (hI1.1.2.2 P hPP).1 (hK P hPP) (hI1.1.2.2 P hPP).2.2 (hB P hPP) (by omega) (fun h s2 hR hO2 hF => ?_)
                      have hI2 := hI1.k0 (hO2.keep (by decide)) (hO2.1 22 (by decide)).1
                      rcases hfn : fnd (pgK A.pgs P) (pgE A.pgs P) v with _ | x
                      · simp only [Option.isSome]
                        refine z_beq 101 rfl rfl (fun _ => ?_) (fun h9 => absurd h9 (by decide))
                        refine z_push 106 (nI 0) rfl rfl rfl ?_
                        refine z_bop 107 _ rfl rfl (by first | with_reducible exact zb_0 _ _ | exact zd_0 _ _) ?_
                        refine z_istore 109 rfl rfl rfl rfl ?_
                        refine z_iinc 112 _ rfl rfl rfl rfl (by first | with_reducible exact zi_1 _ | rfl) ?_
                        refine z_goto rfl ?_
                        refine ih (v + 1) (n + 0) s2 h (by omega) (by omega) (by omega) ?_ hR hI2
                        rw [hC, cvC_s (by omega), if_neg (by rw [cvP, hfn]; simp)]
                      · simp only [Option.isSome]
                        refine z_beq 101 rfl rfl (fun h9 => absurd h9 (by decide)) (fun _ => ?_)
                        refine z_push 102 (nI 1) rfl rfl rfl ?_
                        refine z_goto rfl ?_
                        refine z_bop 107 _ rfl rfl (by first | with_reducible exact zb_0 _ _ | exact zd_0 _ _) ?_
                        refine z_istore 109 rfl rfl rfl rfl ?_
                        refine z_iinc 112 _ rfl rfl rfl rfl (by first | with_reducible exact zi_1 _ | rfl) ?_
                        refine z_goto rfl ?_
                        refine ih (v + 1) (n + 1) s2 h (by omega) (by omega) (by omega) ?_ hR hI2
                        rw [hC, cvC_s (by omega), if_pos (by rw [cvP, hfn, hjq, hc88]; rfl)]
              refine z_push 70 (nI 0) rfl rfl rfl ?_
              refine z_istore 72 rfl rfl rfl rfl ?_
              refine z_iload 73 rfl rfl rfl ?_
              refine z_istore 75 rfl rfl rfl rfl ?_
              exact loop (t + 2 - f) f 0 s h (by omega) (by omega) (by omega) rfl hR hI
            · refine z_aload 64 rfl rfl rfl ?_
              refine z_push 65 (-1) rfl rfl rfl ?_
              refine z_cv1 68 rfl rfl hR.1 rfl (Nat.le_refl _) (Nat.le_refl _) ?_
              refine r_tell hR (fun h9 => absurd h9 (by decide)) (fun _ h hR => ?_)
              refine z_ireti rfl (Nat.le_refl _) (Nat.le_refl _) ?_
              have e9 : sp_coverage A (nI P) (nI f) (nI t) = (-1, A.tell) := by rw [sp_coverage, if_pos hc5, hp2, if_pos hc20, if_neg (by omega)]
              rw [e9] at q
              exact q h _ hR hI.tell
    · refine z_aload 24 rfl rfl rfl ?_
      refine z_push 26 (-5) rfl rfl rfl ?_
      refine z_cv1 29 rfl rfl hR.1 rfl (Nat.le_refl _) (Nat.le_refl _) ?_
      refine r_tell hR (fun h9 => absurd h9 (by decide)) (fun _ h hR => ?_)
      refine z_ireti rfl (Nat.le_refl _) (Nat.le_refl _) ?_
      have e9 : sp_coverage A (nI P) f t = (-5, A.tell) := by rw [sp_coverage, if_pos hc5, hp2, if_neg (by rw [hc20]; decide)]
      rw [e9] at q
      exact q h _ hR hI.tell
  · refine z_aload 9 rfl rfl rfl ?_
    refine z_push 10 (-1) rfl rfl rfl ?_
    refine z_cv1 13 rfl rfl hR.1 rfl (Nat.le_refl _) (Nat.le_refl _) ?_
    refine r_tell hR (fun h9 => absurd h9 (by decide)) (fun _ h hR => ?_)
    refine z_ireti rfl (Nat.le_refl _) (Nat.le_refl _) ?_
    rw [decide_eq_false_iff_not] at hc5
    have e9 : sp_coverage A p f t = (-1, A.tell) := if_neg hc5
    rw [e9] at q
    exact q h _ hR hI.tell
