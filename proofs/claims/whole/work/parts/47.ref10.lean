/-! the reference: isGood, close -/
def anyB (P : Nat → Bool) : Nat → Bool
  | 0 => false
  | n + 1 => anyB P n || P n
def clh (E : List En) (H : List Sh) (i k : Nat) : Bool := decide (itS E H i = itS E H k) && (bgn E H i k || bgn E H k i)
def gd1 (E : List En) (H : List Sh) : Nat → Nat → Option (Nat × Nat)
  | 0, _ => none
  | m + 1, i => match ffd (clh E H i) (E.length + H.length - (i + 1)) (i + 1) with
    | some k => some (i, k)
    | none => gd1 E H m (i + 1)
def pf2 (E : List En) (pt k : Nat) : Bool := decide (enP E k = pt) && enF E k
def ls2 (E : List En) (o : Option Nat) (i : Nat) : Option Nat := if cnt9 (pf2 E (enP E i)) E.length = 1 then o else match o with
  | none => some (enP E i)
  | some x => if enP E i < x then some (enP E i) else some x
def gd2 (E : List En) : Nat → Nat → Option Nat → Option Nat
  | 0, _, o => o
  | m + 1, i, o => gd2 E m (i + 1) (ls2 E o i)
def gd3P (H : List Sh) (s : Nat) : Bool := (rchd H).testBit s && !hmS H s
def sg4 (E : List En) (H : List Sh) (i k : Nat) : Bool := !shK H k && (rchd H).testBit (shS H k) && decide (shG H k = enS E i)
def gd4P (E : List En) (H : List Sh) (i : Nat) : Bool := enF E i && !(rchd H).testBit (enS E i) && !anyB (sg4 E H i) H.length
/-- the first rule that is broken, and where; none: the table is good -/
def gdA (E : List En) (H : List Sh) : Option (Nat × Nat × Nat) := match gd1 E H (E.length + H.length) 0 with
  | some x => some (1, itO E x.1, itO E x.2)
  | none => match gd2 E E.length 0 none with
    | some pt => some (2, pt, 0)
    | none => match ffd (gd3P H) 4 0 with
      | some s => some (3, s, 0)
      | none => match ffd (gd4P E H) E.length 0 with
        | some i => some (4, i, 0)
        | none => none
def fGd : Nat → Bool := fun f => Nat.beq f 29 || Nat.beq f 30
theorem fGd_n {f : Nat} (h : f ≠ 29) (h2 : f ≠ 30) : fGd f = false := by simp [fGd, nbf h, nbf h2]
theorem gd1_s {E : List En} {H : List Sh} {n i : Nat} (h : i < n) : gd1 E H (n - i) i = match ffd (clh E H i) (E.length + H.length - (i + 1)) (i + 1) with
    | some k => some (i, k)
    | none => gd1 E H (n - (i + 1)) (i + 1) := by
  rw [show n - i = n - (i + 1) + 1 by omega]; rfl
theorem gd2_s {E : List En} {n i : Nat} {o : Option Nat} (h : i < n) : gd2 E (n - i) i o = gd2 E (n - (i + 1)) (i + 1) (ls2 E o i) := by
  rw [show n - i = n - (i + 1) + 1 by omega]; rfl
theorem itO_lt {E : List En} {H : List Sh} (hW : TbW E H) {i : Nat} (h : i < E.length + H.length) : itO E i < 2 ^ 31 := by
  have := hW.1
  have := hW.2.1
  unfold itO
  split <;> omega
theorem ls2_lt {E : List En} {H : List Sh} (hW : TbW E H) {i : Nat} (hi : i < E.length) {o : Option Nat} (ho : ∀ x, o = some x → x < 2 ^ 31) {x : Nat} (h : ls2 E o i = some x) : x < 2 ^ 31 := by
  have h1 := nPt_lt (hW.2.2.1 i hi).2.2.2.2
  unfold ls2 at h
  split at h
  · exact ho x h
  · split at h
    · cases h; omega
    · split at h
      · cases h; omega
      · cases h; exact ho _ rfl
set_option maxRecDepth 10000 in
theorem r_isGood {d r : Nat} {h h0 : mH} {s : rS} {p : Nat} {E : List En} {H : List Sh} {Q : mP} (hR : Rf r h0 s h) (hT : TbR s p E H) (hW : TbW E H)  (q : ∀ h' s', Rf r h0 s' h' → OnA fGd s s' → (∀ a b c, gdA E H = some (a, b, c) → s'.2.2 30 0 = a ∧ s'.2.2 30 1 = b ∧ s'.2.2 30 2 = c) → Q (some (.int (bI (gdA E H).isNone))) h') : mWP (d + 3) 197 [.ref r, .int (nI p)] h Q := by
  obtain ⟨hp, hT3, hT4, hTe, hTs⟩ := id hT
  have hl := hW.1
  have hl2 := hW.2.1
  have ph4 : ∀ m i s1 h x3 o5 o6 o7, E.length < i + m → i ≤ E.length → ffd (gd4P E H) E.length 0 = ffd (gd4P E H) (E.length - i) i → gd1 E H (E.length + H.length) 0 = none → gd2 E E.length 0 none = none → ffd (gd3P H) 4 0 = none → Rf r h0 s1 h → OnA fGd s s1 → Bt s1 (rchd H) → mZ (d + 2) tk_197 0 0 Q 285 [some (.ref r), some (.int (nI p)), some (.int (nI (E.length + H.length))), some (.int x3), some (.int (nI i)), o5, o6, o7] [] h 0 0 := by
    intro m
    induction m with
    | zero => intro i s1 h x3 o5 o6 o7 h1 h2; omega
    | succ m ih =>
      intro i s1 h x3 o5 o6 o7 h1 h2 hI g1 g2 g3 hR hO hBt0
      have hBt : ∀ j, j < 4 → s1.2.2 29 j = b2 ((rchd H).testBit j) := hBt0
      obtain ⟨hp', hT3, hT4, hTe, hTs⟩ := hO.tb (fun f hf => fGd_n (by omega) (by omega)) hT
      have hWi := hW.2.2.1 i
      have inner : ∀ m k, H.length < k + m → k ≤ H.length → i < E.length → mZ (d + 2) tk_197 0 0 Q 418 [some (.ref r), some (.int (nI p)), some (.int (nI (E.length + H.length))), some (.int x3), some (.int (nI i)), some (.int (nI (100 * p + i))), some (.int (bI (anyB (sg4 E H i) H.length))), some (.int (nI (10 * p + H.length)))] [] h 0 0 → mZ (d + 2) tk_197 0 0 Q 342 [some (.ref r), some (.int (nI p)), some (.int (nI (E.length + H.length))), some (.int x3), some (.int (nI i)), some (.int (nI (100 * p + i))), some (.int (bI (anyB (sg4 E H i) k))), some (.int (nI (10 * p + k)))] [] h 0 0 := by
        intro m
        induction m with
        | zero => intro k h1 h2; omega
        | succ m ih =>
          intro k h1 h2 hi K
          have hWk := hW.2.2.2 k
          have hWj := hWi hi
          refine z_iload 344 rfl rfl rfl ?_
          refine z_push 346 (nI 10) rfl rfl rfl ?_
          refine z_iload 347 rfl rfl rfl ?_
          refine z_bop 348 _ rfl rfl (by first | with_reducible exact zb_2 _ _ | exact zd_2 _ _) ?_
          refine z_aload 349 rfl rfl rfl ?_
          refine y_ga 352 hR rfl rfl rfl ?_
          refine z_iload 353 rfl rfl rfl ?_
          refine y_al (f := 4) 354 _ hR rfl rfl rfl rfl (by omega) (by repeat (first | with_reducible exact hT3 | with_reducible exact hT4 | with_reducible exact (hTe i (by omega)).1 | with_reducible exact (hTe i (by omega)).2.2.2.1 | with_reducible exact (hTe i (by omega)).2.2.2.2 | with_reducible exact (hTe k (by omega)).2.2.2.1 | with_reducible exact (hTe k (by omega)).2.2.2.2 | with_reducible exact (hTs k (by omega)).1 | with_reducible exact (hTs k (by omega)).2.2.1 | with_reducible exact (hTs k (by omega)).2.2.2 | with_reducible exact hBt _ (by omega) | with_reducible exact gA_eq _ _ _ _ | (with_reducible apply gA_ne; decide) | with_reducible apply gA_I | with_reducible apply gA_O | (with_reducible apply gA_nj; omega) | with_reducible rfl)) ?_
          refine z_bop 355 _ rfl rfl (by first | with_reducible exact zb_0 _ _ | exact zd_0 _ _) ?_
          refine z_nge 358 rfl rfl (by omega) (by omega) (fun hc355 => ?_) (fun hc355 => ?_)
          · obtain rfl : k = H.length := by omega
            exact K
          · have hWl := hWk (by omega)
            refine z_iload 360 rfl rfl rfl ?_
            first | refine z_bne 363 rfl rfl (fun hc360 => ?_) (fun hc360 => ?_)
            · refine z_push 406 (nI 1) rfl rfl rfl ?_
              refine z_goto rfl ?_
              refine z_istore 412 rfl rfl rfl rfl ?_
              refine z_iinc 415 _ rfl rfl rfl rfl (by first | with_reducible exact zi_1 _ | rfl) ?_
              refine z_goto rfl ?_
              have h9 := ih (k + 1) (by omega) (by omega) hi K
              rw [show anyB (sg4 E H i) (k + 1) = true from by simp [anyB, hc360]] at h9
              exact h9
            · refine z_aload 364 rfl rfl rfl ?_
              refine y_ga 367 hR rfl rfl rfl ?_
              refine z_iload 369 rfl rfl rfl ?_
              refine y_bb (f := 13) 370 _ hR rfl rfl rfl rfl (by omega) (by repeat (first | with_reducible exact hT3 | with_reducible exact hT4 | with_reducible exact (hTe i (by omega)).1 | with_reducible exact (hTe i (by omega)).2.2.2.1 | with_reducible exact (hTe i (by omega)).2.2.2.2 | with_reducible exact (hTe k (by omega)).2.2.2.1 | with_reducible exact (hTe k (by omega)).2.2.2.2 | with_reducible exact (hTs k (by omega)).1 | with_reducible exact (hTs k (by omega)).2.2.1 | with_reducible exact (hTs k (by omega)).2.2.2 | with_reducible exact hBt _ (by omega) | with_reducible exact gA_eq _ _ _ _ | (with_reducible apply gA_ne; decide) | with_reducible apply gA_I | with_reducible apply gA_O | (with_reducible apply gA_nj; omega) | with_reducible rfl)) ?_
              first | refine z_bne 373 rfl rfl (fun hc370 => ?_) (fun hc370 => ?_)
              · refine z_push 410 (nI 0) rfl rfl rfl ?_
                refine z_istore 412 rfl rfl rfl rfl ?_
                refine z_iinc 415 _ rfl rfl rfl rfl (by first | with_reducible exact zi_1 _ | rfl) ?_
                refine z_goto rfl ?_
                have h9 := ih (k + 1) (by omega) (by omega) hi K
                rw [show anyB (sg4 E H i) (k + 1) = false from by simp [anyB, hc360, sg4, hc370]] at h9
                exact h9
              · refine z_aload 374 rfl rfl rfl ?_
                refine y_ga 377 hR rfl rfl rfl ?_
                refine z_aload 378 rfl rfl rfl ?_
                refine y_ga 381 hR rfl rfl rfl ?_
                refine z_iload 383 rfl rfl rfl ?_
                refine y_al (f := 10) 384 _ hR rfl rfl rfl rfl (by omega) (by repeat (first | with_reducible exact hT3 | with_reducible exact hT4 | with_reducible exact (hTe i (by omega)).1 | with_reducible exact (hTe i (by omega)).2.2.2.1 | with_reducible exact (hTe i (by omega)).2.2.2.2 | with_reducible exact (hTe k (by omega)).2.2.2.1 | with_reducible exact (hTe k (by omega)).2.2.2.2 | with_reducible exact (hTs k (by omega)).1 | with_reducible exact (hTs k (by omega)).2.2.1 | with_reducible exact (hTs k (by omega)).2.2.2 | with_reducible exact hBt _ (by omega) | with_reducible exact gA_eq _ _ _ _ | (with_reducible apply gA_ne; decide) | with_reducible apply gA_I | with_reducible apply gA_O | (with_reducible apply gA_nj; omega) | with_reducible rfl)) ?_
                refine y_bb (f := 29) 385 _ hR rfl rfl rfl rfl (by omega) (by repeat (first | with_reducible exact hT3 | with_reducible exact hT4 | with_reducible exact (hTe i (by omega)).1 | with_reducible exact (hTe i (by omega)).2.2.2.1 | with_reducible exact (hTe i (by omega)).2.2.2.2 | with_reducible exact (hTe k (by omega)).2.2.2.1 | with_reducible exact (hTe k (by omega)).2.2.2.2 | with_reducible exact (hTs k (by omega)).1 | with_reducible exact (hTs k (by omega)).2.2.1 | with_reducible exact (hTs k (by omega)).2.2.2 | with_reducible exact hBt _ (by omega) | with_reducible exact gA_eq _ _ _ _ | (with_reducible apply gA_ne; decide) | with_reducible apply gA_I | with_reducible apply gA_O | (with_reducible apply gA_nj; omega) | with_reducible rfl)) ?_
                first | refine z_beq 388 rfl rfl (fun hc385 => ?_) (fun hc385 => ?_)
                · refine z_push 410 (nI 0) rfl rfl rfl ?_
                  refine z_istore 412 rfl rfl rfl rfl ?_
                  refine z_iinc 415 _ rfl rfl rfl rfl (by first | with_reducible exact zi_1 _ | rfl) ?_
                  refine z_goto rfl ?_
                  have h9 := ih (k + 1) (by omega) (by omega) hi K
                  rw [show anyB (sg4 E H i) (k + 1) = false from by simp [anyB, hc360, sg4, hc385]] at h9
                  exact h9
                · refine z_aload 389 rfl rfl rfl ?_
                  refine y_ga 392 hR rfl rfl rfl ?_
                  refine z_iload 394 rfl rfl rfl ?_
                  refine y_al (f := 12) 395 _ hR rfl rfl rfl rfl (by omega) (by repeat (first | with_reducible exact hT3 | with_reducible exact hT4 | with_reducible exact (hTe i (by omega)).1 | with_reducible exact (hTe i (by omega)).2.2.2.1 | with_reducible exact (hTe i (by omega)).2.2.2.2 | with_reducible exact (hTe k (by omega)).2.2.2.1 | with_reducible exact (hTe k (by omega)).2.2.2.2 | with_reducible exact (hTs k (by omega)).1 | with_reducible exact (hTs k (by omega)).2.2.1 | with_reducible exact (hTs k (by omega)).2.2.2 | with_reducible exact hBt _ (by omega) | with_reducible exact gA_eq _ _ _ _ | (with_reducible apply gA_ne; decide) | with_reducible apply gA_I | with_reducible apply gA_O | (with_reducible apply gA_nj; omega) | with_reducible rfl)) ?_
                  refine z_aload 396 rfl rfl rfl ?_
                  refine y_ga 399 hR rfl rfl rfl ?_
                  refine z_iload 401 rfl rfl rfl ?_
                  refine y_al (f := 5) 402 _ hR rfl rfl rfl rfl (by omega) (by repeat (first | with_reducible exact hT3 | with_reducible exact hT4 | with_reducible exact (hTe i (by omega)).1 | with_reducible exact (hTe i (by omega)).2.2.2.1 | with_reducible exact (hTe i (by omega)).2.2.2.2 | with_reducible exact (hTe k (by omega)).2.2.2.1 | with_reducible exact (hTe k (by omega)).2.2.2.2 | with_reducible exact (hTs k (by omega)).1 | with_reducible exact (hTs k (by omega)).2.2.1 | with_reducible exact (hTs k (by omega)).2.2.2 | with_reducible exact hBt _ (by omega) | with_reducible exact gA_eq _ _ _ _ | (with_reducible apply gA_ne; decide) | with_reducible apply gA_I | with_reducible apply gA_O | (with_reducible apply gA_nj; omega) | with_reducible rfl)) ?_
                  refine z_nne 405 rfl rfl (by omega) (by omega) (fun hc402 => ?_) (fun hc402 => ?_)
                  · refine z_push 410 (nI 0) rfl rfl rfl ?_
                    refine z_istore 412 rfl rfl rfl rfl ?_
                    refine z_iinc 415 _ rfl rfl rfl rfl (by first | with_reducible exact zi_1 _ | rfl) ?_
                    refine z_goto rfl ?_
                    have h9 := ih (k + 1) (by omega) (by omega) hi K
                    rw [show anyB (sg4 E H i) (k + 1) = false from by simp [anyB, hc360, sg4, hc402]] at h9
                    exact h9
                  · refine z_push 406 (nI 1) rfl rfl rfl ?_
                    refine z_goto rfl ?_
                    refine z_istore 412 rfl rfl rfl rfl ?_
                    refine z_iinc 415 _ rfl rfl rfl rfl (by first | with_reducible exact zi_1 _ | rfl) ?_
                    refine z_goto rfl ?_
                    have h9 := ih (k + 1) (by omega) (by omega) hi K
                    rw [show anyB (sg4 E H i) (k + 1) = true from by simp [anyB, sg4, hc370, hc385, hc402]] at h9
                    exact h9
      refine z_iload 287 rfl rfl rfl ?_
      refine z_aload 288 rfl rfl rfl ?_
      refine y_ga 291 hR rfl rfl rfl ?_
      refine z_iload 292 rfl rfl rfl ?_
      refine y_al (f := 3) 293 _ hR rfl rfl rfl rfl (by omega) (by repeat (first | with_reducible exact hT3 | with_reducible exact hT4 | with_reducible exact (hTe i (by omega)).1 | with_reducible exact (hTe i (by omega)).2.2.2.1 | with_reducible exact (hTe i (by omega)).2.2.2.2 | with_reducible exact (hTe k (by omega)).2.2.2.1 | with_reducible exact (hTe k (by omega)).2.2.2.2 | with_reducible exact (hTs k (by omega)).1 | with_reducible exact (hTs k (by omega)).2.2.1 | with_reducible exact (hTs k (by omega)).2.2.2 | with_reducible exact hBt _ (by omega) | with_reducible exact gA_eq _ _ _ _ | (with_reducible apply gA_ne; decide) | with_reducible apply gA_I | with_reducible apply gA_O | (with_reducible apply gA_nj; omega) | with_reducible rfl)) ?_
      refine z_nge 296 rfl rfl (by omega) (by omega) (fun hc293 => ?_) (fun hc293 => ?_)
      · refine z_push 439 (nI 1) rfl rfl rfl ?_
        refine z_iretb rfl (Nat.le_refl _) (Nat.le_refl _) (by first | decide | exact bI_01 _) ?_
        have e9 : gdA E H = none := by
          simp only [gdA, g1, g2, g3]
          rw [hI, show E.length - i = 0 by omega]
          rfl
        rw [e9] at q
        exact q h s1 hR hO (fun a b c h9 => by cases h9)
      · have hWj := hWi (by omega)
        refine z_push 298 (nI 100) rfl rfl rfl ?_
        refine z_iload 299 rfl rfl rfl ?_
        refine z_bop 300 _ rfl rfl (by first | with_reducible exact zb_2 _ _ | exact zd_2 _ _) ?_
        refine z_iload 302 rfl rfl rfl ?_
        refine z_bop 303 _ rfl rfl (by first | with_reducible exact zb_0 _ _ | exact zd_0 _ _) ?_
        refine z_istore 305 rfl rfl rfl rfl ?_
        refine z_aload 306 rfl rfl rfl ?_
        refine y_ga 309 hR rfl rfl rfl ?_
        refine z_iload 311 rfl rfl rfl ?_
        refine y_bb (f := 9) 312 _ hR rfl rfl rfl rfl (by omega) (by repeat (first | with_reducible exact hT3 | with_reducible exact hT4 | with_reducible exact (hTe i (by omega)).1 | with_reducible exact (hTe i (by omega)).2.2.2.1 | with_reducible exact (hTe i (by omega)).2.2.2.2 | with_reducible exact (hTe k (by omega)).2.2.2.1 | with_reducible exact (hTe k (by omega)).2.2.2.2 | with_reducible exact (hTs k (by omega)).1 | with_reducible exact (hTs k (by omega)).2.2.1 | with_reducible exact (hTs k (by omega)).2.2.2 | with_reducible exact hBt _ (by omega) | with_reducible exact gA_eq _ _ _ _ | (with_reducible apply gA_ne; decide) | with_reducible apply gA_I | with_reducible apply gA_O | (with_reducible apply gA_nj; omega) | with_reducible rfl)) ?_
        first | refine z_beq 315 rfl rfl (fun hc312 => ?_) (fun hc312 => ?_)
        · refine z_iinc 435 _ rfl rfl rfl rfl (by first | with_reducible exact zi_1 _ | rfl) ?_
          refine z_goto rfl ?_
          refine ih (i + 1) s1 h _ _ _ _ (by omega) (by omega) ?_ g1 g2 g3 hR hO hBt0
          rw [hI, ffd_no (by omega) (by simp [gd4P, hc312])]
        · refine z_aload 316 rfl rfl rfl ?_
          refine y_ga 319 hR rfl rfl rfl ?_
          refine z_aload 320 rfl rfl rfl ?_
          refine y_ga 323 hR rfl rfl rfl ?_
          refine z_iload 325 rfl rfl rfl ?_
          refine y_al (f := 5) 326 _ hR rfl rfl rfl rfl (by omega) (by repeat (first | with_reducible exact hT3 | with_reducible exact hT4 | with_reducible exact (hTe i (by omega)).1 | with_reducible exact (hTe i (by omega)).2.2.2.1 | with_reducible exact (hTe i (by omega)).2.2.2.2 | with_reducible exact (hTe k (by omega)).2.2.2.1 | with_reducible exact (hTe k (by omega)).2.2.2.2 | with_reducible exact (hTs k (by omega)).1 | with_reducible exact (hTs k (by omega)).2.2.1 | with_reducible exact (hTs k (by omega)).2.2.2 | with_reducible exact hBt _ (by omega) | with_reducible exact gA_eq _ _ _ _ | (with_reducible apply gA_ne; decide) | with_reducible apply gA_I | with_reducible apply gA_O | (with_reducible apply gA_nj; omega) | with_reducible rfl)) ?_
          refine y_bb (f := 29) 327 _ hR rfl rfl rfl rfl (by omega) (by repeat (first | with_reducible exact hT3 | with_reducible exact hT4 | with_reducible exact (hTe i (by omega)).1 | with_reducible exact (hTe i (by omega)).2.2.2.1 | with_reducible exact (hTe i (by omega)).2.2.2.2 | with_reducible exact (hTe k (by omega)).2.2.2.1 | with_reducible exact (hTe k (by omega)).2.2.2.2 | with_reducible exact (hTs k (by omega)).1 | with_reducible exact (hTs k (by omega)).2.2.1 | with_reducible exact (hTs k (by omega)).2.2.2 | with_reducible exact hBt _ (by omega) | with_reducible exact gA_eq _ _ _ _ | (with_reducible apply gA_ne; decide) | with_reducible apply gA_I | with_reducible apply gA_O | (with_reducible apply gA_nj; omega) | with_reducible rfl)) ?_
          first | refine z_beq 330 rfl rfl (fun hc327 => ?_) (fun hc327 => ?_)
          · refine z_push 334 (nI 0) rfl rfl rfl ?_
            refine z_istore 336 rfl rfl rfl rfl ?_
            refine z_push 338 (nI 10) rfl rfl rfl ?_
            refine z_iload 339 rfl rfl rfl ?_
            refine z_bop 340 _ rfl rfl (by first | with_reducible exact zb_2 _ _ | exact zd_2 _ _) ?_
            refine z_istore 342 rfl rfl rfl rfl ?_
            refine inner (H.length + 1) 0 (by omega) (by omega) (by omega) ?_
            refine z_iload 420 rfl rfl rfl ?_
            first | refine z_bne 423 rfl rfl (fun hc420 => ?_) (fun hc420 => ?_)
            · refine z_iinc 435 _ rfl rfl rfl rfl (by first | with_reducible exact zi_1 _ | rfl) ?_
              refine z_goto rfl ?_
              refine ih (i + 1) s1 h _ _ _ _ (by omega) (by omega) ?_ g1 g2 g3 hR hO hBt0
              rw [hI, ffd_no (by omega) (by simp [gd4P, hc420])]
            · refine z_aload 424 rfl rfl rfl ?_
              refine z_push 425 (nI 4) rfl rfl rfl ?_
              refine z_iload 427 rfl rfl rfl ?_
              refine z_push 428 (nI 0) rfl rfl rfl ?_
              refine z_cv3 431 rfl rfl hR.1 rfl (Nat.le_refl _) (Nat.le_refl _) ?_
              refine r_breaks hR (fun h hR => ?_)
              refine z_iretb rfl (Nat.le_refl _) (Nat.le_refl _) (by first | decide | exact bI_01 _) ?_
              have e9 : gdA E H = some (4, i, 0) := by
                simp only [gdA, g1, g2, g3]
                rw [hI, ffd_yes (by omega) (by simp [gd4P, hc312, hc327, hc420])]
              rw [e9] at q
              refine q h _ hR (((hO.A rfl).A rfl).A rfl) (fun a b c h9 => ?_)
              cases h9
              refine ⟨?_, ?_, ?_⟩
              · repeat (first | with_reducible exact gA_eq _ _ _ _ | (with_reducible apply gA_ne; decide) | with_reducible apply gA_I | with_reducible apply gA_O | (with_reducible apply gA_nj; omega) | with_reducible rfl | exact gA_eq _ _ _ _)
              · repeat (first | with_reducible exact gA_eq _ _ _ _ | (with_reducible apply gA_ne; decide) | with_reducible apply gA_I | with_reducible apply gA_O | (with_reducible apply gA_nj; omega) | with_reducible rfl | exact gA_eq _ _ _ _)
              · repeat (first | with_reducible exact gA_eq _ _ _ _ | (with_reducible apply gA_ne; decide) | with_reducible apply gA_I | with_reducible apply gA_O | (with_reducible apply gA_nj; omega) | with_reducible rfl | exact gA_eq _ _ _ _)
          · refine z_goto rfl ?_
            refine z_iinc 435 _ rfl rfl rfl rfl (by first | with_reducible exact zi_1 _ | rfl) ?_
            refine z_goto rfl ?_
            refine ih (i + 1) s1 h _ _ _ _ (by omega) (by omega) ?_ g1 g2 g3 hR hO hBt0
            rw [hI, ffd_no (by omega) (by simp [gd4P, hc327])]
  have ph3 : ∀ m i s1 h x3 o5 o6 o7, 4 < i + m → i ≤ 4 → ffd (gd3P H) 4 0 = ffd (gd3P H) (4 - i) i → gd1 E H (E.length + H.length) 0 = none → gd2 E E.length 0 none = none → Rf r h0 s1 h → OnA fGd s s1 → Bt s1 (rchd H) → mZ (d + 2) tk_197 0 0 Q 241 [some (.ref r), some (.int (nI p)), some (.int (nI (E.length + H.length))), some (.int x3), some (.int (nI i)), o5, o6, o7] [] h 0 0 := by
    intro m
    induction m with
    | zero => intro i s1 h x3 o5 o6 o7 h1 h2; omega
    | succ m ih =>
      intro i s1 h x3 o5 o6 o7 h1 h2 hI g1 g2 hR hO hBt0
      have hBt : ∀ j, j < 4 → s1.2.2 29 j = b2 ((rchd H).testBit j) := hBt0
      have hT9 := hO.tb (fun f hf => fGd_n (by omega) (by omega)) hT
      refine z_iload 243 rfl rfl rfl ?_
      refine z_push 244 (nI 4) rfl rfl rfl ?_
      refine z_nge 247 rfl rfl (by omega) (by omega) (fun hc244 => ?_) (fun hc244 => ?_)
      · refine z_push 283 (nI 0) rfl rfl rfl ?_
        refine z_istore 285 rfl rfl rfl rfl ?_
        exact ph4 (E.length + 1) 0 s1 h _ _ _ _ (by omega) (by omega) (by rw [Nat.sub_zero]) g1 g2 (by rw [hI, show 4 - i = 0 by omega]; rfl) hR hO hBt0
      · refine z_aload 248 rfl rfl rfl ?_
        refine y_ga 251 hR rfl rfl rfl ?_
        refine z_iload 253 rfl rfl rfl ?_
        refine y_bb (f := 29) 254 _ hR rfl rfl rfl rfl (by omega) (by repeat (first | with_reducible exact hBt _ (by omega) | with_reducible exact gA_eq _ _ _ _ | (with_reducible apply gA_ne; decide) | with_reducible apply gA_I | with_reducible apply gA_O | (with_reducible apply gA_nj; omega) | with_reducible rfl)) ?_
        first | refine z_beq 257 rfl rfl (fun hc254 => ?_) (fun hc254 => ?_)
        · refine z_iinc 279 _ rfl rfl rfl rfl (by first | with_reducible exact zi_1 _ | rfl) ?_
          refine z_goto rfl ?_
          refine ih (i + 1) s1 h _ _ _ _ (by omega) (by omega) ?_ g1 g2 hR hO hBt0
          rw [hI, ffd_no (by omega) (by simp [gd3P, hc254])]
        · refine z_aload 258 rfl rfl rfl ?_
          refine z_iload 259 rfl rfl rfl ?_
          refine z_iload 261 rfl rfl rfl ?_
          refine z_cv2 264 rfl rfl hR.1 rfl (Nat.le_refl _) (Nat.le_refl _) ?_
          refine r_comesHome hR hT9 hW (by omega) ?_
          first | refine z_bne 267 rfl rfl (fun hc264 => ?_) (fun hc264 => ?_)
          · refine z_iinc 279 _ rfl rfl rfl rfl (by first | with_reducible exact zi_1 _ | rfl) ?_
            refine z_goto rfl ?_
            refine ih (i + 1) s1 h _ _ _ _ (by omega) (by omega) ?_ g1 g2 hR hO hBt0
            rw [hI, ffd_no (by omega) (by simp [gd3P, hc264])]
          · refine z_aload 268 rfl rfl rfl ?_
            refine z_push 269 (nI 3) rfl rfl rfl ?_
            refine z_iload 271 rfl rfl rfl ?_
            refine z_push 272 (nI 0) rfl rfl rfl ?_
            refine z_cv3 275 rfl rfl hR.1 rfl (Nat.le_refl _) (Nat.le_refl _) ?_
            refine r_breaks hR (fun h hR => ?_)
            refine z_iretb rfl (Nat.le_refl _) (Nat.le_refl _) (by first | decide | exact bI_01 _) ?_
            have e9 : gdA E H = some (3, i, 0) := by
              simp only [gdA, g1, g2]
              rw [hI, ffd_yes (by omega) (by simp [gd3P, hc254, hc264])]
            rw [e9] at q
            refine q h _ hR (((hO.A rfl).A rfl).A rfl) (fun a b c h9 => ?_)
            cases h9
            refine ⟨?_, ?_, ?_⟩
            · repeat (first | with_reducible exact gA_eq _ _ _ _ | (with_reducible apply gA_ne; decide) | with_reducible apply gA_I | with_reducible apply gA_O | (with_reducible apply gA_nj; omega) | with_reducible rfl | exact gA_eq _ _ _ _)
            · repeat (first | with_reducible exact gA_eq _ _ _ _ | (with_reducible apply gA_ne; decide) | with_reducible apply gA_I | with_reducible apply gA_O | (with_reducible apply gA_nj; omega) | with_reducible rfl | exact gA_eq _ _ _ _)
            · repeat (first | with_reducible exact gA_eq _ _ _ _ | (with_reducible apply gA_ne; decide) | with_reducible apply gA_I | with_reducible apply gA_O | (with_reducible apply gA_nj; omega) | with_reducible rfl | exact gA_eq _ _ _ _)
  have ph2 : gd1 E H (E.length + H.length) 0 = none → ∀ m i (o : Option Nat) o5 o6 o7, E.length < i + m → i ≤ E.length → gd2 E E.length 0 none = gd2 E (E.length - i) i o → (∀ x, o = some x → x < 2 ^ 31) → mZ (d + 2) tk_197 0 0 Q 106 [some (.ref r), some (.int (nI p)), some (.int (nI (E.length + H.length))), some (.int (oI o)), some (.int (nI i)), o5, o6, o7] [] h 0 0 := by
    intro g1
    intro m
    induction m with
    | zero => intro i o o5 o6 o7 h1 h2; omega
    | succ m ih =>
      intro i o o5 o6 o7 h1 h2 hI hob
      have hcl := cnt9_le (pf2 E (enP E i)) E.length
      have inner : ∀ m k, E.length < k + m → k ≤ E.length → i < E.length → mZ (d + 2) tk_197 0 0 Q 196 [some (.ref r), some (.int (nI p)), some (.int (nI (E.length + H.length))), some (.int (oI o)), some (.int (nI i)), some (.int (nI (enP E i))), some (.int (nI (cnt9 (pf2 E (enP E i)) E.length))), some (.int (nI E.length))] [] h 0 0 → mZ (d + 2) tk_197 0 0 Q 137 [some (.ref r), some (.int (nI p)), some (.int (nI (E.length + H.length))), some (.int (oI o)), some (.int (nI i)), some (.int (nI (enP E i))), some (.int (nI (cnt9 (pf2 E (enP E i)) k))), some (.int (nI k))] [] h 0 0 := by
        intro m
        induction m with
        | zero => intro k h1 h2; omega
        | succ m ih =>
          intro k h1 h2 hi K
          have hWk := hW.2.2.1 k
          have hWi := nPt_lt (hW.2.2.1 i hi).2.2.2.2
          refine z_iload 139 rfl rfl rfl ?_
          refine z_aload 140 rfl rfl rfl ?_
          refine y_ga 143 hR rfl rfl rfl ?_
          refine z_iload 144 rfl rfl rfl ?_
          refine y_al (f := 3) 145 _ hR rfl rfl rfl rfl (by omega) (by repeat (first | with_reducible exact hT3 | with_reducible exact hT4 | with_reducible exact (hTe i (by omega)).1 | with_reducible exact (hTe i (by omega)).2.2.2.1 | with_reducible exact (hTe i (by omega)).2.2.2.2 | with_reducible exact (hTe k (by omega)).2.2.2.1 | with_reducible exact (hTe k (by omega)).2.2.2.2 | with_reducible exact (hTs k (by omega)).1 | with_reducible exact (hTs k (by omega)).2.2.1 | with_reducible exact (hTs k (by omega)).2.2.2 | with_reducible exact hBt _ (by omega) | with_reducible exact gA_eq _ _ _ _ | (with_reducible apply gA_ne; decide) | with_reducible apply gA_I | with_reducible apply gA_O | (with_reducible apply gA_nj; omega) | with_reducible rfl)) ?_
          refine z_nge 148 rfl rfl (by omega) (by omega) (fun hc145 => ?_) (fun hc145 => ?_)
          · obtain rfl : k = E.length := by omega
            exact K
          · have hWl := nPt_lt (hWk (by omega)).2.2.2.2
            refine z_iload 150 rfl rfl rfl ?_
            refine z_aload 151 rfl rfl rfl ?_
            refine y_ga 154 hR rfl rfl rfl ?_
            refine z_push 156 (nI 100) rfl rfl rfl ?_
            refine z_iload 157 rfl rfl rfl ?_
            refine z_bop 158 _ rfl rfl (by first | with_reducible exact zb_2 _ _ | exact zd_2 _ _) ?_
            refine z_iload 160 rfl rfl rfl ?_
            refine z_bop 161 _ rfl rfl (by first | with_reducible exact zb_0 _ _ | exact zd_0 _ _) ?_
            refine y_al (f := 8) 162 _ hR rfl rfl rfl rfl (by omega) (by repeat (first | with_reducible exact hT3 | with_reducible exact hT4 | with_reducible exact (hTe i (by omega)).1 | with_reducible exact (hTe i (by omega)).2.2.2.1 | with_reducible exact (hTe i (by omega)).2.2.2.2 | with_reducible exact (hTe k (by omega)).2.2.2.1 | with_reducible exact (hTe k (by omega)).2.2.2.2 | with_reducible exact (hTs k (by omega)).1 | with_reducible exact (hTs k (by omega)).2.2.1 | with_reducible exact (hTs k (by omega)).2.2.2 | with_reducible exact hBt _ (by omega) | with_reducible exact gA_eq _ _ _ _ | (with_reducible apply gA_ne; decide) | with_reducible apply gA_I | with_reducible apply gA_O | (with_reducible apply gA_nj; omega) | with_reducible rfl)) ?_
            refine z_iload 164 rfl rfl rfl ?_
            refine z_nne 167 rfl rfl (by omega) (by omega) (fun hc164 => ?_) (fun hc164 => ?_)
            · refine z_push 187 (nI 0) rfl rfl rfl ?_
              refine z_bop 188 _ rfl rfl (by first | with_reducible exact zb_0 _ _ | exact zd_0 _ _) ?_
              refine z_istore 190 rfl rfl rfl rfl ?_
              refine z_iinc 193 _ rfl rfl rfl rfl (by first | with_reducible exact zi_1 _ | rfl) ?_
              refine z_goto rfl ?_
              have h9 := ih (k + 1) (by omega) (by omega) hi K
              rw [show cnt9 (pf2 E (enP E i)) (k + 1) = cnt9 (pf2 E (enP E i)) k + 0 from by simp [cnt9, pf2, hc164]] at h9
              exact h9
            · refine z_aload 168 rfl rfl rfl ?_
              refine y_ga 171 hR rfl rfl rfl ?_
              refine z_push 173 (nI 100) rfl rfl rfl ?_
              refine z_iload 174 rfl rfl rfl ?_
              refine z_bop 175 _ rfl rfl (by first | with_reducible exact zb_2 _ _ | exact zd_2 _ _) ?_
              refine z_iload 177 rfl rfl rfl ?_
              refine z_bop 178 _ rfl rfl (by first | with_reducible exact zb_0 _ _ | exact zd_0 _ _) ?_
              refine y_bb (f := 9) 179 _ hR rfl rfl rfl rfl (by omega) (by repeat (first | with_reducible exact hT3 | with_reducible exact hT4 | with_reducible exact (hTe i (by omega)).1 | with_reducible exact (hTe i (by omega)).2.2.2.1 | with_reducible exact (hTe i (by omega)).2.2.2.2 | with_reducible exact (hTe k (by omega)).2.2.2.1 | with_reducible exact (hTe k (by omega)).2.2.2.2 | with_reducible exact (hTs k (by omega)).1 | with_reducible exact (hTs k (by omega)).2.2.1 | with_reducible exact (hTs k (by omega)).2.2.2 | with_reducible exact hBt _ (by omega) | with_reducible exact gA_eq _ _ _ _ | (with_reducible apply gA_ne; decide) | with_reducible apply gA_I | with_reducible apply gA_O | (with_reducible apply gA_nj; omega) | with_reducible rfl)) ?_
              first | refine z_beq 182 rfl rfl (fun hc179 => ?_) (fun hc179 => ?_)
              · refine z_push 187 (nI 0) rfl rfl rfl ?_
                refine z_bop 188 _ rfl rfl (by first | with_reducible exact zb_0 _ _ | exact zd_0 _ _) ?_
                refine z_istore 190 rfl rfl rfl rfl ?_
                refine z_iinc 193 _ rfl rfl rfl rfl (by first | with_reducible exact zi_1 _ | rfl) ?_
                refine z_goto rfl ?_
                have h9 := ih (k + 1) (by omega) (by omega) hi K
                rw [show cnt9 (pf2 E (enP E i)) (k + 1) = cnt9 (pf2 E (enP E i)) k + 0 from by simp [cnt9, pf2, hc179]] at h9
                exact h9
              · refine z_push 183 (nI 1) rfl rfl rfl ?_
                refine z_goto rfl ?_
                refine z_bop 188 _ rfl rfl (by first | with_reducible exact zb_0 _ _ | exact zd_0 _ _) ?_
                refine z_istore 190 rfl rfl rfl rfl ?_
                refine z_iinc 193 _ rfl rfl rfl rfl (by first | with_reducible exact zi_1 _ | rfl) ?_
                refine z_goto rfl ?_
                have h9 := ih (k + 1) (by omega) (by omega) hi K
                rw [show cnt9 (pf2 E (enP E i)) (k + 1) = cnt9 (pf2 E (enP E i)) k + 1 from by simp [cnt9, pf2, hc164, hc179]] at h9
                exact h9
      refine z_iload 108 rfl rfl rfl ?_
      refine z_aload 109 rfl rfl rfl ?_
      refine y_ga 112 hR rfl rfl rfl ?_
      refine z_iload 113 rfl rfl rfl ?_
      refine y_al (f := 3) 114 _ hR rfl rfl rfl rfl (by omega) (by repeat (first | with_reducible exact hT3 | with_reducible exact hT4 | with_reducible exact (hTe i (by omega)).1 | with_reducible exact (hTe i (by omega)).2.2.2.1 | with_reducible exact (hTe i (by omega)).2.2.2.2 | with_reducible exact (hTe k (by omega)).2.2.2.1 | with_reducible exact (hTe k (by omega)).2.2.2.2 | with_reducible exact (hTs k (by omega)).1 | with_reducible exact (hTs k (by omega)).2.2.1 | with_reducible exact (hTs k (by omega)).2.2.2 | with_reducible exact hBt _ (by omega) | with_reducible exact gA_eq _ _ _ _ | (with_reducible apply gA_ne; decide) | with_reducible apply gA_I | with_reducible apply gA_O | (with_reducible apply gA_nj; omega) | with_reducible rfl)) ?_
      refine z_nge 117 rfl rfl (by omega) (by omega) (fun hc114 => ?_) (fun hc114 => ?_)
      · rw [show E.length - i = 0 by omega] at hI
        have hI2 : gd2 E E.length 0 none = o := hI
        rcases o with _ | x
        · simp only [oI]
          refine z_iload 222 rfl rfl rfl ?_
          refine z_jlt 225 rfl rfl (fun _ => ?_) (fun h9 => absurd h9 (by decide))
          refine z_aload 234 rfl rfl rfl ?_
          refine z_iload 235 rfl rfl rfl ?_
          refine z_cv1 238 rfl rfl hR.1 rfl (Nat.le_refl _) (Nat.le_refl _) ?_
          refine r_reach hR hT hW (fun h s1 hR hO hBt => ?_)
          refine z_push 239 (nI 0) rfl rfl rfl ?_
          refine z_istore 241 rfl rfl rfl rfl ?_
          exact ph3 5 0 s1 h _ _ _ _ (by omega) (by omega) rfl g1 hI2 hR (hO.mono (fun f hf => by simp only [fGd, show Nat.beq f 29 = true from hf, Bool.true_or])) hBt
        · simp only [oI]
          have hx9 := hob x rfl
          refine z_iload 222 rfl rfl rfl ?_
          refine z_zlt 225 rfl rfl (by omega) (fun h9 => absurd h9 (by omega)) (fun _ => ?_)
          refine z_aload 226 rfl rfl rfl ?_
          refine z_push 227 (nI 2) rfl rfl rfl ?_
          refine z_iload 228 rfl rfl rfl ?_
          refine z_push 229 (nI 0) rfl rfl rfl ?_
          refine z_cv3 232 rfl rfl hR.1 rfl (Nat.le_refl _) (Nat.le_refl _) ?_
          refine r_breaks hR (fun h hR => ?_)
          refine z_iretb rfl (Nat.le_refl _) (Nat.le_refl _) (by first | decide | exact bI_01 _) ?_
          have e9 : gdA E H = some (2, x, 0) := by
            simp only [gdA, g1, hI2]
          rw [e9] at q
          refine q h _ hR (((OnA.rfl.A rfl).A rfl).A rfl) (fun a b c h9 => ?_)
          cases h9
          refine ⟨?_, ?_, ?_⟩
          · repeat (first | with_reducible exact gA_eq _ _ _ _ | (with_reducible apply gA_ne; decide) | with_reducible apply gA_I | with_reducible apply gA_O | (with_reducible apply gA_nj; omega) | with_reducible rfl | exact gA_eq _ _ _ _)
          · repeat (first | with_reducible exact gA_eq _ _ _ _ | (with_reducible apply gA_ne; decide) | with_reducible apply gA_I | with_reducible apply gA_O | (with_reducible apply gA_nj; omega) | with_reducible rfl | exact gA_eq _ _ _ _)
          · repeat (first | with_reducible exact gA_eq _ _ _ _ | (with_reducible apply gA_ne; decide) | with_reducible apply gA_I | with_reducible apply gA_O | (with_reducible apply gA_nj; omega) | with_reducible rfl | exact gA_eq _ _ _ _)
      · have hWi := nPt_lt (hW.2.2.1 i (by omega)).2.2.2.2
        refine z_aload 118 rfl rfl rfl ?_
        refine y_ga 121 hR rfl rfl rfl ?_
        refine z_push 123 (nI 100) rfl rfl rfl ?_
        refine z_iload 124 rfl rfl rfl ?_
        refine z_bop 125 _ rfl rfl (by first | with_reducible exact zb_2 _ _ | exact zd_2 _ _) ?_
        refine z_iload 127 rfl rfl rfl ?_
        refine z_bop 128 _ rfl rfl (by first | with_reducible exact zb_0 _ _ | exact zd_0 _ _) ?_
        refine y_al (f := 8) 129 _ hR rfl rfl rfl rfl (by omega) (by repeat (first | with_reducible exact hT3 | with_reducible exact hT4 | with_reducible exact (hTe i (by omega)).1 | with_reducible exact (hTe i (by omega)).2.2.2.1 | with_reducible exact (hTe i (by omega)).2.2.2.2 | with_reducible exact (hTe k (by omega)).2.2.2.1 | with_reducible exact (hTe k (by omega)).2.2.2.2 | with_reducible exact (hTs k (by omega)).1 | with_reducible exact (hTs k (by omega)).2.2.1 | with_reducible exact (hTs k (by omega)).2.2.2 | with_reducible exact hBt _ (by omega) | with_reducible exact gA_eq _ _ _ _ | (with_reducible apply gA_ne; decide) | with_reducible apply gA_I | with_reducible apply gA_O | (with_reducible apply gA_nj; omega) | with_reducible rfl)) ?_
        refine z_istore 131 rfl rfl rfl rfl ?_
        refine z_push 132 (nI 0) rfl rfl rfl ?_
        refine z_istore 134 rfl rfl rfl rfl ?_
        refine z_push 135 (nI 0) rfl rfl rfl ?_
        refine z_istore 137 rfl rfl rfl rfl ?_
        refine inner (E.length + 1) 0 (by omega) (by omega) (by omega) ?_
        refine z_iload 198 rfl rfl rfl ?_
        refine z_push 199 (nI 1) rfl rfl rfl ?_
        refine z_neq 202 rfl rfl (by omega) (by omega) (fun hc199 => ?_) (fun hc199 => ?_)
        · refine z_iinc 218 _ rfl rfl rfl rfl (by first | with_reducible exact zi_1 _ | rfl) ?_
          refine z_goto rfl ?_
          have h9 := fun o5 o6 o7 => ih (i + 1) (ls2 E o i) o5 o6 o7 (by omega) (by omega) (by rw [hI, gd2_s (by omega)]) (fun x hx => ls2_lt hW (by omega) hob hx)
          rw [show ls2 E o i = o from if_pos hc199] at h9
          exact h9 _ _ _
        · rcases o with _ | x
          · simp only [oI]
            refine z_iload 203 rfl rfl rfl ?_
            refine z_jlt 206 rfl rfl (fun _ => ?_) (fun h9 => absurd h9 (by decide))
            refine z_iload 214 rfl rfl rfl ?_
            refine z_istore 215 rfl rfl rfl rfl ?_
            refine z_iinc 218 _ rfl rfl rfl rfl (by first | with_reducible exact zi_1 _ | rfl) ?_
            refine z_goto rfl ?_
            have h9 := fun o5 o6 o7 => ih (i + 1) (ls2 E none i) o5 o6 o7 (by omega) (by omega) (by rw [hI, gd2_s (by omega)]) (fun x hx => ls2_lt hW (by omega) hob hx)
            rw [show ls2 E none i = some (enP E i) from if_neg hc199] at h9
            exact h9 _ _ _
          · simp only [oI]
            have hx9 := hob x rfl
            refine z_iload 203 rfl rfl rfl ?_
            refine z_zlt 206 rfl rfl (by omega) (fun h9 => absurd h9 (by omega)) (fun _ => ?_)
            refine z_iload 208 rfl rfl rfl ?_
            refine z_iload 209 rfl rfl rfl ?_
            refine z_nge 212 rfl rfl (by omega) (by omega) (fun hc209 => ?_) (fun hc209 => ?_)
            · refine z_iinc 218 _ rfl rfl rfl rfl (by first | with_reducible exact zi_1 _ | rfl) ?_
              refine z_goto rfl ?_
              have h9 := fun o5 o6 o7 => ih (i + 1) (ls2 E (some x) i) o5 o6 o7 (by omega) (by omega) (by rw [hI, gd2_s (by omega)]) (fun x hx => ls2_lt hW (by omega) hob hx)
              rw [show ls2 E (some x) i = some x from by rw [ls2, if_neg hc199]; exact if_neg (by omega)] at h9
              exact h9 _ _ _
            · refine z_iload 214 rfl rfl rfl ?_
              refine z_istore 215 rfl rfl rfl rfl ?_
              refine z_iinc 218 _ rfl rfl rfl rfl (by first | with_reducible exact zi_1 _ | rfl) ?_
              refine z_goto rfl ?_
              have h9 := fun o5 o6 o7 => ih (i + 1) (ls2 E (some x) i) o5 o6 o7 (by omega) (by omega) (by rw [hI, gd2_s (by omega)]) (fun x hx => ls2_lt hW (by omega) hob hx)
              rw [show ls2 E (some x) i = some (enP E i) from by rw [ls2, if_neg hc199]; exact if_pos (by omega)] at h9
              exact h9 _ _ _
  have ph1 : ∀ m i o4, E.length + H.length < i + m → i ≤ E.length + H.length → gd1 E H (E.length + H.length) 0 = gd1 E H (E.length + H.length - i) i → mZ (d + 2) tk_197 0 0 Q 16 [some (.ref r), some (.int (nI p)), some (.int (nI (E.length + H.length))), some (.int (nI i)), o4, none, none, none] [] h 0 0 := by
    intro m
    induction m with
    | zero => intro i o4 h1 h2; omega
    | succ m ih =>
      intro i o4 h1 h2 hI
      have inner : ∀ m k, E.length + H.length < k + m → k ≤ E.length + H.length → i < k → i < E.length + H.length → ffd (clh E H i) (E.length + H.length - (i + 1)) (i + 1) = ffd (clh E H i) (E.length + H.length - k) k → mZ (d + 2) tk_197 0 0 Q 26 [some (.ref r), some (.int (nI p)), some (.int (nI (E.length + H.length))), some (.int (nI i)), some (.int (nI k)), none, none, none] [] h 0 0 := by
        intro m'
        induction m' with
        | zero => intro k h1 h2; omega
        | succ m' ih' =>
          intro k h1' h2' hik hi hF
          have hs1 := itS_b hW hi
          have ho1 := itO_lt hW hi
          refine z_iload 28 rfl rfl rfl ?_
          refine z_iload 29 rfl rfl rfl ?_
          refine z_nge 32 rfl rfl (by omega) (by omega) (fun hc29 => ?_) (fun hc29 => ?_)
          · refine z_iinc 98 _ rfl rfl rfl rfl (zi_1 _) ?_
            refine z_goto rfl ?_
            refine ih (i + 1) _ (by omega) (by omega) ?_
            rw [hI, gd1_s (by omega), hF, show E.length + H.length - k = 0 by omega]
            rfl
          · have hs2 := itS_b hW (i := k) (by omega)
            have ho2 := itO_lt hW (i := k) (by omega)
            refine z_aload 33 rfl rfl rfl ?_
            refine z_iload 34 rfl rfl rfl ?_
            refine z_iload 35 rfl rfl rfl ?_
            refine z_cv2 38 rfl rfl hR.1 rfl (Nat.le_refl _) (Nat.le_refl _) ?_
            refine r_stateOf hR hT hW hi ?_
            refine z_aload 39 rfl rfl rfl ?_
            refine z_iload 40 rfl rfl rfl ?_
            refine z_iload 42 rfl rfl rfl ?_
            refine z_cv2 45 rfl rfl hR.1 rfl (Nat.le_refl _) (Nat.le_refl _) ?_
            refine r_stateOf hR hT hW (by omega) ?_
            refine z_nne 48 rfl rfl (by omega) (by omega) (fun hc45 => ?_) (fun hc45 => ?_)
            · refine z_iinc 92 _ rfl rfl rfl rfl (by first | with_reducible exact zi_1 _ | rfl) ?_
              refine z_goto rfl ?_
              refine ih' (k + 1) (by omega) (by omega) (by omega) hi ?_
              rw [hF, ffd_no (by omega) (by simp [clh, hc45])]
            · refine z_aload 49 rfl rfl rfl ?_
              refine z_iload 50 rfl rfl rfl ?_
              refine z_iload 51 rfl rfl rfl ?_
              refine z_iload 53 rfl rfl rfl ?_
              refine z_cv3 56 rfl rfl hR.1 rfl (Nat.le_refl _) (Nat.le_refl _) ?_
              refine r_begins hR hT hW hi (by omega) ?_
              first | refine z_bne 59 rfl rfl (fun hc56 => ?_) (fun hc56 => ?_)
              · refine z_aload 71 rfl rfl rfl ?_
                refine z_push 72 (nI 1) rfl rfl rfl ?_
                refine z_aload 73 rfl rfl rfl ?_
                refine z_iload 74 rfl rfl rfl ?_
                refine z_iload 75 rfl rfl rfl ?_
                refine z_cv2 78 rfl rfl hR.1 rfl (Nat.le_refl _) (Nat.le_refl _) ?_
                refine r_numberOf hR hT hW hi ?_
                refine z_aload 79 rfl rfl rfl ?_
                refine z_iload 80 rfl rfl rfl ?_
                refine z_iload 82 rfl rfl rfl ?_
                refine z_cv2 85 rfl rfl hR.1 rfl (Nat.le_refl _) (Nat.le_refl _) ?_
                refine r_numberOf hR hT hW (by omega) ?_
                refine z_cv3 88 rfl rfl hR.1 rfl (Nat.le_refl _) (Nat.le_refl _) ?_
                refine r_breaks hR (fun h hR => ?_)
                refine z_iretb rfl (Nat.le_refl _) (Nat.le_refl _) (by first | decide | exact bI_01 _) ?_
                have e9 : gdA E H = some (1, itO E i, itO E k) := by
                  have h8 : gd1 E H (E.length + H.length) 0 = some (i, k) := by
                    rw [hI, gd1_s (by omega), hF, ffd_yes (by omega) (by simp [clh, hc45, hc56])]
                  simp only [gdA, h8]
                rw [e9] at q
                refine q h _ hR (((OnA.rfl.A rfl).A rfl).A rfl) (fun a b c h9 => ?_)
                cases h9
                refine ⟨?_, ?_, ?_⟩
                · repeat (first | with_reducible exact gA_eq _ _ _ _ | (with_reducible apply gA_ne; decide) | with_reducible apply gA_I | with_reducible apply gA_O | (with_reducible apply gA_nj; omega) | with_reducible rfl | exact gA_eq _ _ _ _)
                · repeat (first | with_reducible exact gA_eq _ _ _ _ | (with_reducible apply gA_ne; decide) | with_reducible apply gA_I | with_reducible apply gA_O | (with_reducible apply gA_nj; omega) | with_reducible rfl | exact gA_eq _ _ _ _)
                · repeat (first | with_reducible exact gA_eq _ _ _ _ | (with_reducible apply gA_ne; decide) | with_reducible apply gA_I | with_reducible apply gA_O | (with_reducible apply gA_nj; omega) | with_reducible rfl | exact gA_eq _ _ _ _)
              · refine z_aload 60 rfl rfl rfl ?_
                refine z_iload 61 rfl rfl rfl ?_
                refine z_iload 63 rfl rfl rfl ?_
                refine z_iload 64 rfl rfl rfl ?_
                refine z_cv3 67 rfl rfl hR.1 rfl (Nat.le_refl _) (Nat.le_refl _) ?_
                refine r_begins hR hT hW (by omega) hi ?_
                first | refine z_beq 70 rfl rfl (fun hc67 => ?_) (fun hc67 => ?_)
                · refine z_iinc 92 _ rfl rfl rfl rfl (by first | with_reducible exact zi_1 _ | rfl) ?_
                  refine z_goto rfl ?_
                  refine ih' (k + 1) (by omega) (by omega) (by omega) hi ?_
                  rw [hF, ffd_no (by omega) (by simp [clh, hc56, hc67])]
                · refine z_aload 71 rfl rfl rfl ?_
                  refine z_push 72 (nI 1) rfl rfl rfl ?_
                  refine z_aload 73 rfl rfl rfl ?_
                  refine z_iload 74 rfl rfl rfl ?_
                  refine z_iload 75 rfl rfl rfl ?_
                  refine z_cv2 78 rfl rfl hR.1 rfl (Nat.le_refl _) (Nat.le_refl _) ?_
                  refine r_numberOf hR hT hW hi ?_
                  refine z_aload 79 rfl rfl rfl ?_
                  refine z_iload 80 rfl rfl rfl ?_
                  refine z_iload 82 rfl rfl rfl ?_
                  refine z_cv2 85 rfl rfl hR.1 rfl (Nat.le_refl _) (Nat.le_refl _) ?_
                  refine r_numberOf hR hT hW (by omega) ?_
                  refine z_cv3 88 rfl rfl hR.1 rfl (Nat.le_refl _) (Nat.le_refl _) ?_
                  refine r_breaks hR (fun h hR => ?_)
                  refine z_iretb rfl (Nat.le_refl _) (Nat.le_refl _) (by first | decide | exact bI_01 _) ?_
                  have e9 : gdA E H = some (1, itO E i, itO E k) := by
                    have h8 : gd1 E H (E.length + H.length) 0 = some (i, k) := by
                      rw [hI, gd1_s (by omega), hF, ffd_yes (by omega) (by simp [clh, hc45, hc67])]
                    simp only [gdA, h8]
                  rw [e9] at q
                  refine q h _ hR (((OnA.rfl.A rfl).A rfl).A rfl) (fun a b c h9 => ?_)
                  cases h9
                  refine ⟨?_, ?_, ?_⟩
                  · repeat (first | with_reducible exact gA_eq _ _ _ _ | (with_reducible apply gA_ne; decide) | with_reducible apply gA_I | with_reducible apply gA_O | (with_reducible apply gA_nj; omega) | with_reducible rfl | exact gA_eq _ _ _ _)
                  · repeat (first | with_reducible exact gA_eq _ _ _ _ | (with_reducible apply gA_ne; decide) | with_reducible apply gA_I | with_reducible apply gA_O | (with_reducible apply gA_nj; omega) | with_reducible rfl | exact gA_eq _ _ _ _)
                  · repeat (first | with_reducible exact gA_eq _ _ _ _ | (with_reducible apply gA_ne; decide) | with_reducible apply gA_I | with_reducible apply gA_O | (with_reducible apply gA_nj; omega) | with_reducible rfl | exact gA_eq _ _ _ _)
      refine z_iload 17 rfl rfl rfl ?_
      refine z_iload 18 rfl rfl rfl ?_
      refine z_nge 21 rfl rfl (by omega) (by omega) (fun hc18 => ?_) (fun hc18 => ?_)
      · refine z_push 102 (-1) rfl rfl rfl ?_
        refine z_istore 103 rfl rfl rfl rfl ?_
        refine z_push 104 (nI 0) rfl rfl rfl ?_
        refine z_istore 106 rfl rfl rfl rfl ?_
        have g1 : gd1 E H (E.length + H.length) 0 = none := by rw [hI, show E.length + H.length - i = 0 by omega]; rfl
        exact ph2 g1 (E.length + 1) 0 none _ _ _ (by omega) (by omega) (by rw [Nat.sub_zero]) (fun x hx => by cases hx)
      · refine z_iload 22 rfl rfl rfl ?_
        refine z_push 23 (nI 1) rfl rfl rfl ?_
        refine z_bop 24 _ rfl rfl (by first | with_reducible exact zb_0 _ _ | exact zd_0 _ _) ?_
        refine z_istore 26 rfl rfl rfl rfl ?_
        exact inner (E.length + H.length + 1) (i + 1) (by omega) (by omega) (by omega) (by omega) rfl
  refine z_in [some (.ref r), some (.int (nI p)), none, none, none, none, none, none] (by rfl) rfl rfl rfl ?_
  refine z_aload 1 rfl rfl rfl ?_
  refine y_ga 4 hR rfl rfl rfl ?_
  refine z_iload 5 rfl rfl rfl ?_
  refine y_al (f := 3) 6 _ hR rfl rfl rfl rfl (by omega) (by repeat (first | with_reducible exact hT3 | with_reducible exact hT4 | with_reducible exact gA_eq _ _ _ _ | (with_reducible apply gA_ne; decide) | with_reducible apply gA_I | with_reducible apply gA_O | (with_reducible apply gA_nj; omega) | with_reducible rfl)) ?_
  refine z_aload 7 rfl rfl rfl ?_
  refine y_ga 10 hR rfl rfl rfl ?_
  refine z_iload 11 rfl rfl rfl ?_
  refine y_al (f := 4) 12 _ hR rfl rfl rfl rfl (by omega) (by repeat (first | with_reducible exact hT3 | with_reducible exact hT4 | with_reducible exact gA_eq _ _ _ _ | (with_reducible apply gA_ne; decide) | with_reducible apply gA_I | with_reducible apply gA_O | (with_reducible apply gA_nj; omega) | with_reducible rfl)) ?_
  refine z_bop 13 _ rfl rfl (by first | with_reducible exact zb_0 _ _ | exact zd_0 _ _) ?_
  refine z_istore 14 rfl rfl rfl rfl ?_
  refine z_push 15 (nI 0) rfl rfl rfl ?_
  refine z_istore 16 rfl rfl rfl rfl ?_
  exact ph1 (E.length + H.length + 1) 0 _ (by omega) (by omega) (by rw [Nat.sub_zero])
