/-! the reference: what stands at a place -/
section ZD
variable {d : Nat} {t : mK} {bc bs : Nat} {Q : mP} {pc len b : Nat} {a : Int} {ts : List Nat} {L : mL} {st : List Value} {h : mH} {nc ns : Nat}
theorem z_deq {P : Prop} {i : Decidable P} (pc' : Nat) (hi : mAt t pc = some (len, 20, a, b, 0, ts)) (hp : pc + len = pc') (kt : ¬ P → mZ d t bc bs Q b L st h nc ns) (kf : P → mZ d t bc bs Q pc' L st h nc ns) : mZ d t bc bs Q pc L (.int (bI (@decide P i)) :: st) h nc ns :=
  z_beq pc' hi hp (fun hc => kt (of_decide_eq_false hc)) (fun hc => kf (of_decide_eq_true hc))
theorem z_dne {P : Prop} {i : Decidable P} (pc' : Nat) (hi : mAt t pc = some (len, 20, a, b, 1, ts)) (hp : pc + len = pc') (kt : P → mZ d t bc bs Q b L st h nc ns) (kf : ¬ P → mZ d t bc bs Q pc' L st h nc ns) : mZ d t bc bs Q pc L (.int (bI (@decide P i)) :: st) h nc ns :=
  z_bne pc' hi hp (fun hc => kt (of_decide_eq_true hc)) (fun hc => kf (of_decide_eq_false hc))
end ZD
theorem jLow_n {x : Nat} (h : x < 2 ^ 31) : jLow (nI x) = decide (56320 ≤ x ∧ x ≤ 57343) := by rw [jLow, nI_toInt h]; congr 1; rw [eq_iff_iff]; omega
theorem jHigh_n {x : Nat} (h : x < 2 ^ 31) : jHigh (nI x) = decide (55296 ≤ x ∧ x ≤ 56319) := by rw [jHigh, nI_toInt h]; congr 1; rw [eq_iff_iff]; omega
theorem jIn_n {x a b : Nat} (h : x < 2 ^ 31) (ha : a < 2 ^ 31) (hb : b < 2 ^ 31) : jIn (nI x) (nI a) (nI b) = decide (a ≤ x ∧ x ≤ b) := by rw [jIn_l ha hb, nI_toInt h]; congr 1; rw [eq_iff_iff]; omega
theorem or_n' {a b k : Nat} (ha : a % 2 ^ k = 0) (hb : b < 2 ^ k) : mBop 4 (nI b) (nI a) = nI (a + b) := by
  rw [← or_n ha hb]
  show nI b ||| nI a = nI a ||| nI b
  rw [nI_or, nI_or, Nat.or_comm]
theorem sub_n (a n : Nat) : mBop 1 (nI (a + n)) (nI a) = nI n := by
  rw [zb_1 (by omega), Nat.add_sub_cancel_left]
def lkU (hi : Bool) (bs : List Nat) : Nat × Nat × Nat :=
  if hi = true then
    if 220 ≤ bs.getD 0 0 ∧ bs.getD 0 0 ≤ 223 then (0, 0, 0) else if bs.length < 2 then (1, 0, 0) else
    if 55296 ≤ bs.getD 0 0 * 2 ^ 8 + bs.getD 1 0 ∧ bs.getD 0 0 * 2 ^ 8 + bs.getD 1 0 ≤ 56319 then
      if bs.length < 3 then (1, 0, 0) else if 220 ≤ bs.getD 2 0 ∧ bs.getD 2 0 ≤ 223 then
        if bs.length < 4 then (1, 0, 0) else (2, 4, 65536 + (bs.getD 0 0 * 2 ^ 8 + bs.getD 1 0 - 55296) * 2 ^ 10 + (bs.getD 2 0 * 2 ^ 8 + bs.getD 3 0) - 56320)
      else (0, 0, 0)
    else (2, 2, bs.getD 0 0 * 2 ^ 8 + bs.getD 1 0)
  else
    if bs.length < 2 then (1, 0, 0) else
    if 56320 ≤ bs.getD 1 0 * 2 ^ 8 + bs.getD 0 0 ∧ bs.getD 1 0 * 2 ^ 8 + bs.getD 0 0 ≤ 57343 then (0, 0, 0) else
    if 55296 ≤ bs.getD 1 0 * 2 ^ 8 + bs.getD 0 0 ∧ bs.getD 1 0 * 2 ^ 8 + bs.getD 0 0 ≤ 56319 then
      if bs.length < 4 then (1, 0, 0) else
      if 56320 ≤ bs.getD 3 0 * 2 ^ 8 + bs.getD 2 0 ∧ bs.getD 3 0 * 2 ^ 8 + bs.getD 2 0 ≤ 57343 then (2, 4, 65536 + (bs.getD 1 0 * 2 ^ 8 + bs.getD 0 0 - 55296) * 2 ^ 10 + (bs.getD 3 0 * 2 ^ 8 + bs.getD 2 0) - 56320) else (0, 0, 0)
    else (2, 2, bs.getD 1 0 * 2 ^ 8 + bs.getD 0 0)
/-- bytes stand in an array of the store from a on -/
def ByAt (s : rS) (f a : Nat) (bs : List Nat) : Prop := Seg (s.2.2 f) a bs ∧ ∀ j, bs.getD j 0 < 256
set_option maxRecDepth 10000 in
theorem r_lookUnits {d r : Nat} {h h0 : mH} {s : rS} {hi : Bool} {f kk nn a : Nat} {bs : List Nat} {Q : mP} (hR : Rf r h0 s h) (ha : rArr f = some (kk, 0, nn)) (hb : ByAt s f a bs) (hn1 : 1 ≤ bs.length) (hnn : a + bs.length ≤ nn) (hnb : nn < 2 ^ 30)  (q : ∀ h' s', Rf r h0 s' h' → On [40, 41] s s' → ((lkU hi bs).1 = 2 → s'.1 40 = (lkU hi bs).2.1 ∧ s'.1 41 = (lkU hi bs).2.2) → Q (some (.int (nI (lkU hi bs).1))) h') : mWP (d + 3) 213 [.ref r, .int (bI hi), .ref (r + kk), .int (nI a), .int (nI (a + bs.length))] h Q := by
  obtain ⟨hs, hb8⟩ := hb
  have hs0 : s.2.2 f a = bs.getD 0 0 := hs 0 (by omega)
  have hs1 : 1 < bs.length → s.2.2 f (a + 1) = bs.getD 1 0 := fun h9 => hs 1 h9
  have hs2 : 2 < bs.length → s.2.2 f (a + 2) = bs.getD 2 0 := fun h9 => hs 2 h9
  have hs3 : 3 < bs.length → s.2.2 f (a + 3) = bs.getD 3 0 := fun h9 => hs 3 h9
  have hv0 := hb8 0
  have hv1 := hb8 1
  have hv2 := hb8 2
  have hv3 := hb8 3
  have hn31 := (rArr_ok ha).2.2.2.1
  refine z_in [some (.ref r), some (.int (bI hi)), some (.ref (r + kk)), some (.int (nI a)), some (.int (nI (a + bs.length))), none, none, none] (by rfl) rfl rfl rfl ?_
  refine z_iload 2 rfl rfl rfl ?_
  refine z_iload 3 rfl rfl rfl ?_
  refine z_bop 4 _ rfl rfl (sub_n a _) ?_
  refine z_istore 6 rfl rfl rfl rfl ?_
  cases hi
  · refine z_iload 7 rfl rfl rfl ?_
    refine z_bne 10 rfl rfl (fun h9 => absurd h9 (by decide)) (fun _ => ?_)
    refine z_iload 12 rfl rfl rfl ?_
    refine z_push 13 (nI 2) rfl rfl rfl ?_
    refine z_nge 16 rfl rfl (by omega) (by omega) (fun hc13 => ?_) (fun hc13 => ?_)
    · refine z_aload 21 rfl rfl rfl ?_
      refine z_iload 22 rfl rfl rfl ?_
      refine y_al (f := f) 23 _ hR rfl rfl ha rfl (by omega) (by repeat (first | with_reducible exact hs0 | with_reducible exact hs1 (by omega) | with_reducible exact hs2 (by omega) | with_reducible exact hs3 (by omega) | with_reducible exact gA_eq _ _ _ _ | (with_reducible apply gA_ne; decide) | with_reducible apply gA_I | with_reducible apply gA_O | (with_reducible apply gA_nj; omega) | with_reducible rfl)) ?_
      refine z_aload 24 rfl rfl rfl ?_
      refine z_iload 25 rfl rfl rfl ?_
      refine z_push 26 (nI 1) rfl rfl rfl ?_
      refine z_bop 27 _ rfl rfl (by first | with_reducible exact zb_0 _ _ | exact zd_0 _ _) ?_
      refine y_al (f := f) 28 _ hR rfl rfl ha rfl (by omega) (by repeat (first | with_reducible exact hs0 | with_reducible exact hs1 (by omega) | with_reducible exact hs2 (by omega) | with_reducible exact hs3 (by omega) | with_reducible exact gA_eq _ _ _ _ | (with_reducible apply gA_ne; decide) | with_reducible apply gA_I | with_reducible apply gA_O | (with_reducible apply gA_nj; omega) | with_reducible rfl)) ?_
      refine z_push 30 (nI 8) rfl rfl rfl ?_
      refine z_bop 31 _ rfl rfl (shl_n 8 (by decide) (by omega)) ?_
      refine z_bop 32 _ rfl rfl (or_n' (k := 8) (by omega) (by omega)) ?_
      refine z_istore 34 rfl rfl rfl rfl ?_
      refine z_iload 35 rfl rfl rfl ?_
      refine z_beq 38 rfl rfl (fun _ => ?_) (fun h9 => absurd h9 (by decide))
      refine z_iload 94 rfl rfl rfl ?_
      refine z_push 95 (nI 2) rfl rfl rfl ?_
      refine z_nge 98 rfl rfl (by omega) (by omega) (fun _ => ?_) (fun h9 => absurd h9 (by omega))
      refine z_iload 102 rfl rfl rfl ?_
      refine z_cs1 105 rfl rfl rfl (Nat.le_refl _) (Nat.le_refl _) ?_
      refine r_isLow ?_
      rw [jLow_n (by omega)]
      first | refine z_deq 108 rfl rfl (fun hc105 => ?_) (fun hc105 => ?_)
      · refine z_iload 112 rfl rfl rfl ?_
        refine z_cs1 115 rfl rfl rfl (Nat.le_refl _) (Nat.le_refl _) ?_
        refine r_isHigh ?_
        rw [jHigh_n (by omega)]
        first | refine z_dne 118 rfl rfl (fun hc115 => ?_) (fun hc115 => ?_)
        · refine z_iload 133 rfl rfl rfl ?_
          refine z_push 134 (nI 3) rfl rfl rfl ?_
          refine z_nlt 137 rfl rfl (by omega) (by omega) (fun hc134 => ?_) (fun hc134 => ?_)
          · refine z_push 148 (nI 1) rfl rfl rfl ?_
            refine z_ireti rfl (Nat.le_refl _) (Nat.le_refl _) ?_
            have e9 : lkU false bs = (1, 0, 0) := by rw [lkU, if_neg (by decide), if_neg (by omega), if_neg (by omega), if_pos (by omega), if_pos (by omega)]
            rw [e9] at q
            exact q h s hR On.rfl (fun h9 => absurd h9 (by decide))
          · refine z_iload 138 rfl rfl rfl ?_
            refine z_bne 141 rfl rfl (fun h9 => absurd h9 (by decide)) (fun _ => ?_)
            refine z_iload 143 rfl rfl rfl ?_
            refine z_push 144 (nI 4) rfl rfl rfl ?_
            refine z_nge 147 rfl rfl (by omega) (by omega) (fun hc144 => ?_) (fun hc144 => ?_)
            · refine z_iload 150 rfl rfl rfl ?_
              refine z_beq 153 rfl rfl (fun _ => ?_) (fun h9 => absurd h9 (by decide))
              refine z_iload 171 rfl rfl rfl ?_
              refine z_push 172 (nI 4) rfl rfl rfl ?_
              refine z_nge 175 rfl rfl (by omega) (by omega) (fun _ => ?_) (fun h9 => absurd h9 (by omega))
              refine z_iload 178 rfl rfl rfl ?_
              refine z_beq 181 rfl rfl (fun _ => ?_) (fun h9 => absurd h9 (by decide))
              refine z_aload 199 rfl rfl rfl ?_
              refine z_iload 200 rfl rfl rfl ?_
              refine z_push 201 (nI 2) rfl rfl rfl ?_
              refine z_bop 202 _ rfl rfl (by first | with_reducible exact zb_0 _ _ | exact zd_0 _ _) ?_
              refine y_al (f := f) 203 _ hR rfl rfl ha rfl (by omega) (by repeat (first | with_reducible exact hs0 | with_reducible exact hs1 (by omega) | with_reducible exact hs2 (by omega) | with_reducible exact hs3 (by omega) | with_reducible exact gA_eq _ _ _ _ | (with_reducible apply gA_ne; decide) | with_reducible apply gA_I | with_reducible apply gA_O | (with_reducible apply gA_nj; omega) | with_reducible rfl)) ?_
              refine z_aload 204 rfl rfl rfl ?_
              refine z_iload 205 rfl rfl rfl ?_
              refine z_push 206 (nI 3) rfl rfl rfl ?_
              refine z_bop 207 _ rfl rfl (by first | with_reducible exact zb_0 _ _ | exact zd_0 _ _) ?_
              refine y_al (f := f) 208 _ hR rfl rfl ha rfl (by omega) (by repeat (first | with_reducible exact hs0 | with_reducible exact hs1 (by omega) | with_reducible exact hs2 (by omega) | with_reducible exact hs3 (by omega) | with_reducible exact gA_eq _ _ _ _ | (with_reducible apply gA_ne; decide) | with_reducible apply gA_I | with_reducible apply gA_O | (with_reducible apply gA_nj; omega) | with_reducible rfl)) ?_
              refine z_push 210 (nI 8) rfl rfl rfl ?_
              refine z_bop 211 _ rfl rfl (shl_n 8 (by decide) (by omega)) ?_
              refine z_bop 212 _ rfl rfl (or_n' (k := 8) (by omega) (by omega)) ?_
              refine z_istore 214 rfl rfl rfl rfl ?_
              refine z_iload 216 rfl rfl rfl ?_
              refine z_cs1 219 rfl rfl rfl (Nat.le_refl _) (Nat.le_refl _) ?_
              refine r_isLow ?_
              rw [jLow_n (by omega)]
              first | refine z_dne 222 rfl rfl (fun hc219 => ?_) (fun hc219 => ?_)
              · refine z_aload 225 rfl rfl rfl ?_
                refine z_push 226 (nI 4) rfl rfl rfl ?_
                refine y_pi 229 hR rfl rfl rfl rfl rfl (mFi rfl) ?_
                intro h hR
                refine z_aload 230 rfl rfl rfl ?_
                refine z_push 232 (nI 65536) rfl rfl rfl ?_
                refine z_iload 234 rfl rfl rfl ?_
                refine z_push 236 (nI 55296) rfl rfl rfl ?_
                refine z_bop 237 _ rfl rfl (by first | with_reducible exact zb_1 (by omega) | exact zd_1 _ _) ?_
                refine z_push 239 (nI 10) rfl rfl rfl ?_
                refine z_bop 240 _ rfl rfl (shl_n 10 (by decide) (by omega)) ?_
                refine z_bop 241 _ rfl rfl (by first | with_reducible exact zb_0 _ _ | exact zd_0 _ _) ?_
                refine z_iload 243 rfl rfl rfl ?_
                refine z_bop 244 _ rfl rfl (by first | with_reducible exact zb_0 _ _ | exact zd_0 _ _) ?_
                refine z_push 246 (nI 56320) rfl rfl rfl ?_
                refine z_bop 247 _ rfl rfl (by first | with_reducible exact zb_1 (by omega) | exact zd_1 _ _) ?_
                refine y_pi 250 hR rfl rfl rfl rfl rfl (mFi rfl) ?_
                intro h hR
                refine z_push 251 (nI 2) rfl rfl rfl ?_
                refine z_ireti rfl (Nat.le_refl _) (Nat.le_refl _) ?_
                have e9 : lkU false bs = (2, 4, 65536 + (bs.getD 1 0 * 2 ^ 8 + bs.getD 0 0 - 55296) * 2 ^ 10 + (bs.getD 3 0 * 2 ^ 8 + bs.getD 2 0) - 56320) := by rw [lkU, if_neg (by decide), if_neg (by omega), if_neg (by omega), if_pos (by omega), if_neg (by omega), if_pos (by omega)]
                rw [e9] at q
                exact q h _ hR ((On.rfl.I (by decide)).I (by decide)) (fun _ => ⟨by repeat (first | with_reducible exact gI_eq _ _ _ | (with_reducible apply gI_ne; decide) | with_reducible apply gI_A | with_reducible apply gI_O | with_reducible rfl), gI_eq _ _ _⟩)
              · refine z_push 223 (nI 0) rfl rfl rfl ?_
                refine z_ireti rfl (Nat.le_refl _) (Nat.le_refl _) ?_
                have e9 : lkU false bs = (0, 0, 0) := by rw [lkU, if_neg (by decide), if_neg (by omega), if_neg (by omega), if_pos (by omega), if_neg (by omega), if_neg (by omega)]
                rw [e9] at q
                exact q h s hR On.rfl (fun h9 => absurd h9 (by decide))
            · refine z_push 148 (nI 1) rfl rfl rfl ?_
              refine z_ireti rfl (Nat.le_refl _) (Nat.le_refl _) ?_
              have e9 : lkU false bs = (1, 0, 0) := by rw [lkU, if_neg (by decide), if_neg (by omega), if_neg (by omega), if_pos (by omega), if_pos (by omega)]
              rw [e9] at q
              exact q h s hR On.rfl (fun h9 => absurd h9 (by decide))
        · refine z_aload 119 rfl rfl rfl ?_
          refine z_push 120 (nI 2) rfl rfl rfl ?_
          refine y_pi 123 hR rfl rfl rfl rfl rfl (mFi rfl) ?_
          intro h hR
          refine z_aload 124 rfl rfl rfl ?_
          refine z_iload 126 rfl rfl rfl ?_
          refine y_pi 129 hR rfl rfl rfl rfl rfl (mFi rfl) ?_
          intro h hR
          refine z_push 130 (nI 2) rfl rfl rfl ?_
          refine z_ireti rfl (Nat.le_refl _) (Nat.le_refl _) ?_
          have e9 : lkU false bs = (2, 2, bs.getD 1 0 * 2 ^ 8 + bs.getD 0 0) := by rw [lkU, if_neg (by decide), if_neg (by omega), if_neg (by omega), if_neg (by omega)]
          rw [e9] at q
          exact q h _ hR ((On.rfl.I (by decide)).I (by decide)) (fun _ => ⟨by repeat (first | with_reducible exact gI_eq _ _ _ | (with_reducible apply gI_ne; decide) | with_reducible apply gI_A | with_reducible apply gI_O | with_reducible rfl), gI_eq _ _ _⟩)
      · refine z_push 109 (nI 0) rfl rfl rfl ?_
        refine z_ireti rfl (Nat.le_refl _) (Nat.le_refl _) ?_
        have e9 : lkU false bs = (0, 0, 0) := by rw [lkU, if_neg (by decide), if_neg (by omega), if_pos (by omega)]
        rw [e9] at q
        exact q h s hR On.rfl (fun h9 => absurd h9 (by decide))
    · refine z_push 17 (-1) rfl rfl rfl ?_
      refine z_goto rfl ?_
      refine z_istore 34 rfl rfl rfl rfl ?_
      refine z_iload 35 rfl rfl rfl ?_
      refine z_beq 38 rfl rfl (fun _ => ?_) (fun h9 => absurd h9 (by decide))
      refine z_iload 94 rfl rfl rfl ?_
      refine z_push 95 (nI 2) rfl rfl rfl ?_
      refine z_nge 98 rfl rfl (by omega) (by omega) (fun h9 => absurd h9 (by omega)) (fun _ => ?_)
      refine z_push 99 (nI 1) rfl rfl rfl ?_
      refine z_ireti rfl (Nat.le_refl _) (Nat.le_refl _) ?_
      have e9 : lkU false bs = (1, 0, 0) := by rw [lkU, if_neg (by decide), if_pos (by omega)]
      rw [e9] at q
      exact q h s hR On.rfl (fun h9 => absurd h9 (by decide))
  · refine z_iload 7 rfl rfl rfl ?_
    refine z_bne 10 rfl rfl (fun _ => ?_) (fun h9 => absurd h9 (by decide))
    refine z_push 17 (-1) rfl rfl rfl ?_
    refine z_goto rfl ?_
    refine z_istore 34 rfl rfl rfl rfl ?_
    refine z_iload 35 rfl rfl rfl ?_
    refine z_beq 38 rfl rfl (fun h9 => absurd h9 (by decide)) (fun _ => ?_)
    refine z_iload 40 rfl rfl rfl ?_
    refine z_push 41 (nI 1) rfl rfl rfl ?_
    refine z_nlt 44 rfl rfl (by omega) (by omega) (fun h9 => absurd h9 (by omega)) (fun _ => ?_)
    refine z_aload 45 rfl rfl rfl ?_
    refine z_iload 46 rfl rfl rfl ?_
    refine y_al (f := f) 47 _ hR rfl rfl ha rfl (by omega) (by repeat (first | with_reducible exact hs0 | with_reducible exact hs1 (by omega) | with_reducible exact hs2 (by omega) | with_reducible exact hs3 (by omega) | with_reducible exact gA_eq _ _ _ _ | (with_reducible apply gA_ne; decide) | with_reducible apply gA_I | with_reducible apply gA_O | (with_reducible apply gA_nj; omega) | with_reducible rfl)) ?_
    refine z_push 49 (nI 8) rfl rfl rfl ?_
    refine z_bop 50 _ rfl rfl (shl_n 8 (by decide) (by omega)) ?_
    refine z_cs1 53 rfl rfl rfl (Nat.le_refl _) (Nat.le_refl _) ?_
    refine r_isLow ?_
    rw [jLow_n (by omega)]
    first | refine z_deq 56 rfl rfl (fun hc53 => ?_) (fun hc53 => ?_)
    · refine z_iload 70 rfl rfl rfl ?_
      refine z_push 71 (nI 2) rfl rfl rfl ?_
      refine z_nge 74 rfl rfl (by omega) (by omega) (fun hc71 => ?_) (fun hc71 => ?_)
      · refine z_aload 79 rfl rfl rfl ?_
        refine z_iload 80 rfl rfl rfl ?_
        refine y_al (f := f) 81 _ hR rfl rfl ha rfl (by omega) (by repeat (first | with_reducible exact hs0 | with_reducible exact hs1 (by omega) | with_reducible exact hs2 (by omega) | with_reducible exact hs3 (by omega) | with_reducible exact gA_eq _ _ _ _ | (with_reducible apply gA_ne; decide) | with_reducible apply gA_I | with_reducible apply gA_O | (with_reducible apply gA_nj; omega) | with_reducible rfl)) ?_
        refine z_push 83 (nI 8) rfl rfl rfl ?_
        refine z_bop 84 _ rfl rfl (shl_n 8 (by decide) (by omega)) ?_
        refine z_aload 85 rfl rfl rfl ?_
        refine z_iload 86 rfl rfl rfl ?_
        refine z_push 87 (nI 1) rfl rfl rfl ?_
        refine z_bop 88 _ rfl rfl (by first | with_reducible exact zb_0 _ _ | exact zd_0 _ _) ?_
        refine y_al (f := f) 89 _ hR rfl rfl ha rfl (by omega) (by repeat (first | with_reducible exact hs0 | with_reducible exact hs1 (by omega) | with_reducible exact hs2 (by omega) | with_reducible exact hs3 (by omega) | with_reducible exact gA_eq _ _ _ _ | (with_reducible apply gA_ne; decide) | with_reducible apply gA_I | with_reducible apply gA_O | (with_reducible apply gA_nj; omega) | with_reducible rfl)) ?_
        refine z_bop 90 _ rfl rfl (or_n (k := 8) (by omega) (by omega)) ?_
        refine z_istore 92 rfl rfl rfl rfl ?_
        refine z_iload 94 rfl rfl rfl ?_
        refine z_push 95 (nI 2) rfl rfl rfl ?_
        refine z_nge 98 rfl rfl (by omega) (by omega) (fun _ => ?_) (fun h9 => absurd h9 (by omega))
        refine z_iload 102 rfl rfl rfl ?_
        refine z_cs1 105 rfl rfl rfl (Nat.le_refl _) (Nat.le_refl _) ?_
        refine r_isLow ?_
        rw [jLow_n (by omega)]
        refine z_deq 108 rfl rfl (fun _ => ?_) (fun h9 => absurd h9 (by omega))
        refine z_iload 112 rfl rfl rfl ?_
        refine z_cs1 115 rfl rfl rfl (Nat.le_refl _) (Nat.le_refl _) ?_
        refine r_isHigh ?_
        rw [jHigh_n (by omega)]
        first | refine z_dne 118 rfl rfl (fun hc115 => ?_) (fun hc115 => ?_)
        · refine z_iload 133 rfl rfl rfl ?_
          refine z_push 134 (nI 3) rfl rfl rfl ?_
          refine z_nlt 137 rfl rfl (by omega) (by omega) (fun hc134 => ?_) (fun hc134 => ?_)
          · refine z_push 148 (nI 1) rfl rfl rfl ?_
            refine z_ireti rfl (Nat.le_refl _) (Nat.le_refl _) ?_
            have e9 : lkU true bs = (1, 0, 0) := by rw [lkU, if_pos (by decide), if_neg (by omega), if_neg (by omega), if_pos (by omega), if_pos (by omega)]
            rw [e9] at q
            exact q h s hR On.rfl (fun h9 => absurd h9 (by decide))
          · refine z_iload 138 rfl rfl rfl ?_
            refine z_bne 141 rfl rfl (fun _ => ?_) (fun h9 => absurd h9 (by decide))
            refine z_iload 150 rfl rfl rfl ?_
            refine z_beq 153 rfl rfl (fun h9 => absurd h9 (by decide)) (fun _ => ?_)
            refine z_aload 154 rfl rfl rfl ?_
            refine z_iload 155 rfl rfl rfl ?_
            refine z_push 156 (nI 2) rfl rfl rfl ?_
            refine z_bop 157 _ rfl rfl (by first | with_reducible exact zb_0 _ _ | exact zd_0 _ _) ?_
            refine y_al (f := f) 158 _ hR rfl rfl ha rfl (by omega) (by repeat (first | with_reducible exact hs0 | with_reducible exact hs1 (by omega) | with_reducible exact hs2 (by omega) | with_reducible exact hs3 (by omega) | with_reducible exact gA_eq _ _ _ _ | (with_reducible apply gA_ne; decide) | with_reducible apply gA_I | with_reducible apply gA_O | (with_reducible apply gA_nj; omega) | with_reducible rfl)) ?_
            refine z_push 160 (nI 8) rfl rfl rfl ?_
            refine z_bop 161 _ rfl rfl (shl_n 8 (by decide) (by omega)) ?_
            refine z_cs1 164 rfl rfl rfl (Nat.le_refl _) (Nat.le_refl _) ?_
            refine r_isLow ?_
            rw [jLow_n (by omega)]
            first | refine z_dne 167 rfl rfl (fun hc164 => ?_) (fun hc164 => ?_)
            · refine z_iload 171 rfl rfl rfl ?_
              refine z_push 172 (nI 4) rfl rfl rfl ?_
              refine z_nge 175 rfl rfl (by omega) (by omega) (fun hc172 => ?_) (fun hc172 => ?_)
              · refine z_iload 178 rfl rfl rfl ?_
                refine z_beq 181 rfl rfl (fun h9 => absurd h9 (by decide)) (fun _ => ?_)
                refine z_aload 182 rfl rfl rfl ?_
                refine z_iload 183 rfl rfl rfl ?_
                refine z_push 184 (nI 2) rfl rfl rfl ?_
                refine z_bop 185 _ rfl rfl (by first | with_reducible exact zb_0 _ _ | exact zd_0 _ _) ?_
                refine y_al (f := f) 186 _ hR rfl rfl ha rfl (by omega) (by repeat (first | with_reducible exact hs0 | with_reducible exact hs1 (by omega) | with_reducible exact hs2 (by omega) | with_reducible exact hs3 (by omega) | with_reducible exact gA_eq _ _ _ _ | (with_reducible apply gA_ne; decide) | with_reducible apply gA_I | with_reducible apply gA_O | (with_reducible apply gA_nj; omega) | with_reducible rfl)) ?_
                refine z_push 188 (nI 8) rfl rfl rfl ?_
                refine z_bop 189 _ rfl rfl (shl_n 8 (by decide) (by omega)) ?_
                refine z_aload 190 rfl rfl rfl ?_
                refine z_iload 191 rfl rfl rfl ?_
                refine z_push 192 (nI 3) rfl rfl rfl ?_
                refine z_bop 193 _ rfl rfl (by first | with_reducible exact zb_0 _ _ | exact zd_0 _ _) ?_
                refine y_al (f := f) 194 _ hR rfl rfl ha rfl (by omega) (by repeat (first | with_reducible exact hs0 | with_reducible exact hs1 (by omega) | with_reducible exact hs2 (by omega) | with_reducible exact hs3 (by omega) | with_reducible exact gA_eq _ _ _ _ | (with_reducible apply gA_ne; decide) | with_reducible apply gA_I | with_reducible apply gA_O | (with_reducible apply gA_nj; omega) | with_reducible rfl)) ?_
                refine z_bop 195 _ rfl rfl (or_n (k := 8) (by omega) (by omega)) ?_
                refine z_goto rfl ?_
                refine z_istore 214 rfl rfl rfl rfl ?_
                refine z_iload 216 rfl rfl rfl ?_
                refine z_cs1 219 rfl rfl rfl (Nat.le_refl _) (Nat.le_refl _) ?_
                refine r_isLow ?_
                rw [jLow_n (by omega)]
                refine z_dne 222 rfl rfl (fun _ => ?_) (fun h9 => absurd h9 (by omega))
                refine z_aload 225 rfl rfl rfl ?_
                refine z_push 226 (nI 4) rfl rfl rfl ?_
                refine y_pi 229 hR rfl rfl rfl rfl rfl (mFi rfl) ?_
                intro h hR
                refine z_aload 230 rfl rfl rfl ?_
                refine z_push 232 (nI 65536) rfl rfl rfl ?_
                refine z_iload 234 rfl rfl rfl ?_
                refine z_push 236 (nI 55296) rfl rfl rfl ?_
                refine z_bop 237 _ rfl rfl (by first | with_reducible exact zb_1 (by omega) | exact zd_1 _ _) ?_
                refine z_push 239 (nI 10) rfl rfl rfl ?_
                refine z_bop 240 _ rfl rfl (shl_n 10 (by decide) (by omega)) ?_
                refine z_bop 241 _ rfl rfl (by first | with_reducible exact zb_0 _ _ | exact zd_0 _ _) ?_
                refine z_iload 243 rfl rfl rfl ?_
                refine z_bop 244 _ rfl rfl (by first | with_reducible exact zb_0 _ _ | exact zd_0 _ _) ?_
                refine z_push 246 (nI 56320) rfl rfl rfl ?_
                refine z_bop 247 _ rfl rfl (by first | with_reducible exact zb_1 (by omega) | exact zd_1 _ _) ?_
                refine y_pi 250 hR rfl rfl rfl rfl rfl (mFi rfl) ?_
                intro h hR
                refine z_push 251 (nI 2) rfl rfl rfl ?_
                refine z_ireti rfl (Nat.le_refl _) (Nat.le_refl _) ?_
                have e9 : lkU true bs = (2, 4, 65536 + (bs.getD 0 0 * 2 ^ 8 + bs.getD 1 0 - 55296) * 2 ^ 10 + (bs.getD 2 0 * 2 ^ 8 + bs.getD 3 0) - 56320) := by rw [lkU, if_pos (by decide), if_neg (by omega), if_neg (by omega), if_pos (by omega), if_neg (by omega), if_pos (by omega), if_neg (by omega)]
                rw [e9] at q
                exact q h _ hR ((On.rfl.I (by decide)).I (by decide)) (fun _ => ⟨by repeat (first | with_reducible exact gI_eq _ _ _ | (with_reducible apply gI_ne; decide) | with_reducible apply gI_A | with_reducible apply gI_O | with_reducible rfl), gI_eq _ _ _⟩)
              · refine z_push 176 (nI 1) rfl rfl rfl ?_
                refine z_ireti rfl (Nat.le_refl _) (Nat.le_refl _) ?_
                have e9 : lkU true bs = (1, 0, 0) := by rw [lkU, if_pos (by decide), if_neg (by omega), if_neg (by omega), if_pos (by omega), if_neg (by omega), if_pos (by omega), if_pos (by omega)]
                rw [e9] at q
                exact q h s hR On.rfl (fun h9 => absurd h9 (by decide))
            · refine z_push 168 (nI 0) rfl rfl rfl ?_
              refine z_ireti rfl (Nat.le_refl _) (Nat.le_refl _) ?_
              have e9 : lkU true bs = (0, 0, 0) := by rw [lkU, if_pos (by decide), if_neg (by omega), if_neg (by omega), if_pos (by omega), if_neg (by omega), if_neg (by omega)]
              rw [e9] at q
              exact q h s hR On.rfl (fun h9 => absurd h9 (by decide))
        · refine z_aload 119 rfl rfl rfl ?_
          refine z_push 120 (nI 2) rfl rfl rfl ?_
          refine y_pi 123 hR rfl rfl rfl rfl rfl (mFi rfl) ?_
          intro h hR
          refine z_aload 124 rfl rfl rfl ?_
          refine z_iload 126 rfl rfl rfl ?_
          refine y_pi 129 hR rfl rfl rfl rfl rfl (mFi rfl) ?_
          intro h hR
          refine z_push 130 (nI 2) rfl rfl rfl ?_
          refine z_ireti rfl (Nat.le_refl _) (Nat.le_refl _) ?_
          have e9 : lkU true bs = (2, 2, bs.getD 0 0 * 2 ^ 8 + bs.getD 1 0) := by rw [lkU, if_pos (by decide), if_neg (by omega), if_neg (by omega), if_neg (by omega)]
          rw [e9] at q
          exact q h _ hR ((On.rfl.I (by decide)).I (by decide)) (fun _ => ⟨by repeat (first | with_reducible exact gI_eq _ _ _ | (with_reducible apply gI_ne; decide) | with_reducible apply gI_A | with_reducible apply gI_O | with_reducible rfl), gI_eq _ _ _⟩)
      · refine z_push 75 (-1) rfl rfl rfl ?_
        refine z_goto rfl ?_
        refine z_istore 92 rfl rfl rfl rfl ?_
        refine z_iload 94 rfl rfl rfl ?_
        refine z_push 95 (nI 2) rfl rfl rfl ?_
        refine z_nge 98 rfl rfl (by omega) (by omega) (fun h9 => absurd h9 (by omega)) (fun _ => ?_)
        refine z_push 99 (nI 1) rfl rfl rfl ?_
        refine z_ireti rfl (Nat.le_refl _) (Nat.le_refl _) ?_
        have e9 : lkU true bs = (1, 0, 0) := by rw [lkU, if_pos (by decide), if_neg (by omega), if_pos (by omega)]
        rw [e9] at q
        exact q h s hR On.rfl (fun h9 => absurd h9 (by decide))
    · refine z_iload 58 rfl rfl rfl ?_
      refine z_push 59 (nI 1) rfl rfl rfl ?_
      refine z_nge 62 rfl rfl (by omega) (by omega) (fun _ => ?_) (fun h9 => absurd h9 (by omega))
      refine z_push 67 (nI 0) rfl rfl rfl ?_
      refine z_ireti rfl (Nat.le_refl _) (Nat.le_refl _) ?_
      have e9 : lkU true bs = (0, 0, 0) := by rw [lkU, if_pos (by decide), if_pos (by omega)]
      rw [e9] at q
      exact q h s hR On.rfl (fun h9 => absurd h9 (by decide))
def fwM (b : Nat) : Nat := if b < 128 then 1 else if 194 ≤ b ∧ b ≤ 223 then 2 else if 224 ≤ b ∧ b ≤ 239 then 3 else if 240 ≤ b ∧ b ≤ 244 then 4 else 0
def fwB (n b : Nat) : Nat := if n = 1 then b else if n = 2 then b % 32 else if n = 3 then b % 16 else b % 8
def fwL0 (n : Nat) : Nat := if n = 2 then 128 else if n = 3 then 2048 else 65536
def fwX (n v e : Nat) : Bool := decide (v * 2 ^ e + 1 * 2 ^ e - 1 < fwL0 n ∨ 1114111 < v * 2 ^ e ∨ (55296 ≤ v * 2 ^ e ∧ v * 2 ^ e + 1 * 2 ^ e - 1 ≤ 57343))
def lkFl (n : Nat) (bs : List Nat) : Nat → Nat → Nat → Nat × Nat × Nat
  | 0, _, v => (2, n, v)
  | m + 1, k, v => if bs.length ≤ k then (1, 0, 0) else if 128 ≤ bs.getD k 0 ∧ bs.getD k 0 ≤ 191 then
      (if fwX n (v * 2 ^ 6 + bs.getD k 0 % 2 ^ 6) (6 * (n - 1 - k)) = true then (0, 0, 0) else lkFl n bs m (k + 1) (v * 2 ^ 6 + bs.getD k 0 % 2 ^ 6)) else (0, 0, 0)
def lkF (bs : List Nat) : Nat × Nat × Nat := if fwM (bs.getD 0 0) = 0 then (0, 0, 0) else lkFl (fwM (bs.getD 0 0)) bs (fwM (bs.getD 0 0) - 1) 1 (fwB (fwM (bs.getD 0 0)) (bs.getD 0 0))
theorem lkFl_s {n k v : Nat} {bs : List Nat} (h : k < n) : lkFl n bs (n - k) k v = if bs.length ≤ k then (1, 0, 0) else if 128 ≤ bs.getD k 0 ∧ bs.getD k 0 ≤ 191 then
      (if fwX n (v * 2 ^ 6 + bs.getD k 0 % 2 ^ 6) (6 * (n - 1 - k)) = true then (0, 0, 0) else lkFl n bs (n - (k + 1)) (k + 1) (v * 2 ^ 6 + bs.getD k 0 % 2 ^ 6)) else (0, 0, 0) := by
  rw [show n - k = n - (k + 1) + 1 by omega]; rfl
set_option maxRecDepth 10000 in
theorem r_lookFew {d r : Nat} {h h0 : mH} {s : rS} {f kk nn a : Nat} {bs : List Nat} {Q : mP} (hR : Rf r h0 s h) (ha : rArr f = some (kk, 0, nn)) (hb : ByAt s f a bs) (hn1 : 1 ≤ bs.length) (hnn : a + bs.length ≤ nn) (hnb : nn < 2 ^ 30)  (q : ∀ h' s', Rf r h0 s' h' → On [40, 41] s s' → ((lkF bs).1 = 2 → s'.1 40 = (lkF bs).2.1 ∧ s'.1 41 = (lkF bs).2.2) → Q (some (.int (nI (lkF bs).1))) h') : mWP (d + 2) 214 [.ref r, .ref (r + kk), .int (nI a), .int (nI (a + bs.length))] h Q := by
  obtain ⟨hs, hb8⟩ := hb
  have hs0 : s.2.2 f a = bs.getD 0 0 := hs 0 (by omega)
  have hs1 : 1 < bs.length → s.2.2 f (a + 1) = bs.getD 1 0 := fun h9 => hs 1 h9
  have hs2 : 2 < bs.length → s.2.2 f (a + 2) = bs.getD 2 0 := fun h9 => hs 2 h9
  have hs3 : 3 < bs.length → s.2.2 f (a + 3) = bs.getD 3 0 := fun h9 => hs 3 h9
  have hv0 := hb8 0
  have hv1 := hb8 1
  have hv2 := hb8 2
  have hv3 := hb8 3
  have hn31 := (rArr_ok ha).2.2.2.1
  have hs : ∀ j, j < bs.length → s.2.2 f (a + j) = bs.getD j 0 := hs
  have loop : ∀ n, 1 ≤ n → n ≤ 4 → ∀ m k v o8 o9 o10, n < k + m → k ≤ n → 1 ≤ k → (v + 1) * 2 ^ (6 * (n - k)) ≤ 2 ^ 21 → lkF bs = lkFl n bs (n - k) k v → mZ (d + 1) tk_214 0 0 Q 131 [some (.ref r), some (.ref (r + kk)), some (.int (nI a)), some (.int (nI (a + bs.length))), some (.int (nI (bs.getD 0 0))), some (.int (nI n)), some (.int (nI v)), some (.int (nI k)), o8, o9, o10] [] h 0 0 := by
    intro n hn1' hn4 m
    induction m with
    | zero => intro k v o8 o9 o10 h1 h2; omega
    | succ m ih =>
      intro k v o8 o9 o10 h1 h2 h3 hvv hF
      have hck := hb8 k
      have hv21 : v + 1 ≤ 2 ^ 21 := Nat.le_trans (Nat.le_mul_of_pos_right _ (Nat.two_pow_pos _)) hvv
      have tail : k < n → k < bs.length → (128 ≤ bs.getD k 0 ∧ bs.getD k 0 ≤ 191) → ((v * 2 ^ 6 + bs.getD k 0 % 2 ^ 6) + 1) * 2 ^ (6 * (n - 1 - k)) ≤ 2 ^ 21 → mZ (d + 1) tk_214 0 0 Q 247 [some (.ref r), some (.ref (r + kk)), some (.int (nI a)), some (.int (nI (a + bs.length))), some (.int (nI (bs.getD 0 0))), some (.int (nI n)), some (.int (nI (v * 2 ^ 6 + bs.getD k 0 % 2 ^ 6))), some (.int (nI k)), some (.int (nI (bs.getD k 0))), some (.int (nI ((v * 2 ^ 6 + bs.getD k 0 % 2 ^ 6) * 2 ^ (6 * (n - 1 - k))))), some (.int (nI ((v * 2 ^ 6 + bs.getD k 0 % 2 ^ 6) * 2 ^ (6 * (n - 1 - k)) + 1 * 2 ^ (6 * (n - 1 - k)) - 1)))] [.int (nI (fwL0 n)), .int (nI ((v * 2 ^ 6 + bs.getD k 0 % 2 ^ 6) * 2 ^ (6 * (n - 1 - k)) + 1 * 2 ^ (6 * (n - 1 - k)) - 1))] h 0 0 := by
        intro hkn hkb hcb hvb
        have hl0 : fwL0 n ≤ 65536 := by unfold fwL0; split <;> (try split) <;> omega
        have hlow : (v * 2 ^ 6 + bs.getD k 0 % 2 ^ 6) * 2 ^ (6 * (n - 1 - k)) + 1 * 2 ^ (6 * (n - 1 - k)) ≤ 2 ^ 21 := by rw [← Nat.add_mul]; exact hvb
        have hpos : 0 < 2 ^ (6 * (n - 1 - k)) := Nat.two_pow_pos _
        rw [lkFl_s hkn, if_neg (by omega), if_pos hcb] at hF
        refine z_nlt 250 rfl rfl (by omega) (by omega) (fun hc247 => ?_) (fun hc247 => ?_)
        · refine z_push 272 (nI 0) rfl rfl rfl ?_
          refine z_ireti rfl (Nat.le_refl _) (Nat.le_refl _) ?_
          rw [if_pos (by rw [fwX, decide_eq_true_eq]; omega)] at hF
          rw [hF] at q
          exact q h s hR On.rfl (fun h9 => absurd h9 (by decide))
        · refine z_iload 252 rfl rfl rfl ?_
          refine z_push 254 (nI 1114111) rfl rfl rfl ?_
          refine z_ngt 257 rfl rfl (by omega) (by omega) (fun hc254 => ?_) (fun hc254 => ?_)
          · refine z_push 272 (nI 0) rfl rfl rfl ?_
            refine z_ireti rfl (Nat.le_refl _) (Nat.le_refl _) ?_
            rw [if_pos (by rw [fwX, decide_eq_true_eq]; omega)] at hF
            rw [hF] at q
            exact q h s hR On.rfl (fun h9 => absurd h9 (by decide))
          · refine z_iload 259 rfl rfl rfl ?_
            refine z_push 261 (nI 55296) rfl rfl rfl ?_
            refine z_nlt 264 rfl rfl (by omega) (by omega) (fun hc261 => ?_) (fun hc261 => ?_)
            · refine z_iinc 276 _ rfl rfl rfl rfl (by first | with_reducible exact zi_1 _ | rfl) ?_
              refine z_goto rfl ?_
              rw [if_neg (by rw [fwX, decide_eq_true_eq]; omega)] at hF
              exact ih (k + 1) _ _ _ _ (by omega) (by omega) (by omega) (by rw [show 6 * (n - (k + 1)) = (6 * (n - 1 - k)) by omega]; exact hvb) hF
            · refine z_iload 266 rfl rfl rfl ?_
              refine z_push 268 (nI 57343) rfl rfl rfl ?_
              refine z_ngt 271 rfl rfl (by omega) (by omega) (fun hc268 => ?_) (fun hc268 => ?_)
              · refine z_iinc 276 _ rfl rfl rfl rfl (by first | with_reducible exact zi_1 _ | rfl) ?_
                refine z_goto rfl ?_
                rw [if_neg (by rw [fwX, decide_eq_true_eq]; omega)] at hF
                exact ih (k + 1) _ _ _ _ (by omega) (by omega) (by omega) (by rw [show 6 * (n - (k + 1)) = (6 * (n - 1 - k)) by omega]; exact hvb) hF
              · refine z_push 272 (nI 0) rfl rfl rfl ?_
                refine z_ireti rfl (Nat.le_refl _) (Nat.le_refl _) ?_
                rw [if_pos (by rw [fwX, decide_eq_true_eq]; omega)] at hF
                rw [hF] at q
                exact q h s hR On.rfl (fun h9 => absurd h9 (by decide))
      refine z_iload 133 rfl rfl rfl ?_
      refine z_iload 135 rfl rfl rfl ?_
      refine z_nge 138 rfl rfl (by omega) (by omega) (fun hc135 => ?_) (fun hc135 => ?_)
      · refine z_aload 280 rfl rfl rfl ?_
        refine z_iload 282 rfl rfl rfl ?_
        refine y_pi 285 hR rfl rfl rfl rfl rfl (mFi rfl) ?_
        intro h hR
        refine z_aload 286 rfl rfl rfl ?_
        refine z_iload 288 rfl rfl rfl ?_
        refine y_pi 291 hR rfl rfl rfl rfl rfl (mFi rfl) ?_
        intro h hR
        refine z_push 292 (nI 2) rfl rfl rfl ?_
        refine z_ireti rfl (Nat.le_refl _) (Nat.le_refl _) ?_
        rw [show n - k = 0 by omega] at hF
        have hF2 : lkF bs = (2, n, v) := hF
        rw [hF2] at q
        exact q h _ hR ((On.rfl.I (by decide)).I (by decide)) (fun _ => ⟨by repeat (first | with_reducible exact gI_eq _ _ _ | (with_reducible apply gI_ne; decide) | with_reducible apply gI_A | with_reducible apply gI_O | with_reducible rfl), gI_eq _ _ _⟩)
      · refine z_iload 139 rfl rfl rfl ?_
        refine z_iload 141 rfl rfl rfl ?_
        refine z_bop 142 _ rfl rfl (by first | with_reducible exact zb_0 _ _ | exact zd_0 _ _) ?_
        refine z_iload 143 rfl rfl rfl ?_
        refine z_nlt 146 rfl rfl (by omega) (by omega) (fun hc143 => ?_) (fun hc143 => ?_)
        · refine z_aload 149 rfl rfl rfl ?_
          refine z_iload 150 rfl rfl rfl ?_
          refine z_iload 152 rfl rfl rfl ?_
          refine z_bop 153 _ rfl rfl (by first | with_reducible exact zb_0 _ _ | exact zd_0 _ _) ?_
          refine y_al (f := f) 154 _ hR rfl rfl ha rfl (by omega) (by repeat (first | with_reducible exact hs k (by omega) | with_reducible exact gA_eq _ _ _ _ | (with_reducible apply gA_ne; decide) | with_reducible apply gA_I | with_reducible apply gA_O | (with_reducible apply gA_nj; omega) | with_reducible rfl)) ?_
          refine z_istore 156 rfl rfl rfl rfl ?_
          refine z_iload 158 rfl rfl rfl ?_
          refine z_push 161 (nI 128) rfl rfl rfl ?_
          refine z_push 164 (nI 191) rfl rfl rfl ?_
          refine z_cs3 167 rfl rfl rfl (Nat.le_refl _) (Nat.le_refl _) ?_
          refine r_in ?_
          rw [jIn_n (by omega) (by omega) (by omega)]
          first | refine z_dne 170 rfl rfl (fun hc167 => ?_) (fun hc167 => ?_)
          · have e64 : 2 ^ (6 * (n - k)) = 2 ^ (6 * (n - 1 - k)) * 64 := by rw [show 6 * (n - k) = (6 * (n - 1 - k)) + 6 by omega, Nat.pow_add]
            have hvb : ((v * 2 ^ 6 + bs.getD k 0 % 2 ^ 6) + 1) * 2 ^ (6 * (n - 1 - k)) ≤ 2 ^ 21 := by
              refine Nat.le_trans (Nat.mul_le_mul_right _ (show (v * 2 ^ 6 + bs.getD k 0 % 2 ^ 6) + 1 ≤ (v + 1) * 64 by omega)) ?_
              rw [Nat.mul_assoc, Nat.mul_comm 64, ← e64]
              exact hvv
            have hlow : (v * 2 ^ 6 + bs.getD k 0 % 2 ^ 6) * 2 ^ (6 * (n - 1 - k)) + 1 * 2 ^ (6 * (n - 1 - k)) ≤ 2 ^ 21 := by rw [← Nat.add_mul]; exact hvb
            have hpos : 0 < 2 ^ (6 * (n - 1 - k)) := Nat.two_pow_pos _
            have hvs : (v * 2 ^ 6 + bs.getD k 0 % 2 ^ 6) ≤ (v * 2 ^ 6 + bs.getD k 0 % 2 ^ 6) * 2 ^ (6 * (n - 1 - k)) := Nat.le_mul_of_pos_right _ hpos
            refine z_iload 174 rfl rfl rfl ?_
            refine z_push 176 (nI 6) rfl rfl rfl ?_
            refine z_bop 177 _ rfl rfl (shl_n 6 (by decide) (by omega)) ?_
            refine z_iload 179 rfl rfl rfl ?_
            refine z_push 181 (nI 63) rfl rfl rfl ?_
            refine z_bop 182 _ rfl rfl (and_n (by omega) 6 rfl) ?_
            refine z_bop 183 _ rfl rfl (or_n (k := 6) (by omega) (Nat.mod_lt _ (by decide))) ?_
            refine z_istore 185 rfl rfl rfl rfl ?_
            refine z_iload 187 rfl rfl rfl ?_
            refine z_push 189 (nI 6) rfl rfl rfl ?_
            refine z_iload 191 rfl rfl rfl ?_
            refine z_push 192 (nI 1) rfl rfl rfl ?_
            refine z_bop 193 _ rfl rfl (by first | with_reducible exact zb_1 (by omega) | exact zd_1 _ _) ?_
            refine z_iload 195 rfl rfl rfl ?_
            refine z_bop 196 _ rfl rfl (by first | with_reducible exact zb_1 (by omega) | exact zd_1 _ _) ?_
            refine z_bop 197 _ rfl rfl (by first | with_reducible exact zb_2 _ _ | exact zd_2 _ _) ?_
            refine z_bop 198 _ rfl rfl (shl_n _ (by omega) (by omega)) ?_
            refine z_istore 200 rfl rfl rfl rfl ?_
            refine z_iload 202 rfl rfl rfl ?_
            refine z_push 203 (nI 1) rfl rfl rfl ?_
            refine z_push 205 (nI 6) rfl rfl rfl ?_
            refine z_iload 207 rfl rfl rfl ?_
            refine z_push 208 (nI 1) rfl rfl rfl ?_
            refine z_bop 209 _ rfl rfl (by first | with_reducible exact zb_1 (by omega) | exact zd_1 _ _) ?_
            refine z_iload 211 rfl rfl rfl ?_
            refine z_bop 212 _ rfl rfl (by first | with_reducible exact zb_1 (by omega) | exact zd_1 _ _) ?_
            refine z_bop 213 _ rfl rfl (by first | with_reducible exact zb_2 _ _ | exact zd_2 _ _) ?_
            refine z_bop 214 _ rfl rfl (shl_n _ (by omega) (by omega)) ?_
            refine z_bop 215 _ rfl rfl (by first | with_reducible exact zb_0 _ _ | exact zd_0 _ _) ?_
            refine z_push 216 (nI 1) rfl rfl rfl ?_
            refine z_bop 217 _ rfl rfl (by first | with_reducible exact zb_1 (by omega) | exact zd_1 _ _) ?_
            refine z_istore 219 rfl rfl rfl rfl ?_
            refine z_iload 221 rfl rfl rfl ?_
            refine z_iload 223 rfl rfl rfl ?_
            refine z_push 224 (nI 2) rfl rfl rfl ?_
            refine z_nne 227 rfl rfl (by omega) (by omega) (fun hc224 => ?_) (fun hc224 => ?_)
            · refine z_iload 235 rfl rfl rfl ?_
              refine z_push 236 (nI 3) rfl rfl rfl ?_
              refine z_nne 239 rfl rfl (by omega) (by omega) (fun hc236 => ?_) (fun hc236 => ?_)
              · refine z_push 247 (nI 65536) rfl rfl rfl ?_
                rw [show nI 65536 = nI (fwL0 n) from by rw [fwL0, if_neg hc224, if_neg hc236]]
                exact tail (by omega) (by omega) hc167 hvb
              · refine z_push 242 (nI 2048) rfl rfl rfl ?_
                refine z_goto rfl ?_
                rw [show nI 2048 = nI (fwL0 n) from by rw [fwL0, if_neg hc224, if_pos hc236]]
                exact tail (by omega) (by omega) hc167 hvb
            · refine z_push 230 (nI 128) rfl rfl rfl ?_
              refine z_goto rfl ?_
              rw [show nI 128 = nI (fwL0 n) from by rw [fwL0, if_pos hc224]]
              exact tail (by omega) (by omega) hc167 hvb
          · refine z_push 171 (nI 0) rfl rfl rfl ?_
            refine z_ireti rfl (Nat.le_refl _) (Nat.le_refl _) ?_
            rw [lkFl_s (by omega), if_neg (by omega), if_neg hc167] at hF
            rw [hF] at q
            exact q h s hR On.rfl (fun h9 => absurd h9 (by decide))
        · refine z_push 147 (nI 1) rfl rfl rfl ?_
          refine z_ireti rfl (Nat.le_refl _) (Nat.le_refl _) ?_
          rw [lkFl_s (by omega), if_pos (by omega)] at hF
          rw [hF] at q
          exact q h s hR On.rfl (fun h9 => absurd h9 (by decide))
  refine z_in [some (.ref r), some (.ref (r + kk)), some (.int (nI a)), some (.int (nI (a + bs.length))), none, none, none, none, none, none, none] (by rfl) rfl rfl rfl ?_
  refine z_iload 1 rfl rfl rfl ?_
  refine z_iload 2 rfl rfl rfl ?_
  refine z_nlt 5 rfl rfl (by omega) (by omega) (fun _ => ?_) (fun h9 => absurd h9 (by omega))
  refine z_aload 8 rfl rfl rfl ?_
  refine z_iload 9 rfl rfl rfl ?_
  refine y_al (f := f) 10 _ hR rfl rfl ha rfl (by omega) (by repeat (first | with_reducible exact hs0 | with_reducible exact gA_eq _ _ _ _ | (with_reducible apply gA_ne; decide) | with_reducible apply gA_I | with_reducible apply gA_O | (with_reducible apply gA_nj; omega) | with_reducible rfl)) ?_
  refine z_istore 12 rfl rfl rfl rfl ?_
  refine z_iload 14 rfl rfl rfl ?_
  refine z_push 17 (nI 128) rfl rfl rfl ?_
  refine z_nge 20 rfl rfl (by omega) (by omega) (fun hc17 => ?_) (fun hc17 => ?_)
  · refine z_iload 26 rfl rfl rfl ?_
    refine z_push 29 (nI 194) rfl rfl rfl ?_
    refine z_push 32 (nI 223) rfl rfl rfl ?_
    refine z_cs3 35 rfl rfl rfl (Nat.le_refl _) (Nat.le_refl _) ?_
    refine r_in ?_
    rw [jIn_n (by omega) (by omega) (by omega)]
    first | refine z_deq 38 rfl rfl (fun hc35 => ?_) (fun hc35 => ?_)
    · refine z_iload 44 rfl rfl rfl ?_
      refine z_push 47 (nI 224) rfl rfl rfl ?_
      refine z_push 50 (nI 239) rfl rfl rfl ?_
      refine z_cs3 53 rfl rfl rfl (Nat.le_refl _) (Nat.le_refl _) ?_
      refine r_in ?_
      rw [jIn_n (by omega) (by omega) (by omega)]
      first | refine z_deq 56 rfl rfl (fun hc53 => ?_) (fun hc53 => ?_)
      · refine z_iload 62 rfl rfl rfl ?_
        refine z_push 65 (nI 240) rfl rfl rfl ?_
        refine z_push 68 (nI 244) rfl rfl rfl ?_
        refine z_cs3 71 rfl rfl rfl (Nat.le_refl _) (Nat.le_refl _) ?_
        refine r_in ?_
        rw [jIn_n (by omega) (by omega) (by omega)]
        first | refine z_deq 74 rfl rfl (fun hc71 => ?_) (fun hc71 => ?_)
        · refine z_push 79 (nI 0) rfl rfl rfl ?_
          refine z_istore 81 rfl rfl rfl rfl ?_
          refine z_iload 83 rfl rfl rfl ?_
          refine z_zne 86 rfl rfl (by omega) (fun h9 => absurd h9 (by omega)) (fun _ => ?_)
          refine z_push 87 (nI 0) rfl rfl rfl ?_
          refine z_ireti rfl (Nat.le_refl _) (Nat.le_refl _) ?_
          have e9 : lkF bs = (0, 0, 0) := by
            rw [lkF, if_pos (by rw [fwM, if_neg (by omega), if_neg hc35, if_neg hc53, if_neg hc71])]
          rw [e9] at q
          exact q h s hR On.rfl (fun h9 => absurd h9 (by decide))
        · refine z_push 75 (nI 4) rfl rfl rfl ?_
          refine z_goto rfl ?_
          refine z_istore 81 rfl rfl rfl rfl ?_
          refine z_iload 83 rfl rfl rfl ?_
          refine z_zne 86 rfl rfl (by omega) (fun _ => ?_) (fun h9 => absurd h9 (by omega))
          refine z_iload 90 rfl rfl rfl ?_
          refine z_push 91 (nI 1) rfl rfl rfl ?_
          refine z_nne 94 rfl rfl (by omega) (by omega) (fun _ => ?_) (fun h9 => absurd h9 (by omega))
          refine z_iload 101 rfl rfl rfl ?_
          refine z_iload 103 rfl rfl rfl ?_
          refine z_push 104 (nI 2) rfl rfl rfl ?_
          refine z_nne 107 rfl rfl (by omega) (by omega) (fun _ => ?_) (fun h9 => absurd h9 (by omega))
          refine z_iload 114 rfl rfl rfl ?_
          refine z_push 115 (nI 3) rfl rfl rfl ?_
          refine z_nne 118 rfl rfl (by omega) (by omega) (fun _ => ?_) (fun h9 => absurd h9 (by omega))
          refine z_push 125 (nI 7) rfl rfl rfl ?_
          refine z_bop 126 _ rfl rfl (by first | exact and_n (by omega) 5 rfl | exact and_n (by omega) 4 rfl | exact and_n (by omega) 3 rfl) ?_
          refine z_istore 128 rfl rfl rfl rfl ?_
          refine z_push 129 (nI 1) rfl rfl rfl ?_
          refine z_istore 131 rfl rfl rfl rfl ?_
          have en : fwM (bs.getD 0 0) = 4 := by rw [fwM, if_neg (by omega), if_neg hc35, if_neg hc53, if_pos hc71]
          have eF : lkF bs = lkFl 4 bs (4 - 1) 1 (fwB 4 (bs.getD 0 0)) := by
            rw [lkF, en, if_neg (by decide)]
          exact loop 4 (by decide) (by decide) 5 1 (fwB 4 (bs.getD 0 0)) _ _ _ (by decide) (by decide) (by decide) (by generalize bs.getD 0 0 = b0 at *; simp [fwB]; omega) eF
      · refine z_push 57 (nI 3) rfl rfl rfl ?_
        refine z_goto rfl ?_
        refine z_istore 81 rfl rfl rfl rfl ?_
        refine z_iload 83 rfl rfl rfl ?_
        refine z_zne 86 rfl rfl (by omega) (fun _ => ?_) (fun h9 => absurd h9 (by omega))
        refine z_iload 90 rfl rfl rfl ?_
        refine z_push 91 (nI 1) rfl rfl rfl ?_
        refine z_nne 94 rfl rfl (by omega) (by omega) (fun _ => ?_) (fun h9 => absurd h9 (by omega))
        refine z_iload 101 rfl rfl rfl ?_
        refine z_iload 103 rfl rfl rfl ?_
        refine z_push 104 (nI 2) rfl rfl rfl ?_
        refine z_nne 107 rfl rfl (by omega) (by omega) (fun _ => ?_) (fun h9 => absurd h9 (by omega))
        refine z_iload 114 rfl rfl rfl ?_
        refine z_push 115 (nI 3) rfl rfl rfl ?_
        refine z_nne 118 rfl rfl (by omega) (by omega) (fun h9 => absurd h9 (by omega)) (fun _ => ?_)
        refine z_push 120 (nI 15) rfl rfl rfl ?_
        refine z_goto rfl ?_
        refine z_bop 126 _ rfl rfl (by first | exact and_n (by omega) 5 rfl | exact and_n (by omega) 4 rfl | exact and_n (by omega) 3 rfl) ?_
        refine z_istore 128 rfl rfl rfl rfl ?_
        refine z_push 129 (nI 1) rfl rfl rfl ?_
        refine z_istore 131 rfl rfl rfl rfl ?_
        have en : fwM (bs.getD 0 0) = 3 := by rw [fwM, if_neg (by omega), if_neg hc35, if_pos hc53]
        have eF : lkF bs = lkFl 3 bs (3 - 1) 1 (fwB 3 (bs.getD 0 0)) := by
          rw [lkF, en, if_neg (by decide)]
        exact loop 3 (by decide) (by decide) 5 1 (fwB 3 (bs.getD 0 0)) _ _ _ (by decide) (by decide) (by decide) (by generalize bs.getD 0 0 = b0 at *; simp [fwB]; omega) eF
    · refine z_push 39 (nI 2) rfl rfl rfl ?_
      refine z_goto rfl ?_
      refine z_istore 81 rfl rfl rfl rfl ?_
      refine z_iload 83 rfl rfl rfl ?_
      refine z_zne 86 rfl rfl (by omega) (fun _ => ?_) (fun h9 => absurd h9 (by omega))
      refine z_iload 90 rfl rfl rfl ?_
      refine z_push 91 (nI 1) rfl rfl rfl ?_
      refine z_nne 94 rfl rfl (by omega) (by omega) (fun _ => ?_) (fun h9 => absurd h9 (by omega))
      refine z_iload 101 rfl rfl rfl ?_
      refine z_iload 103 rfl rfl rfl ?_
      refine z_push 104 (nI 2) rfl rfl rfl ?_
      refine z_nne 107 rfl rfl (by omega) (by omega) (fun h9 => absurd h9 (by omega)) (fun _ => ?_)
      refine z_push 109 (nI 31) rfl rfl rfl ?_
      refine z_goto rfl ?_
      refine z_bop 126 _ rfl rfl (by first | exact and_n (by omega) 5 rfl | exact and_n (by omega) 4 rfl | exact and_n (by omega) 3 rfl) ?_
      refine z_istore 128 rfl rfl rfl rfl ?_
      refine z_push 129 (nI 1) rfl rfl rfl ?_
      refine z_istore 131 rfl rfl rfl rfl ?_
      have en : fwM (bs.getD 0 0) = 2 := by rw [fwM, if_neg (by omega), if_pos hc35]
      have eF : lkF bs = lkFl 2 bs (2 - 1) 1 (fwB 2 (bs.getD 0 0)) := by
        rw [lkF, en, if_neg (by decide)]
      exact loop 2 (by decide) (by decide) 5 1 (fwB 2 (bs.getD 0 0)) _ _ _ (by decide) (by decide) (by decide) (by generalize bs.getD 0 0 = b0 at *; simp [fwB]; omega) eF
  · refine z_push 21 (nI 1) rfl rfl rfl ?_
    refine z_goto rfl ?_
    refine z_istore 81 rfl rfl rfl rfl ?_
    refine z_iload 83 rfl rfl rfl ?_
    refine z_zne 86 rfl rfl (by omega) (fun _ => ?_) (fun h9 => absurd h9 (by omega))
    refine z_iload 90 rfl rfl rfl ?_
    refine z_push 91 (nI 1) rfl rfl rfl ?_
    refine z_nne 94 rfl rfl (by omega) (by omega) (fun h9 => absurd h9 (by omega)) (fun _ => ?_)
    refine z_iload 96 rfl rfl rfl ?_
    refine z_goto rfl ?_
    refine z_istore 128 rfl rfl rfl rfl ?_
    refine z_push 129 (nI 1) rfl rfl rfl ?_
    refine z_istore 131 rfl rfl rfl rfl ?_
    have en : fwM (bs.getD 0 0) = 1 := by rw [fwM, if_pos (by omega)]
    have eF : lkF bs = lkFl 1 bs (1 - 1) 1 (fwB 1 (bs.getD 0 0)) := by
      rw [lkF, en, if_neg (by decide)]
    exact loop 1 (by decide) (by decide) 5 1 (fwB 1 (bs.getD 0 0)) _ _ _ (by decide) (by decide) (by decide) (by generalize bs.getD 0 0 = b0 at *; simp [fwB]; omega) eF
def cmn (n v : Nat) (bs : List Nat) : Nat → Nat → Nat
  | 0, j => j
  | m + 1, j => if j < n ∧ j < bs.length ∧ bs.getD j 0 = bt n v j then cmn n v bs m (j + 1) else j
def cmS (E : List En) (bs : List Nat) (k : Nat) : Nat := cmn (enN E k) (enT E k) bs (enN E k) 0
def mtW (E : List En) (due : Nat) (bs : List Nat) (k : Nat) : Bool := decide (enS E k = due) && decide (cmS E bs k = enN E k)
def mtP (E : List En) (due : Nat) (bs : List Nat) (k : Nat) : Bool := decide (enS E k = due) && decide (cmS E bs k = bs.length)
def lkT (E : List En) (H : List Sh) (due : Nat) (free : Bool) (bs : List Nat) : Nat × Nat × Nat :=
  match ffd (mtW E due bs) E.length 0 with
  | some k => (2, enN E k, enP E k)
  | none => match (if free = true then ffd (sQ H due (bs.getD 0 0)) H.length 0 else none) with
    | some k => (3, k, 0)
    | none => if anyB (mtP E due bs) E.length = true then (1, 0, 0) else (0, 0, 0)
/-- what stands at a place, by a page: 0 nothing, 1 a part, 2 whole (length, point), 3 a shift (its number) -/
def lk (K : Nat) (E : List En) (H : List Sh) (st pn : Nat) (bs : List Nat) : Nat × Nat × Nat := if K = 3 then lkF bs else if K = 0 then lkT E H (if pn = 4 then st else pn) (decide (pn = 4)) bs else lkU (decide (K = 1)) bs
theorem cmn_le {n v : Nat} {bs : List Nat} : ∀ (m j : Nat), cmn n v bs m j ≤ j + m
  | 0, _ => Nat.le_refl _
  | m + 1, j => by
    unfold cmn
    split
    · have := cmn_le (n := n) (v := v) (bs := bs) m (j + 1); omega
    · omega
theorem cmn_no {n v : Nat} {bs : List Nat} {m j : Nat} (h : ¬ (j < n ∧ j < bs.length ∧ bs.getD j 0 = bt n v j)) : cmn n v bs m j = j := by
  cases m with
  | zero => rfl
  | succ m => rw [cmn, if_neg h]
theorem cmn_s {n v : Nat} {bs : List Nat} {j : Nat} (h : j < n ∧ j < bs.length ∧ bs.getD j 0 = bt n v j) : cmn n v bs (n - j) j = cmn n v bs (n - (j + 1)) (j + 1) := by
  rw [show n - j = n - (j + 1) + 1 by omega, cmn, if_pos h]
