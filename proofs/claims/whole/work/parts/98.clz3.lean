/-! the reference made -/
def rC0 (f j : Nat) : Nat := if f = 21 then (if j = 0 then 65533 else if j = 1 then 63 else 0) else 0
def s0 : rS := (fun _ => 0, 0, rC0)
def rFc (k c : Nat) : Value := if c = 36 then .null else match rArr c with
  | some (j, _, _) => if j ≤ k then .ref (96 + j) else .null
  | none => .int 0
def rFk (k : Nat) : List Value := (List.range 69).map (rFc k)
theorem rFk_0 : mDf 12 69 = rFk 0 := by rfl
theorem rFk_e : rFk 46 = rFs 96 s0 := by
  unfold rFk rFs
  refine List.map_congr_left (fun c hc => ?_)
  unfold rFc rFv
  by_cases h36 : c = 36
  · rw [if_pos h36, if_pos h36]; rfl
  · rw [if_neg h36, if_neg h36]
    rcases hr : rArr c with _ | ⟨j, t, n⟩
    · rfl
    · simp only
      rw [if_pos (by have := (rArr_ok hr).2.1; omega)]
theorem rFk_g {k c : Nat} (h : c < (rFk k).length) : (rFk k)[c] = rFc k c := by simp [rFk]
theorem rFk_s {f k t n : Nat} (hf : rArr f = some (k + 1, t, n)) : (rFk k).set f (.ref (97 + k)) = rFk (k + 1) := by
  obtain ⟨a1, a2, a3, a4, a5, a6⟩ := rArr_ok hf
  refine List.ext_getElem (by simp [rFk]) (fun c h1 h2 => ?_)
  rw [List.getElem_set, rFk_g, rFk_g]
  by_cases e : f = c
  · subst e
    rw [if_pos rfl, rFc, if_neg a6, hf]
    simp only
    rw [if_pos (Nat.le_refl _), show 97 + k = 96 + (k + 1) by omega]
  · rw [if_neg e]
    unfold rFc
    by_cases h36 : c = 36
    · rw [if_pos h36, if_pos h36]
    · rw [if_neg h36, if_neg h36]
      rcases hr : rArr c with _ | ⟨j, t2, n2⟩
      · rfl
      · obtain ⟨b1, b2, b3, b4, b5, b6⟩ := rArr_ok hr
        have hj : j ≠ k + 1 := fun h9 => e (by rw [← a3, ← b3, h9])
        simp only
        by_cases hjk : j ≤ k
        · rw [if_pos hjk, if_pos (by omega)]
        · rw [if_neg hjk, if_neg (by omega)]
def RiP (k : Nat) (h0 h : mH) : Prop := h.1 = 97 + k ∧ h.2 96 = .inr (.inr (12, rFk k)) ∧ (∀ f j t n, rArr f = some (j, t, n) → j ≤ k → h.2 (96 + j) = .inl (t, n, fun i => nI (rC0 f i))) ∧ ∀ x, x < 96 → h.2 x = h0.2 x
theorem ri_gen {k f t n : Nat} {h0 h h' : mH} (hf : rArr f = some (k + 1, t, n)) (hP : RiP k h0 h) (e1 : h'.1 = 98 + k) (e2 : h'.2 96 = .inr (.inr (12, (rFk k).set f (.ref (97 + k))))) (e3 : h'.2 (97 + k) = .inl (t, n, fun i => nI (rC0 f i))) (e4 : ∀ x, x ≠ 96 → x ≠ 97 + k → h'.2 x = h.2 x) : RiP (k + 1) h0 h' := by
  obtain ⟨p1, p2, p3, p4⟩ := hP
  refine ⟨by omega, by rw [e2, rFk_s hf], fun f2 j t2 n2 hf2 hj => ?_, fun x hx => (e4 x (by omega) (by omega)).trans (p4 x hx)⟩
  obtain ⟨b1, b2, b3, _⟩ := rArr_ok hf2
  obtain ⟨a1, a2, a3, _⟩ := rArr_ok hf
  by_cases h9 : j = k + 1
  · have hff : f2 = f := by rw [← b3, ← a3, h9]
    subst hff
    rw [hf] at hf2
    cases hf2
    rw [show 96 + (k + 1) = 97 + k by omega]; exact e3
  · exact (e4 _ (by omega) (by omega)).trans (p3 f2 j t2 n2 hf2 (by omega))
theorem ri_nm {d : Nat} {t' : mK} {bc bs : Nat} {Q : mP} {pc : Nat} {L : List (Option Value)} {st : List Value} {nc ns k f t n : Nat} {h0 h : mH} (hf : rArr f = some (k + 1, t, n)) (hn : f ≠ 21) (hP : RiP k h0 h) (K : ∀ h', RiP (k + 1) h0 h' → mZ d t' bc bs Q pc L st h' nc ns) : mZ d t' bc bs Q pc L st (mSet (mNw (97 + k) h (.inl (t, n, fun _ => 0))) 96 (.inr (.inr (12, (rFk k).set f (.ref (97 + k)))))) nc ns :=
  K _ (ri_gen hf hP (by show 97 + k + 1 = 98 + k; omega) (mg_eq _ _ _) (mg_ne (by omega) ((mw_eq _ _ _).trans (by rw [show (fun i => nI (rC0 f i)) = (fun _ => (0 : Int32)) from funext (fun i => by rw [rC0, if_neg hn]; rfl)]))) (fun x h1 h2 => mg_ne h1 (mw_ne h2 rfl)))
theorem ri_21 : upd (upd (fun _ => (0 : Int32)) 0 (nI 65533)) 1 (nI 63) = (fun i => nI (rC0 21 i)) := by
  funext i
  unfold upd rC0
  rw [if_pos rfl]
  by_cases h1 : i = 1
  · subst h1; rfl
  · rw [if_neg h1]
    by_cases h0 : i = 0
    · subst h0; rfl
    · rw [if_neg h0, if_neg h0, if_neg h1]; rfl
theorem Rf.new {h0 h : mH} (hP : RiP 46 h0 h) : Rf 96 h s0 h := by
  obtain ⟨p1, p2, p3, p4⟩ := hP
  refine ⟨by rw [p2, rFk_e], fun f k t n hf => p3 f k t n hf (by have := (rArr_ok hf).2.1; omega), rfl, fun _ _ => rfl⟩
theorem RInv.new : RInv s0 A0 := by
  refine ⟨⟨rfl, Nat.zero_le _, fun p hp => absurd hp (Nat.not_lt_zero p)⟩, ⟨rfl, Nat.zero_le _, fun j hj => absurd hj (Nat.not_lt_zero j)⟩, ⟨rfl, Nat.zero_le _, fun j hj => absurd hj (Nat.not_lt_zero j)⟩, ⟨rfl, Nat.zero_le _, rfl, fun j hj => absurd hj (Nat.not_lt_zero j)⟩, ⟨rfl, rfl⟩, ⟨rfl, Nat.zero_le _, fun k hk => absurd hk (Nat.not_lt_zero k)⟩, fun d hd => ⟨fun _ => rfl, fun m hm => by cases hm⟩, rfl, ⟨rfl, rfl, rfl⟩, rfl, rfl⟩
theorem z_gn {d : Nat} {t : mK} {bc bs : Nat} {Q : mP} {pc : Nat} {L : List (Option Value)} {st : List Value} {nc ns : Nat} {h : mH} {P : mH → Prop} (k : ∀ h', P h' → mZ d t bc bs Q pc L st h' nc ns) (hp : P h) : mZ d t bc bs Q pc L st h nc ns := k h hp
set_option maxRecDepth 100000 in
theorem c_Rf_init {d : Nat} {h : mH}  {Q : mP} (h0e : h.2 96 = .inr (.inr (12, mDf 12 69))) (hz : h.1 = 97)  (q : ∀ h', h'.1 = 143 → Rf 96 h' s0 h' → (∀ x, x < 96 → h'.2 x = h.2 x) → Q none h') : mWP (d + 1) 171 [.ref 96] h Q := by
  have hP0 : RiP 0 h h := ⟨hz, by rw [h0e, rFk_0], fun f j t n hf hj => absurd (rArr_ok hf).1 (by omega), fun _ _ => rfl⟩
  refine z_in [some (.ref 96)] (by rfl) rfl rfl rfl ?_
  refine z_aload 1 rfl rfl rfl ?_
  refine z_oi 4 rfl rfl rfl ?_
  refine z_aload 5 rfl rfl rfl ?_
  refine z_push 7 (nI 11) rfl rfl rfl ?_
  refine z_newaA 9 97 hP0.1 rfl rfl rfl (by omega) (by omega) (by omega) ?_
  refine z_put 12 rfl rfl (mw_ne (by decide) hP0.2.1) rfl (mFa rfl) ?_
  refine ri_nm (k := 0) (f := 1) rfl (by decide) hP0 (fun h1 hP1 => ?_)
  refine z_aload 13 rfl rfl rfl ?_
  refine z_push 15 (nI 11) rfl rfl rfl ?_
  refine z_newaA 17 98 hP1.1 rfl rfl rfl (by omega) (by omega) (by omega) ?_
  refine z_put 20 rfl rfl (mw_ne (by decide) hP1.2.1) rfl (mFa rfl) ?_
  refine ri_nm (k := 1) (f := 2) rfl (by decide) hP1 (fun h2 hP2 => ?_)
  refine z_aload 21 rfl rfl rfl ?_
  refine z_push 23 (nI 11) rfl rfl rfl ?_
  refine z_newaA 25 99 hP2.1 rfl rfl rfl (by omega) (by omega) (by omega) ?_
  refine z_put 28 rfl rfl (mw_ne (by decide) hP2.2.1) rfl (mFa rfl) ?_
  refine ri_nm (k := 2) (f := 3) rfl (by decide) hP2 (fun h3 hP3 => ?_)
  refine z_aload 29 rfl rfl rfl ?_
  refine z_push 31 (nI 11) rfl rfl rfl ?_
  refine z_newaA 33 100 hP3.1 rfl rfl rfl (by omega) (by omega) (by omega) ?_
  refine z_put 36 rfl rfl (mw_ne (by decide) hP3.2.1) rfl (mFa rfl) ?_
  refine ri_nm (k := 3) (f := 4) rfl (by decide) hP3 (fun h4 hP4 => ?_)
  refine z_aload 37 rfl rfl rfl ?_
  refine z_push 40 (nI 1100) rfl rfl rfl ?_
  refine z_newaA 42 101 hP4.1 rfl rfl rfl (by omega) (by omega) (by omega) ?_
  refine z_put 45 rfl rfl (mw_ne (by decide) hP4.2.1) rfl (mFa rfl) ?_
  refine ri_nm (k := 4) (f := 5) rfl (by decide) hP4 (fun h5 hP5 => ?_)
  refine z_aload 46 rfl rfl rfl ?_
  refine z_push 49 (nI 1100) rfl rfl rfl ?_
  refine z_newaA 51 102 hP5.1 rfl rfl rfl (by omega) (by omega) (by omega) ?_
  refine z_put 54 rfl rfl (mw_ne (by decide) hP5.2.1) rfl (mFa rfl) ?_
  refine ri_nm (k := 5) (f := 6) rfl (by decide) hP5 (fun h6 hP6 => ?_)
  refine z_aload 55 rfl rfl rfl ?_
  refine z_push 58 (nI 1100) rfl rfl rfl ?_
  refine z_newaA 60 103 hP6.1 rfl rfl rfl (by omega) (by omega) (by omega) ?_
  refine z_put 63 rfl rfl (mw_ne (by decide) hP6.2.1) rfl (mFa rfl) ?_
  refine ri_nm (k := 6) (f := 7) rfl (by decide) hP6 (fun h7 hP7 => ?_)
  refine z_aload 64 rfl rfl rfl ?_
  refine z_push 67 (nI 1100) rfl rfl rfl ?_
  refine z_newaA 69 104 hP7.1 rfl rfl rfl (by omega) (by omega) (by omega) ?_
  refine z_put 72 rfl rfl (mw_ne (by decide) hP7.2.1) rfl (mFa rfl) ?_
  refine ri_nm (k := 7) (f := 8) rfl (by decide) hP7 (fun h8 hP8 => ?_)
  refine z_aload 73 rfl rfl rfl ?_
  refine z_push 76 (nI 1100) rfl rfl rfl ?_
  refine z_newaA 78 105 hP8.1 rfl rfl rfl (by omega) (by omega) (by omega) ?_
  refine z_put 81 rfl rfl (mw_ne (by decide) hP8.2.1) rfl (mFa rfl) ?_
  refine ri_nm (k := 8) (f := 9) rfl (by decide) hP8 (fun h9 hP9 => ?_)
  refine z_aload 82 rfl rfl rfl ?_
  refine z_push 84 (nI 110) rfl rfl rfl ?_
  refine z_newaA 86 106 hP9.1 rfl rfl rfl (by omega) (by omega) (by omega) ?_
  refine z_put 89 rfl rfl (mw_ne (by decide) hP9.2.1) rfl (mFa rfl) ?_
  refine ri_nm (k := 9) (f := 10) rfl (by decide) hP9 (fun h10 hP10 => ?_)
  refine z_aload 90 rfl rfl rfl ?_
  refine z_push 92 (nI 110) rfl rfl rfl ?_
  refine z_newaA 94 107 hP10.1 rfl rfl rfl (by omega) (by omega) (by omega) ?_
  refine z_put 97 rfl rfl (mw_ne (by decide) hP10.2.1) rfl (mFa rfl) ?_
  refine ri_nm (k := 10) (f := 11) rfl (by decide) hP10 (fun h11 hP11 => ?_)
  refine z_aload 98 rfl rfl rfl ?_
  refine z_push 100 (nI 110) rfl rfl rfl ?_
  refine z_newaA 102 108 hP11.1 rfl rfl rfl (by omega) (by omega) (by omega) ?_
  refine z_put 105 rfl rfl (mw_ne (by decide) hP11.2.1) rfl (mFa rfl) ?_
  refine ri_nm (k := 11) (f := 12) rfl (by decide) hP11 (fun h12 hP12 => ?_)
  refine z_aload 106 rfl rfl rfl ?_
  refine z_push 108 (nI 110) rfl rfl rfl ?_
  refine z_newaA 110 109 hP12.1 rfl rfl rfl (by omega) (by omega) (by omega) ?_
  refine z_put 113 rfl rfl (mw_ne (by decide) hP12.2.1) rfl (mFa rfl) ?_
  refine ri_nm (k := 12) (f := 13) rfl (by decide) hP12 (fun h13 hP13 => ?_)
  refine z_aload 114 rfl rfl rfl ?_
  refine z_push 117 (nI 1000) rfl rfl rfl ?_
  refine z_newaA 119 110 hP13.1 rfl rfl rfl (by omega) (by omega) (by omega) ?_
  refine z_put 122 rfl rfl (mw_ne (by decide) hP13.2.1) rfl (mFa rfl) ?_
  refine ri_nm (k := 13) (f := 15) rfl (by decide) hP13 (fun h14 hP14 => ?_)
  refine z_aload 123 rfl rfl rfl ?_
  refine z_push 126 (nI 1000) rfl rfl rfl ?_
  refine z_newaA 128 111 hP14.1 rfl rfl rfl (by omega) (by omega) (by omega) ?_
  refine z_put 131 rfl rfl (mw_ne (by decide) hP14.2.1) rfl (mFa rfl) ?_
  refine ri_nm (k := 14) (f := 17) rfl (by decide) hP14 (fun h15 hP15 => ?_)
  refine z_aload 132 rfl rfl rfl ?_
  refine z_push 135 (nI 6000) rfl rfl rfl ?_
  refine z_newaA 137 112 hP15.1 rfl rfl rfl (by omega) (by omega) (by omega) ?_
  refine z_put 140 rfl rfl (mw_ne (by decide) hP15.2.1) rfl (mFa rfl) ?_
  refine ri_nm (k := 15) (f := 20) rfl (by decide) hP15 (fun h16 hP16 => ?_)
  refine z_aload 141 rfl rfl rfl ?_
  refine z_push 142 (nI 2) rfl rfl rfl ?_
  refine z_newaA 144 113 hP16.1 rfl rfl rfl (by omega) (by omega) (by omega) ?_
  first | refine z_dup 145 rfl rfl ?_ | refine z_dupi 145 rfl rfl ?_
  refine z_push 146 (nI 0) rfl rfl rfl ?_
  refine z_push 148 (nI 65533) rfl rfl rfl ?_
  refine z_ast 149 rfl rfl (mw_eq _ _ _) rfl (by omega) (by omega) ?_
  first | refine z_dup 150 rfl rfl ?_ | refine z_dupi 150 rfl rfl ?_
  refine z_push 151 (nI 1) rfl rfl rfl ?_
  refine z_push 153 (nI 63) rfl rfl rfl ?_
  refine z_ast 154 rfl rfl (mg_eq _ _ _) rfl (by omega) (by omega) ?_
  refine z_put 157 rfl rfl (mg_ne (by decide) (mg_ne (by decide) (mw_ne (by decide) hP16.2.1))) rfl (mFa rfl) ?_
  refine z_gn (fun h17 hP17 => ?_) (ri_gen (k := 16) (f := 21) rfl hP16 rfl (mg_eq _ _ _) (mg_ne (by decide) ((mg_eq _ _ _).trans (by rw [ri_21]))) (fun x h1 h2 => mg_ne h1 (mg_ne h2 (mg_ne h2 (mw_ne h2 rfl)))))
  refine z_aload 158 rfl rfl rfl ?_
  refine z_push 159 (nI 3) rfl rfl rfl ?_
  refine z_newaA 161 114 hP17.1 rfl rfl rfl (by omega) (by omega) (by omega) ?_
  refine z_put 164 rfl rfl (mw_ne (by decide) hP17.2.1) rfl (mFa rfl) ?_
  refine ri_nm (k := 17) (f := 23) rfl (by decide) hP17 (fun h18 hP18 => ?_)
  refine z_aload 165 rfl rfl rfl ?_
  refine z_push 167 (nI 40) rfl rfl rfl ?_
  refine z_newaA 169 115 hP18.1 rfl rfl rfl (by omega) (by omega) (by omega) ?_
  refine z_put 172 rfl rfl (mw_ne (by decide) hP18.2.1) rfl (mFa rfl) ?_
  refine ri_nm (k := 18) (f := 26) rfl (by decide) hP18 (fun h19 hP19 => ?_)
  refine z_aload 173 rfl rfl rfl ?_
  refine z_push 175 (nI 40) rfl rfl rfl ?_
  refine z_newaA 177 116 hP19.1 rfl rfl rfl (by omega) (by omega) (by omega) ?_
  refine z_put 180 rfl rfl (mw_ne (by decide) hP19.2.1) rfl (mFa rfl) ?_
  refine ri_nm (k := 19) (f := 27) rfl (by decide) hP19 (fun h20 hP20 => ?_)
  refine z_aload 181 rfl rfl rfl ?_
  refine z_push 184 (nI 160) rfl rfl rfl ?_
  refine z_newaA 186 117 hP20.1 rfl rfl rfl (by omega) (by omega) (by omega) ?_
  refine z_put 189 rfl rfl (mw_ne (by decide) hP20.2.1) rfl (mFa rfl) ?_
  refine ri_nm (k := 20) (f := 28) rfl (by decide) hP20 (fun h21 hP21 => ?_)
  refine z_aload 190 rfl rfl rfl ?_
  refine z_push 191 (nI 4) rfl rfl rfl ?_
  refine z_newaA 193 118 hP21.1 rfl rfl rfl (by omega) (by omega) (by omega) ?_
  refine z_put 196 rfl rfl (mw_ne (by decide) hP21.2.1) rfl (mFa rfl) ?_
  refine ri_nm (k := 21) (f := 29) rfl (by decide) hP21 (fun h22 hP22 => ?_)
  refine z_aload 197 rfl rfl rfl ?_
  refine z_push 198 (nI 3) rfl rfl rfl ?_
  refine z_newaA 200 119 hP22.1 rfl rfl rfl (by omega) (by omega) (by omega) ?_
  refine z_put 203 rfl rfl (mw_ne (by decide) hP22.2.1) rfl (mFa rfl) ?_
  refine ri_nm (k := 22) (f := 30) rfl (by decide) hP22 (fun h23 hP23 => ?_)
  refine z_aload 204 rfl rfl rfl ?_
  refine z_push 205 (nI 4) rfl rfl rfl ?_
  refine z_newaA 207 120 hP23.1 rfl rfl rfl (by omega) (by omega) (by omega) ?_
  refine z_put 210 rfl rfl (mw_ne (by decide) hP23.2.1) rfl (mFa rfl) ?_
  refine ri_nm (k := 23) (f := 33) rfl (by decide) hP23 (fun h24 hP24 => ?_)
  refine z_aload 211 rfl rfl rfl ?_
  refine z_push 214 (nI 4000) rfl rfl rfl ?_
  refine z_newaA 216 121 hP24.1 rfl rfl rfl (by omega) (by omega) (by omega) ?_
  refine z_put 219 rfl rfl (mw_ne (by decide) hP24.2.1) rfl (mFa rfl) ?_
  refine ri_nm (k := 24) (f := 43) rfl (by decide) hP24 (fun h25 hP25 => ?_)
  refine z_aload 220 rfl rfl rfl ?_
  refine z_push 223 (nI 4000) rfl rfl rfl ?_
  refine z_newaA 225 122 hP25.1 rfl rfl rfl (by omega) (by omega) (by omega) ?_
  refine z_put 228 rfl rfl (mw_ne (by decide) hP25.2.1) rfl (mFa rfl) ?_
  refine ri_nm (k := 25) (f := 44) rfl (by decide) hP25 (fun h26 hP26 => ?_)
  refine z_aload 229 rfl rfl rfl ?_
  refine z_push 232 (nI 6400) rfl rfl rfl ?_
  refine z_newaA 234 123 hP26.1 rfl rfl rfl (by omega) (by omega) (by omega) ?_
  refine z_put 237 rfl rfl (mw_ne (by decide) hP26.2.1) rfl (mFa rfl) ?_
  refine ri_nm (k := 26) (f := 45) rfl (by decide) hP26 (fun h27 hP27 => ?_)
  refine z_aload 238 rfl rfl rfl ?_
  refine z_push 240 (nI 8) rfl rfl rfl ?_
  refine z_newaA 242 124 hP27.1 rfl rfl rfl (by omega) (by omega) (by omega) ?_
  refine z_put 245 rfl rfl (mw_ne (by decide) hP27.2.1) rfl (mFa rfl) ?_
  refine ri_nm (k := 27) (f := 46) rfl (by decide) hP27 (fun h28 hP28 => ?_)
  refine z_aload 246 rfl rfl rfl ?_
  refine z_push 249 (nI 1000) rfl rfl rfl ?_
  refine z_newaA 251 125 hP28.1 rfl rfl rfl (by omega) (by omega) (by omega) ?_
  refine z_put 254 rfl rfl (mw_ne (by decide) hP28.2.1) rfl (mFa rfl) ?_
  refine ri_nm (k := 28) (f := 49) rfl (by decide) hP28 (fun h29 hP29 => ?_)
  refine z_aload 255 rfl rfl rfl ?_
  refine z_push 257 (nI 40) rfl rfl rfl ?_
  refine z_newaA 259 126 hP29.1 rfl rfl rfl (by omega) (by omega) (by omega) ?_
  refine z_put 262 rfl rfl (mw_ne (by decide) hP29.2.1) rfl (mFa rfl) ?_
  refine ri_nm (k := 29) (f := 50) rfl (by decide) hP29 (fun h30 hP30 => ?_)
  refine z_aload 263 rfl rfl rfl ?_
  refine z_push 265 (nI 40) rfl rfl rfl ?_
  refine z_newaA 267 127 hP30.1 rfl rfl rfl (by omega) (by omega) (by omega) ?_
  refine z_put 270 rfl rfl (mw_ne (by decide) hP30.2.1) rfl (mFa rfl) ?_
  refine ri_nm (k := 30) (f := 51) rfl (by decide) hP30 (fun h31 hP31 => ?_)
  refine z_aload 271 rfl rfl rfl ?_
  refine z_push 272 (nI 4) rfl rfl rfl ?_
  refine z_newaA 274 128 hP31.1 rfl rfl rfl (by omega) (by omega) (by omega) ?_
  refine z_put 277 rfl rfl (mw_ne (by decide) hP31.2.1) rfl (mFa rfl) ?_
  refine ri_nm (k := 31) (f := 52) rfl (by decide) hP31 (fun h32 hP32 => ?_)
  refine z_aload 278 rfl rfl rfl ?_
  refine z_push 279 (nI 4) rfl rfl rfl ?_
  refine z_newaA 281 129 hP32.1 rfl rfl rfl (by omega) (by omega) (by omega) ?_
  refine z_put 284 rfl rfl (mw_ne (by decide) hP32.2.1) rfl (mFa rfl) ?_
  refine ri_nm (k := 32) (f := 53) rfl (by decide) hP32 (fun h33 hP33 => ?_)
  refine z_aload 285 rfl rfl rfl ?_
  refine z_push 286 (nI 4) rfl rfl rfl ?_
  refine z_newaA 288 130 hP33.1 rfl rfl rfl (by omega) (by omega) (by omega) ?_
  refine z_put 291 rfl rfl (mw_ne (by decide) hP33.2.1) rfl (mFa rfl) ?_
  refine ri_nm (k := 33) (f := 54) rfl (by decide) hP33 (fun h34 hP34 => ?_)
  refine z_aload 292 rfl rfl rfl ?_
  refine z_push 293 (nI 4) rfl rfl rfl ?_
  refine z_newaA 295 131 hP34.1 rfl rfl rfl (by omega) (by omega) (by omega) ?_
  refine z_put 298 rfl rfl (mw_ne (by decide) hP34.2.1) rfl (mFa rfl) ?_
  refine ri_nm (k := 34) (f := 55) rfl (by decide) hP34 (fun h35 hP35 => ?_)
  refine z_aload 299 rfl rfl rfl ?_
  refine z_push 300 (nI 4) rfl rfl rfl ?_
  refine z_newaA 302 132 hP35.1 rfl rfl rfl (by omega) (by omega) (by omega) ?_
  refine z_put 305 rfl rfl (mw_ne (by decide) hP35.2.1) rfl (mFa rfl) ?_
  refine ri_nm (k := 35) (f := 56) rfl (by decide) hP35 (fun h36 hP36 => ?_)
  refine z_aload 306 rfl rfl rfl ?_
  refine z_push 307 (nI 4) rfl rfl rfl ?_
  refine z_newaA 309 133 hP36.1 rfl rfl rfl (by omega) (by omega) (by omega) ?_
  refine z_put 312 rfl rfl (mw_ne (by decide) hP36.2.1) rfl (mFa rfl) ?_
  refine ri_nm (k := 36) (f := 57) rfl (by decide) hP36 (fun h37 hP37 => ?_)
  refine z_aload 313 rfl rfl rfl ?_
  refine z_push 314 (nI 4) rfl rfl rfl ?_
  refine z_newaA 316 134 hP37.1 rfl rfl rfl (by omega) (by omega) (by omega) ?_
  refine z_put 319 rfl rfl (mw_ne (by decide) hP37.2.1) rfl (mFa rfl) ?_
  refine ri_nm (k := 37) (f := 58) rfl (by decide) hP37 (fun h38 hP38 => ?_)
  refine z_aload 320 rfl rfl rfl ?_
  refine z_push 322 (nI 32) rfl rfl rfl ?_
  refine z_newaA 324 135 hP38.1 rfl rfl rfl (by omega) (by omega) (by omega) ?_
  refine z_put 327 rfl rfl (mw_ne (by decide) hP38.2.1) rfl (mFa rfl) ?_
  refine ri_nm (k := 38) (f := 59) rfl (by decide) hP38 (fun h39 hP39 => ?_)
  refine z_aload 328 rfl rfl rfl ?_
  refine z_push 329 (nI 4) rfl rfl rfl ?_
  refine z_newaA 331 136 hP39.1 rfl rfl rfl (by omega) (by omega) (by omega) ?_
  refine z_put 334 rfl rfl (mw_ne (by decide) hP39.2.1) rfl (mFa rfl) ?_
  refine ri_nm (k := 39) (f := 60) rfl (by decide) hP39 (fun h40 hP40 => ?_)
  refine z_aload 335 rfl rfl rfl ?_
  refine z_push 336 (nI 4) rfl rfl rfl ?_
  refine z_newaA 338 137 hP40.1 rfl rfl rfl (by omega) (by omega) (by omega) ?_
  refine z_put 341 rfl rfl (mw_ne (by decide) hP40.2.1) rfl (mFa rfl) ?_
  refine ri_nm (k := 40) (f := 61) rfl (by decide) hP40 (fun h41 hP41 => ?_)
  refine z_aload 342 rfl rfl rfl ?_
  refine z_push 343 (nI 4) rfl rfl rfl ?_
  refine z_newaA 345 138 hP41.1 rfl rfl rfl (by omega) (by omega) (by omega) ?_
  refine z_put 348 rfl rfl (mw_ne (by decide) hP41.2.1) rfl (mFa rfl) ?_
  refine ri_nm (k := 41) (f := 62) rfl (by decide) hP41 (fun h42 hP42 => ?_)
  refine z_aload 349 rfl rfl rfl ?_
  refine z_push 352 (nI 4800) rfl rfl rfl ?_
  refine z_newaA 354 139 hP42.1 rfl rfl rfl (by omega) (by omega) (by omega) ?_
  refine z_put 357 rfl rfl (mw_ne (by decide) hP42.2.1) rfl (mFa rfl) ?_
  refine ri_nm (k := 42) (f := 63) rfl (by decide) hP42 (fun h43 hP43 => ?_)
  refine z_aload 358 rfl rfl rfl ?_
  refine z_push 360 (nI 8) rfl rfl rfl ?_
  refine z_newaA 362 140 hP43.1 rfl rfl rfl (by omega) (by omega) (by omega) ?_
  refine z_put 365 rfl rfl (mw_ne (by decide) hP43.2.1) rfl (mFa rfl) ?_
  refine ri_nm (k := 43) (f := 64) rfl (by decide) hP43 (fun h44 hP44 => ?_)
  refine z_aload 366 rfl rfl rfl ?_
  refine z_push 369 (nI 1200) rfl rfl rfl ?_
  refine z_newaA 371 141 hP44.1 rfl rfl rfl (by omega) (by omega) (by omega) ?_
  refine z_put 374 rfl rfl (mw_ne (by decide) hP44.2.1) rfl (mFa rfl) ?_
  refine ri_nm (k := 44) (f := 65) rfl (by decide) hP44 (fun h45 hP45 => ?_)
  refine z_aload 375 rfl rfl rfl ?_
  refine z_push 377 (nI 64) rfl rfl rfl ?_
  refine z_newaA 379 142 hP45.1 rfl rfl rfl (by omega) (by omega) (by omega) ?_
  refine z_put 382 rfl rfl (mw_ne (by decide) hP45.2.1) rfl (mFa rfl) ?_
  refine ri_nm (k := 45) (f := 66) rfl (by decide) hP45 (fun h46 hP46 => ?_)
  refine z_vret rfl (by omega) (by omega) ?_
  exact q h46 hP46.1 (Rf.new hP46) hP46.2.2.2
