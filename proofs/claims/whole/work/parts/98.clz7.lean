/-! the law: its cases -/
theorem lg_self (x : Int64) : lg_cmp x x = 0 := by
  unfold lg_cmp
  simp
def LI (Ls : Nat) (xs : Nat → Int32) (h : mH) (A : Ab) : Prop := CInv h A ∧ (∃ s, Rf 96 h s h ∧ RInv s A) ∧ AbI A ∧ 143 ≤ h.1 ∧ h.2 0 = .inl (9, Ls, xs)
theorem AbI.kb {A : Ab} (h : AbI A) : ∀ P, pgK A.pgs P < 2 ^ 31 := fun P => by
  by_cases hP : P < A.pgs.length
  · have := h.1.2.1 P hP; omega
  · unfold pgK
    rw [List.getD_eq_getElem?_getD, List.getElem?_eq_none (by omega)]
    decide
theorem Rf.kx {h h1 : mH} {s : rS} (hR : Rf 96 h s h) (hK : KpX h h1) : Rf 96 h1 s h1 := by
  obtain ⟨a1, a2, a3⟩ := hR
  exact ⟨(hK.1 96 (Or.inr ⟨by decide, by decide⟩)).trans a1, fun f k t n hf => (hK.1 (96 + k) (Or.inr (by have := rArr_ok hf; omega))).trans (a2 f k t n hf), rfl, fun _ _ => rfl⟩
theorem CInv.fr {h h' : mH} {A : Ab} (a : CInv h A) (f : Fr 96 143 h h') : CInv h' A := by
  obtain ⟨pad, sp, res, wrk, c1, cr, cp, cb, cu, cq, cs, ck, cru, cm⟩ := a
  exact ⟨pad, sp, res, wrk, (f.2 1 (by omega)).trans c1, cr, cp.e (f.2 2 (by omega)) (fun x x1 x2 => f.2 x (by omega)) (by rw [f.1]; exact Nat.le_refl _), cb.e (fun x x1 x2 => f.2 x (by omega)), cu.e (fun x x1 x2 => f.2 x (by omega)), cq.e (fun x x1 x2 => f.2 x (by omega)), cs.e (fun x x1 x2 => f.2 x (by omega)) (fun x x1 x2 => f.2 x (by omega)) (fun x x1 x2 => f.2 x (by omega)) (f.2 _ (by omega)), ck.e (f.2 _ (by omega)), cru.e (fun x x1 x2 => f.2 x (by omega)), cm.e (f.2 _ (by omega)) (fun x x1 x2 => f.2 x (by omega))⟩
theorem LI.step {Ls : Nat} {xs : Nat → Int32} {h h1 h2 : mH} {A A' : Ab} {s2 : rS} (hI : LI Ls xs h A) (hC1 : CInv h1 A') (hK1 : KpX h h1) (hR2 : Rf 96 h1 s2 h2) (hI2 : RInv s2 A') (hA : AbI A') : LI Ls xs h2 A' := by
  obtain ⟨_, _, _, h143, h0⟩ := hI
  obtain ⟨r1, r2, r3⟩ := hR2
  have e1 := hK1.2
  have e2 := r3.1
  exact ⟨hC1.fr r3, ⟨s2, ⟨r1, r2, rfl, fun _ _ => rfl⟩, hI2⟩, hA, by omega, (r3.2 0 (by omega)).trans ((hK1.1 0 (Or.inl rfl)).trans h0)⟩
set_option maxRecDepth 100000 in
theorem lw_page {Ls i nc ns : Nat} {xs : Nat → Int32} {h : mH} {A : Ab} {Q : mP} (hI : LI Ls xs h A) (hi : i + 6 ≤ Ls) (hLs : Ls ≤ 3072) (hnc : nc + 20 ≤ 600000) (hns : ns + 1863 ≤ 7302250) (ih : ∀ h' A' nc' ns', LI Ls xs h' A' → nc' ≤ nc + 20 → ns' ≤ ns + 1863 → mZ 80 tk_262 600000 7302250 Q 1278 [some (.ref 0), some (.ref 1), some (.ref 96), some (.int (nI i))] [] h' nc' ns') : mZ 80 tk_262 600000 7302250 Q 172 [some (.ref 0), some (.ref 1), some (.ref 96), some (.int (nI i))] [] h nc ns := by
  obtain ⟨⟨pad, sp, res, wrk, hC⟩, ⟨s, hR, hRI⟩, hAI, h143, hs0⟩ := id hI
  have hA := hAI.1
  have hFN := hAI.2.1
  have hMM := hAI.2.2.1
  have hU := hAI.2.2.2.1
  have hZ2 := hAI.2.2.2.2.2.1
  have hZ := hAI.2.2.2.2.2.2.1
  have hB := hA.1
  have hKb := hA.2.1
  have hbb := hA.2.2.2.1
  have hsg := nPt_lt hA.2.2.2.2.2.1
  have hK31 := hAI.kb
  have hM1 : ∀ D m, A.mcs D = some m → m.1 < A.pgs.length := fun D m hm => (hMM D m hm).1
  have hmd : ∀ D m, A.mcs D = some m → m.2.2.2.2.2.2.2.1 ≤ 2 := fun D m hm => (hMM D m hm).2.2.2.2.2.1.2
  refine z_aload 173 rfl rfl rfl ?_
  refine z_aload 174 rfl rfl rfl ?_
  refine z_iload 175 rfl rfl rfl ?_
  refine z_push 176 (nI 1) rfl rfl rfl ?_
  refine z_bop 177 _ rfl rfl (by first | with_reducible exact zb_0 _ _ | exact zd_0 _ _) ?_
  refine z_sld 178 rfl rfl (by first | exact hs0 | exact hC.1 | exact hs1 | exact hR1.1 | fail "lk") rfl (by omega) (by omega) ?_
  refine z_cvb1 181 rfl rfl (by first | exact hs0 | exact hC.1 | exact hs1 | exact hR1.1 | fail "lk") rfl (by omega) (by omega) ?_
  refine c_page hC h143 hM1 (fun h1 hC1 hK1 => ?_)
  have hR1 := hR.kx hK1
  have hs1 := (hK1.1 0 (Or.inl rfl)).trans hs0
  refine z_aload 182 rfl rfl rfl ?_
  refine z_aload 183 rfl rfl rfl ?_
  refine z_iload 184 rfl rfl rfl ?_
  refine z_push 185 (nI 1) rfl rfl rfl ?_
  refine z_bop 186 _ rfl rfl (by first | with_reducible exact zb_0 _ _ | exact zd_0 _ _) ?_
  refine z_sld 187 rfl rfl (by first | exact hs0 | exact hC.1 | exact hs1 | exact hR1.1 | fail "lk") rfl (by omega) (by omega) ?_
  refine z_cv1 190 rfl rfl (by first | exact hs0 | exact hC.1 | exact hs1 | exact hR1.1 | fail "lk") rfl (by omega) (by omega) ?_
  refine r_page hR1 hRI hB (fun h2 s2 hR2 hI2 => ?_)
  refine z_ceq 193 rfl rfl (fun _ => ?_) (fun h9 => absurd rfl h9)
  exact ih h2 _ _ _ (hI.step hC1 hK1 hR2 hI2 (I_page hAI)) (by omega) (by omega)
set_option maxRecDepth 100000 in
theorem lw_derive {Ls i nc ns : Nat} {xs : Nat → Int32} {h : mH} {A : Ab} {Q : mP} (hI : LI Ls xs h A) (hi : i + 6 ≤ Ls) (hLs : Ls ≤ 3072) (hnc : nc + 20 ≤ 600000) (hns : ns + 1863 ≤ 7302250) (ih : ∀ h' A' nc' ns', LI Ls xs h' A' → nc' ≤ nc + 20 → ns' ≤ ns + 1863 → mZ 80 tk_262 600000 7302250 Q 1278 [some (.ref 0), some (.ref 1), some (.ref 96), some (.int (nI i))] [] h' nc' ns') : mZ 80 tk_262 600000 7302250 Q 195 [some (.ref 0), some (.ref 1), some (.ref 96), some (.int (nI i))] [] h nc ns := by
  obtain ⟨⟨pad, sp, res, wrk, hC⟩, ⟨s, hR, hRI⟩, hAI, h143, hs0⟩ := id hI
  have hA := hAI.1
  have hFN := hAI.2.1
  have hMM := hAI.2.2.1
  have hU := hAI.2.2.2.1
  have hZ2 := hAI.2.2.2.2.2.1
  have hZ := hAI.2.2.2.2.2.2.1
  have hB := hA.1
  have hKb := hA.2.1
  have hbb := hA.2.2.2.1
  have hsg := nPt_lt hA.2.2.2.2.2.1
  have hK31 := hAI.kb
  have hM1 : ∀ D m, A.mcs D = some m → m.1 < A.pgs.length := fun D m hm => (hMM D m hm).1
  have hmd : ∀ D m, A.mcs D = some m → m.2.2.2.2.2.2.2.1 ≤ 2 := fun D m hm => (hMM D m hm).2.2.2.2.2.1.2
  refine z_aload 196 rfl rfl rfl ?_
  refine z_aload 197 rfl rfl rfl ?_
  refine z_iload 198 rfl rfl rfl ?_
  refine z_push 199 (nI 1) rfl rfl rfl ?_
  refine z_bop 200 _ rfl rfl (by first | with_reducible exact zb_0 _ _ | exact zd_0 _ _) ?_
  refine z_sld 201 rfl rfl (by first | exact hs0 | exact hC.1 | exact hs1 | exact hR1.1 | fail "lk") rfl (by omega) (by omega) ?_
  refine z_cvb1 204 rfl rfl (by first | exact hs0 | exact hC.1 | exact hs1 | exact hR1.1 | fail "lk") rfl (by omega) (by omega) ?_
  refine c_derive hC hA h143 hM1 (fun h1 hC1 hK1 => ?_)
  have hR1 := hR.kx hK1
  have hs1 := (hK1.1 0 (Or.inl rfl)).trans hs0
  refine z_aload 205 rfl rfl rfl ?_
  refine z_aload 206 rfl rfl rfl ?_
  refine z_iload 207 rfl rfl rfl ?_
  refine z_push 208 (nI 1) rfl rfl rfl ?_
  refine z_bop 209 _ rfl rfl (by first | with_reducible exact zb_0 _ _ | exact zd_0 _ _) ?_
  refine z_sld 210 rfl rfl (by first | exact hs0 | exact hC.1 | exact hs1 | exact hR1.1 | fail "lk") rfl (by omega) (by omega) ?_
  refine z_cv1 213 rfl rfl (by first | exact hs0 | exact hC.1 | exact hs1 | exact hR1.1 | fail "lk") rfl (by omega) (by omega) ?_
  refine r_derive hR1 hRI hB hK31 (fun h2 s2 hR2 hI2 => ?_)
  refine z_ceq 216 rfl rfl (fun _ => ?_) (fun h9 => absurd rfl h9)
  exact ih h2 _ _ _ (hI.step hC1 hK1 hR2 hI2 (I_derive hAI)) (by omega) (by omega)
set_option maxRecDepth 100000 in
theorem lw_entry {Ls i nc ns : Nat} {xs : Nat → Int32} {h : mH} {A : Ab} {Q : mP} (hI : LI Ls xs h A) (hi : i + 6 ≤ Ls) (hLs : Ls ≤ 3072) (hnc : nc + 20 ≤ 600000) (hns : ns + 1863 ≤ 7302250) (ih : ∀ h' A' nc' ns', LI Ls xs h' A' → nc' ≤ nc + 20 → ns' ≤ ns + 1863 → mZ 80 tk_262 600000 7302250 Q 1278 [some (.ref 0), some (.ref 1), some (.ref 96), some (.int (nI i))] [] h' nc' ns') : mZ 80 tk_262 600000 7302250 Q 218 [some (.ref 0), some (.ref 1), some (.ref 96), some (.int (nI i))] [] h nc ns := by
  obtain ⟨⟨pad, sp, res, wrk, hC⟩, ⟨s, hR, hRI⟩, hAI, h143, hs0⟩ := id hI
  have hA := hAI.1
  have hFN := hAI.2.1
  have hMM := hAI.2.2.1
  have hU := hAI.2.2.2.1
  have hZ2 := hAI.2.2.2.2.2.1
  have hZ := hAI.2.2.2.2.2.2.1
  have hB := hA.1
  have hKb := hA.2.1
  have hbb := hA.2.2.2.1
  have hsg := nPt_lt hA.2.2.2.2.2.1
  have hK31 := hAI.kb
  have hM1 : ∀ D m, A.mcs D = some m → m.1 < A.pgs.length := fun D m hm => (hMM D m hm).1
  have hmd : ∀ D m, A.mcs D = some m → m.2.2.2.2.2.2.2.1 ≤ 2 := fun D m hm => (hMM D m hm).2.2.2.2.2.1.2
  refine z_aload 219 rfl rfl rfl ?_
  refine z_aload 220 rfl rfl rfl ?_
  refine z_iload 221 rfl rfl rfl ?_
  refine z_push 222 (nI 1) rfl rfl rfl ?_
  refine z_bop 223 _ rfl rfl (by first | with_reducible exact zb_0 _ _ | exact zd_0 _ _) ?_
  refine z_sld 224 rfl rfl (by first | exact hs0 | exact hC.1 | exact hs1 | exact hR1.1 | fail "lk") rfl (by omega) (by omega) ?_
  refine z_aload 225 rfl rfl rfl ?_
  refine z_iload 226 rfl rfl rfl ?_
  refine z_push 227 (nI 2) rfl rfl rfl ?_
  refine z_bop 228 _ rfl rfl (by first | with_reducible exact zb_0 _ _ | exact zd_0 _ _) ?_
  refine z_sld 229 rfl rfl (by first | exact hs0 | exact hC.1 | exact hs1 | exact hR1.1 | fail "lk") rfl (by omega) (by omega) ?_
  refine z_aload 230 rfl rfl rfl ?_
  refine z_iload 231 rfl rfl rfl ?_
  refine z_push 232 (nI 3) rfl rfl rfl ?_
  refine z_bop 233 _ rfl rfl (by first | with_reducible exact zb_0 _ _ | exact zd_0 _ _) ?_
  refine z_sld 234 rfl rfl (by first | exact hs0 | exact hC.1 | exact hs1 | exact hR1.1 | fail "lk") rfl (by omega) (by omega) ?_
  refine z_aload 235 rfl rfl rfl ?_
  refine z_iload 236 rfl rfl rfl ?_
  refine z_push 237 (nI 4) rfl rfl rfl ?_
  refine z_bop 238 _ rfl rfl (by first | with_reducible exact zb_0 _ _ | exact zd_0 _ _) ?_
  refine z_sld 239 rfl rfl (by first | exact hs0 | exact hC.1 | exact hs1 | exact hR1.1 | fail "lk") rfl (by omega) (by omega) ?_
  refine z_aload 240 rfl rfl rfl ?_
  refine z_iload 241 rfl rfl rfl ?_
  refine z_push 242 (nI 5) rfl rfl rfl ?_
  refine z_bop 243 _ rfl rfl (by first | with_reducible exact zb_0 _ _ | exact zd_0 _ _) ?_
  refine z_sld 244 rfl rfl (by first | exact hs0 | exact hC.1 | exact hs1 | exact hR1.1 | fail "lk") rfl (by omega) (by omega) ?_
  refine z_cv5 247 rfl rfl (by first | exact hs0 | exact hC.1 | exact hs1 | exact hR1.1 | fail "lk") rfl (by omega) (by omega) ?_
  refine c_entry hC hKb hB (fun h1 hC1 hK1 => ?_)
  have hR1 := hR.kx hK1
  have hs1 := (hK1.1 0 (Or.inl rfl)).trans hs0
  refine z_aload 248 rfl rfl rfl ?_
  refine z_aload 249 rfl rfl rfl ?_
  refine z_iload 250 rfl rfl rfl ?_
  refine z_push 251 (nI 1) rfl rfl rfl ?_
  refine z_bop 252 _ rfl rfl (by first | with_reducible exact zb_0 _ _ | exact zd_0 _ _) ?_
  refine z_sld 253 rfl rfl (by first | exact hs0 | exact hC.1 | exact hs1 | exact hR1.1 | fail "lk") rfl (by omega) (by omega) ?_
  refine z_aload 254 rfl rfl rfl ?_
  refine z_iload 255 rfl rfl rfl ?_
  refine z_push 256 (nI 2) rfl rfl rfl ?_
  refine z_bop 257 _ rfl rfl (by first | with_reducible exact zb_0 _ _ | exact zd_0 _ _) ?_
  refine z_sld 258 rfl rfl (by first | exact hs0 | exact hC.1 | exact hs1 | exact hR1.1 | fail "lk") rfl (by omega) (by omega) ?_
  refine z_aload 259 rfl rfl rfl ?_
  refine z_iload 260 rfl rfl rfl ?_
  refine z_push 261 (nI 3) rfl rfl rfl ?_
  refine z_bop 262 _ rfl rfl (by first | with_reducible exact zb_0 _ _ | exact zd_0 _ _) ?_
  refine z_sld 263 rfl rfl (by first | exact hs0 | exact hC.1 | exact hs1 | exact hR1.1 | fail "lk") rfl (by omega) (by omega) ?_
  refine z_aload 264 rfl rfl rfl ?_
  refine z_iload 265 rfl rfl rfl ?_
  refine z_push 266 (nI 4) rfl rfl rfl ?_
  refine z_bop 267 _ rfl rfl (by first | with_reducible exact zb_0 _ _ | exact zd_0 _ _) ?_
  refine z_sld 268 rfl rfl (by first | exact hs0 | exact hC.1 | exact hs1 | exact hR1.1 | fail "lk") rfl (by omega) (by omega) ?_
  refine z_aload 269 rfl rfl rfl ?_
  refine z_iload 270 rfl rfl rfl ?_
  refine z_push 271 (nI 5) rfl rfl rfl ?_
  refine z_bop 272 _ rfl rfl (by first | with_reducible exact zb_0 _ _ | exact zd_0 _ _) ?_
  refine z_sld 273 rfl rfl (by first | exact hs0 | exact hC.1 | exact hs1 | exact hR1.1 | fail "lk") rfl (by omega) (by omega) ?_
  refine z_cv5 276 rfl rfl (by first | exact hs0 | exact hC.1 | exact hs1 | exact hR1.1 | fail "lk") rfl (by omega) (by omega) ?_
  refine r_entry hR1 hRI hB hK31 (fun h2 s2 hR2 hI2 => ?_)
  refine z_ceq 279 rfl rfl (fun _ => ?_) (fun h9 => absurd rfl h9)
  exact ih h2 _ _ _ (hI.step hC1 hK1 hR2 hI2 (I_entry hAI (fun P hP => (hB P hP).1))) (by omega) (by omega)
set_option maxRecDepth 100000 in
theorem lw_shift {Ls i nc ns : Nat} {xs : Nat → Int32} {h : mH} {A : Ab} {Q : mP} (hI : LI Ls xs h A) (hi : i + 6 ≤ Ls) (hLs : Ls ≤ 3072) (hnc : nc + 20 ≤ 600000) (hns : ns + 1863 ≤ 7302250) (ih : ∀ h' A' nc' ns', LI Ls xs h' A' → nc' ≤ nc + 20 → ns' ≤ ns + 1863 → mZ 80 tk_262 600000 7302250 Q 1278 [some (.ref 0), some (.ref 1), some (.ref 96), some (.int (nI i))] [] h' nc' ns') : mZ 80 tk_262 600000 7302250 Q 281 [some (.ref 0), some (.ref 1), some (.ref 96), some (.int (nI i))] [] h nc ns := by
  obtain ⟨⟨pad, sp, res, wrk, hC⟩, ⟨s, hR, hRI⟩, hAI, h143, hs0⟩ := id hI
  have hA := hAI.1
  have hFN := hAI.2.1
  have hMM := hAI.2.2.1
  have hU := hAI.2.2.2.1
  have hZ2 := hAI.2.2.2.2.2.1
  have hZ := hAI.2.2.2.2.2.2.1
  have hB := hA.1
  have hKb := hA.2.1
  have hbb := hA.2.2.2.1
  have hsg := nPt_lt hA.2.2.2.2.2.1
  have hK31 := hAI.kb
  have hM1 : ∀ D m, A.mcs D = some m → m.1 < A.pgs.length := fun D m hm => (hMM D m hm).1
  have hmd : ∀ D m, A.mcs D = some m → m.2.2.2.2.2.2.2.1 ≤ 2 := fun D m hm => (hMM D m hm).2.2.2.2.2.1.2
  refine z_aload 282 rfl rfl rfl ?_
  refine z_aload 283 rfl rfl rfl ?_
  refine z_iload 284 rfl rfl rfl ?_
  refine z_push 285 (nI 1) rfl rfl rfl ?_
  refine z_bop 286 _ rfl rfl (by first | with_reducible exact zb_0 _ _ | exact zd_0 _ _) ?_
  refine z_sld 287 rfl rfl (by first | exact hs0 | exact hC.1 | exact hs1 | exact hR1.1 | fail "lk") rfl (by omega) (by omega) ?_
  refine z_aload 288 rfl rfl rfl ?_
  refine z_iload 289 rfl rfl rfl ?_
  refine z_push 290 (nI 2) rfl rfl rfl ?_
  refine z_bop 291 _ rfl rfl (by first | with_reducible exact zb_0 _ _ | exact zd_0 _ _) ?_
  refine z_sld 292 rfl rfl (by first | exact hs0 | exact hC.1 | exact hs1 | exact hR1.1 | fail "lk") rfl (by omega) (by omega) ?_
  refine z_aload 293 rfl rfl rfl ?_
  refine z_iload 294 rfl rfl rfl ?_
  refine z_push 295 (nI 3) rfl rfl rfl ?_
  refine z_bop 296 _ rfl rfl (by first | with_reducible exact zb_0 _ _ | exact zd_0 _ _) ?_
  refine z_sld 297 rfl rfl (by first | exact hs0 | exact hC.1 | exact hs1 | exact hR1.1 | fail "lk") rfl (by omega) (by omega) ?_
  refine z_aload 298 rfl rfl rfl ?_
  refine z_iload 299 rfl rfl rfl ?_
  refine z_push 300 (nI 4) rfl rfl rfl ?_
  refine z_bop 301 _ rfl rfl (by first | with_reducible exact zb_0 _ _ | exact zd_0 _ _) ?_
  refine z_sld 302 rfl rfl (by first | exact hs0 | exact hC.1 | exact hs1 | exact hR1.1 | fail "lk") rfl (by omega) (by omega) ?_
  refine z_aload 303 rfl rfl rfl ?_
  refine z_iload 304 rfl rfl rfl ?_
  refine z_push 305 (nI 5) rfl rfl rfl ?_
  refine z_bop 306 _ rfl rfl (by first | with_reducible exact zb_0 _ _ | exact zd_0 _ _) ?_
  refine z_sld 307 rfl rfl (by first | exact hs0 | exact hC.1 | exact hs1 | exact hR1.1 | fail "lk") rfl (by omega) (by omega) ?_
  first | refine z_ieq 310 rfl rfl (fun hc307 => ?_) (fun hc307 => ?_)
  · refine z_push 315 (nI 0) rfl rfl rfl ?_
    refine z_cv5 318 rfl rfl (by first | exact hs0 | exact hC.1 | exact hs1 | exact hR1.1 | fail "lk") rfl (by omega) (by omega) ?_
    refine c_shift (k := false) hC hKb hB (fun h1 hC1 hK1 => ?_)
    have hR1 := hR.kx hK1
    have hs1 := (hK1.1 0 (Or.inl rfl)).trans hs0
    refine z_aload 319 rfl rfl rfl ?_
    refine z_aload 320 rfl rfl rfl ?_
    refine z_iload 321 rfl rfl rfl ?_
    refine z_push 322 (nI 1) rfl rfl rfl ?_
    refine z_bop 323 _ rfl rfl (by first | with_reducible exact zb_0 _ _ | exact zd_0 _ _) ?_
    refine z_sld 324 rfl rfl (by first | exact hs0 | exact hC.1 | exact hs1 | exact hR1.1 | fail "lk") rfl (by omega) (by omega) ?_
    refine z_aload 325 rfl rfl rfl ?_
    refine z_iload 326 rfl rfl rfl ?_
    refine z_push 327 (nI 2) rfl rfl rfl ?_
    refine z_bop 328 _ rfl rfl (by first | with_reducible exact zb_0 _ _ | exact zd_0 _ _) ?_
    refine z_sld 329 rfl rfl (by first | exact hs0 | exact hC.1 | exact hs1 | exact hR1.1 | fail "lk") rfl (by omega) (by omega) ?_
    refine z_aload 330 rfl rfl rfl ?_
    refine z_iload 331 rfl rfl rfl ?_
    refine z_push 332 (nI 3) rfl rfl rfl ?_
    refine z_bop 333 _ rfl rfl (by first | with_reducible exact zb_0 _ _ | exact zd_0 _ _) ?_
    refine z_sld 334 rfl rfl (by first | exact hs0 | exact hC.1 | exact hs1 | exact hR1.1 | fail "lk") rfl (by omega) (by omega) ?_
    refine z_aload 335 rfl rfl rfl ?_
    refine z_iload 336 rfl rfl rfl ?_
    refine z_push 337 (nI 4) rfl rfl rfl ?_
    refine z_bop 338 _ rfl rfl (by first | with_reducible exact zb_0 _ _ | exact zd_0 _ _) ?_
    refine z_sld 339 rfl rfl (by first | exact hs0 | exact hC.1 | exact hs1 | exact hR1.1 | fail "lk") rfl (by omega) (by omega) ?_
    refine z_aload 340 rfl rfl rfl ?_
    refine z_iload 341 rfl rfl rfl ?_
    refine z_push 342 (nI 5) rfl rfl rfl ?_
    refine z_bop 343 _ rfl rfl (by first | with_reducible exact zb_0 _ _ | exact zd_0 _ _) ?_
    refine z_sld 344 rfl rfl (by first | exact hs0 | exact hC.1 | exact hs1 | exact hR1.1 | fail "lk") rfl (by omega) (by omega) ?_
    refine z_ieq 347 rfl rfl (fun _ => ?_) (fun h9 => absurd hc307 h9)
    refine z_push 352 (nI 0) rfl rfl rfl ?_
    refine z_cv5 355 rfl rfl (by first | exact hs0 | exact hC.1 | exact hs1 | exact hR1.1 | fail "lk") rfl (by omega) (by omega) ?_
    refine r_shift (k := false) hR1 hRI hB hK31 (fun h2 s2 hR2 hI2 => ?_)
    refine z_ceq 358 rfl rfl (fun _ => ?_) (fun h9 => absurd rfl h9)
    exact ih h2 _ _ _ (hI.step hC1 hK1 hR2 hI2 (I_shift hAI)) (by omega) (by omega)
  · refine z_push 311 (nI 1) rfl rfl rfl ?_
    refine z_goto rfl ?_
    refine z_cv5 318 rfl rfl (by first | exact hs0 | exact hC.1 | exact hs1 | exact hR1.1 | fail "lk") rfl (by omega) (by omega) ?_
    refine c_shift (k := true) hC hKb hB (fun h1 hC1 hK1 => ?_)
    have hR1 := hR.kx hK1
    have hs1 := (hK1.1 0 (Or.inl rfl)).trans hs0
    refine z_aload 319 rfl rfl rfl ?_
    refine z_aload 320 rfl rfl rfl ?_
    refine z_iload 321 rfl rfl rfl ?_
    refine z_push 322 (nI 1) rfl rfl rfl ?_
    refine z_bop 323 _ rfl rfl (by first | with_reducible exact zb_0 _ _ | exact zd_0 _ _) ?_
    refine z_sld 324 rfl rfl (by first | exact hs0 | exact hC.1 | exact hs1 | exact hR1.1 | fail "lk") rfl (by omega) (by omega) ?_
    refine z_aload 325 rfl rfl rfl ?_
    refine z_iload 326 rfl rfl rfl ?_
    refine z_push 327 (nI 2) rfl rfl rfl ?_
    refine z_bop 328 _ rfl rfl (by first | with_reducible exact zb_0 _ _ | exact zd_0 _ _) ?_
    refine z_sld 329 rfl rfl (by first | exact hs0 | exact hC.1 | exact hs1 | exact hR1.1 | fail "lk") rfl (by omega) (by omega) ?_
    refine z_aload 330 rfl rfl rfl ?_
    refine z_iload 331 rfl rfl rfl ?_
    refine z_push 332 (nI 3) rfl rfl rfl ?_
    refine z_bop 333 _ rfl rfl (by first | with_reducible exact zb_0 _ _ | exact zd_0 _ _) ?_
    refine z_sld 334 rfl rfl (by first | exact hs0 | exact hC.1 | exact hs1 | exact hR1.1 | fail "lk") rfl (by omega) (by omega) ?_
    refine z_aload 335 rfl rfl rfl ?_
    refine z_iload 336 rfl rfl rfl ?_
    refine z_push 337 (nI 4) rfl rfl rfl ?_
    refine z_bop 338 _ rfl rfl (by first | with_reducible exact zb_0 _ _ | exact zd_0 _ _) ?_
    refine z_sld 339 rfl rfl (by first | exact hs0 | exact hC.1 | exact hs1 | exact hR1.1 | fail "lk") rfl (by omega) (by omega) ?_
    refine z_aload 340 rfl rfl rfl ?_
    refine z_iload 341 rfl rfl rfl ?_
    refine z_push 342 (nI 5) rfl rfl rfl ?_
    refine z_bop 343 _ rfl rfl (by first | with_reducible exact zb_0 _ _ | exact zd_0 _ _) ?_
    refine z_sld 344 rfl rfl (by first | exact hs0 | exact hC.1 | exact hs1 | exact hR1.1 | fail "lk") rfl (by omega) (by omega) ?_
    refine z_ieq 347 rfl rfl (fun h9 => absurd h9 hc307) (fun _ => ?_)
    refine z_push 348 (nI 1) rfl rfl rfl ?_
    refine z_goto rfl ?_
    refine z_cv5 355 rfl rfl (by first | exact hs0 | exact hC.1 | exact hs1 | exact hR1.1 | fail "lk") rfl (by omega) (by omega) ?_
    refine r_shift (k := true) hR1 hRI hB hK31 (fun h2 s2 hR2 hI2 => ?_)
    refine z_ceq 358 rfl rfl (fun _ => ?_) (fun h9 => absurd rfl h9)
    exact ih h2 _ _ _ (hI.step hC1 hK1 hR2 hI2 (I_shift hAI)) (by omega) (by omega)
set_option maxRecDepth 100000 in
theorem lw_drop {Ls i nc ns : Nat} {xs : Nat → Int32} {h : mH} {A : Ab} {Q : mP} (hI : LI Ls xs h A) (hi : i + 6 ≤ Ls) (hLs : Ls ≤ 3072) (hnc : nc + 20 ≤ 600000) (hns : ns + 1863 ≤ 7302250) (ih : ∀ h' A' nc' ns', LI Ls xs h' A' → nc' ≤ nc + 20 → ns' ≤ ns + 1863 → mZ 80 tk_262 600000 7302250 Q 1278 [some (.ref 0), some (.ref 1), some (.ref 96), some (.int (nI i))] [] h' nc' ns') : mZ 80 tk_262 600000 7302250 Q 360 [some (.ref 0), some (.ref 1), some (.ref 96), some (.int (nI i))] [] h nc ns := by
  obtain ⟨⟨pad, sp, res, wrk, hC⟩, ⟨s, hR, hRI⟩, hAI, h143, hs0⟩ := id hI
  have hA := hAI.1
  have hFN := hAI.2.1
  have hMM := hAI.2.2.1
  have hU := hAI.2.2.2.1
  have hZ2 := hAI.2.2.2.2.2.1
  have hZ := hAI.2.2.2.2.2.2.1
  have hB := hA.1
  have hKb := hA.2.1
  have hbb := hA.2.2.2.1
  have hsg := nPt_lt hA.2.2.2.2.2.1
  have hK31 := hAI.kb
  have hM1 : ∀ D m, A.mcs D = some m → m.1 < A.pgs.length := fun D m hm => (hMM D m hm).1
  have hmd : ∀ D m, A.mcs D = some m → m.2.2.2.2.2.2.2.1 ≤ 2 := fun D m hm => (hMM D m hm).2.2.2.2.2.1.2
  refine z_aload 361 rfl rfl rfl ?_
  refine z_aload 362 rfl rfl rfl ?_
  refine z_iload 363 rfl rfl rfl ?_
  refine z_push 364 (nI 1) rfl rfl rfl ?_
  refine z_bop 365 _ rfl rfl (by first | with_reducible exact zb_0 _ _ | exact zd_0 _ _) ?_
  refine z_sld 366 rfl rfl (by first | exact hs0 | exact hC.1 | exact hs1 | exact hR1.1 | fail "lk") rfl (by omega) (by omega) ?_
  refine z_aload 367 rfl rfl rfl ?_
  refine z_iload 368 rfl rfl rfl ?_
  refine z_push 369 (nI 2) rfl rfl rfl ?_
  refine z_bop 370 _ rfl rfl (by first | with_reducible exact zb_0 _ _ | exact zd_0 _ _) ?_
  refine z_sld 371 rfl rfl (by first | exact hs0 | exact hC.1 | exact hs1 | exact hR1.1 | fail "lk") rfl (by omega) (by omega) ?_
  refine z_aload 372 rfl rfl rfl ?_
  refine z_iload 373 rfl rfl rfl ?_
  refine z_push 374 (nI 3) rfl rfl rfl ?_
  refine z_bop 375 _ rfl rfl (by first | with_reducible exact zb_0 _ _ | exact zd_0 _ _) ?_
  refine z_sld 376 rfl rfl (by first | exact hs0 | exact hC.1 | exact hs1 | exact hR1.1 | fail "lk") rfl (by omega) (by omega) ?_
  refine z_aload 377 rfl rfl rfl ?_
  refine z_iload 378 rfl rfl rfl ?_
  refine z_push 379 (nI 4) rfl rfl rfl ?_
  refine z_bop 380 _ rfl rfl (by first | with_reducible exact zb_0 _ _ | exact zd_0 _ _) ?_
  refine z_sld 381 rfl rfl (by first | exact hs0 | exact hC.1 | exact hs1 | exact hR1.1 | fail "lk") rfl (by omega) (by omega) ?_
  refine z_cv4 384 rfl rfl (by first | exact hs0 | exact hC.1 | exact hs1 | exact hR1.1 | fail "lk") rfl (by omega) (by omega) ?_
  refine c_drop hC hKb hB (fun h1 hC1 hK1 => ?_)
  have hR1 := hR.kx hK1
  have hs1 := (hK1.1 0 (Or.inl rfl)).trans hs0
  refine z_aload 385 rfl rfl rfl ?_
  refine z_aload 386 rfl rfl rfl ?_
  refine z_iload 387 rfl rfl rfl ?_
  refine z_push 388 (nI 1) rfl rfl rfl ?_
  refine z_bop 389 _ rfl rfl (by first | with_reducible exact zb_0 _ _ | exact zd_0 _ _) ?_
  refine z_sld 390 rfl rfl (by first | exact hs0 | exact hC.1 | exact hs1 | exact hR1.1 | fail "lk") rfl (by omega) (by omega) ?_
  refine z_aload 391 rfl rfl rfl ?_
  refine z_iload 392 rfl rfl rfl ?_
  refine z_push 393 (nI 2) rfl rfl rfl ?_
  refine z_bop 394 _ rfl rfl (by first | with_reducible exact zb_0 _ _ | exact zd_0 _ _) ?_
  refine z_sld 395 rfl rfl (by first | exact hs0 | exact hC.1 | exact hs1 | exact hR1.1 | fail "lk") rfl (by omega) (by omega) ?_
  refine z_aload 396 rfl rfl rfl ?_
  refine z_iload 397 rfl rfl rfl ?_
  refine z_push 398 (nI 3) rfl rfl rfl ?_
  refine z_bop 399 _ rfl rfl (by first | with_reducible exact zb_0 _ _ | exact zd_0 _ _) ?_
  refine z_sld 400 rfl rfl (by first | exact hs0 | exact hC.1 | exact hs1 | exact hR1.1 | fail "lk") rfl (by omega) (by omega) ?_
  refine z_aload 401 rfl rfl rfl ?_
  refine z_iload 402 rfl rfl rfl ?_
  refine z_push 403 (nI 4) rfl rfl rfl ?_
  refine z_bop 404 _ rfl rfl (by first | with_reducible exact zb_0 _ _ | exact zd_0 _ _) ?_
  refine z_sld 405 rfl rfl (by first | exact hs0 | exact hC.1 | exact hs1 | exact hR1.1 | fail "lk") rfl (by omega) (by omega) ?_
  refine z_cv4 408 rfl rfl (by first | exact hs0 | exact hC.1 | exact hs1 | exact hR1.1 | fail "lk") rfl (by omega) (by omega) ?_
  refine r_drop hR1 hRI hB hK31 (fun h2 s2 hR2 hI2 => ?_)
  refine z_ceq 411 rfl rfl (fun _ => ?_) (fun h9 => absurd rfl h9)
  exact ih h2 _ _ _ (hI.step hC1 hK1 hR2 hI2 (I_drop hAI)) (by omega) (by omega)
set_option maxRecDepth 100000 in
theorem lw_close {Ls i nc ns : Nat} {xs : Nat → Int32} {h : mH} {A : Ab} {Q : mP} (hI : LI Ls xs h A) (hi : i + 6 ≤ Ls) (hLs : Ls ≤ 3072) (hnc : nc + 20 ≤ 600000) (hns : ns + 1863 ≤ 7302250) (ih : ∀ h' A' nc' ns', LI Ls xs h' A' → nc' ≤ nc + 20 → ns' ≤ ns + 1863 → mZ 80 tk_262 600000 7302250 Q 1278 [some (.ref 0), some (.ref 1), some (.ref 96), some (.int (nI i))] [] h' nc' ns') : mZ 80 tk_262 600000 7302250 Q 413 [some (.ref 0), some (.ref 1), some (.ref 96), some (.int (nI i))] [] h nc ns := by
  obtain ⟨⟨pad, sp, res, wrk, hC⟩, ⟨s, hR, hRI⟩, hAI, h143, hs0⟩ := id hI
  have hA := hAI.1
  have hFN := hAI.2.1
  have hMM := hAI.2.2.1
  have hU := hAI.2.2.2.1
  have hZ2 := hAI.2.2.2.2.2.1
  have hZ := hAI.2.2.2.2.2.2.1
  have hB := hA.1
  have hKb := hA.2.1
  have hbb := hA.2.2.2.1
  have hsg := nPt_lt hA.2.2.2.2.2.1
  have hK31 := hAI.kb
  have hM1 : ∀ D m, A.mcs D = some m → m.1 < A.pgs.length := fun D m hm => (hMM D m hm).1
  have hmd : ∀ D m, A.mcs D = some m → m.2.2.2.2.2.2.2.1 ≤ 2 := fun D m hm => (hMM D m hm).2.2.2.2.2.1.2
  refine z_aload 414 rfl rfl rfl ?_
  refine z_aload 415 rfl rfl rfl ?_
  refine z_iload 416 rfl rfl rfl ?_
  refine z_push 417 (nI 1) rfl rfl rfl ?_
  refine z_bop 418 _ rfl rfl (by first | with_reducible exact zb_0 _ _ | exact zd_0 _ _) ?_
  refine z_sld 419 rfl rfl (by first | exact hs0 | exact hC.1 | exact hs1 | exact hR1.1 | fail "lk") rfl (by omega) (by omega) ?_
  refine z_cv1 422 rfl rfl (by first | exact hs0 | exact hC.1 | exact hs1 | exact hR1.1 | fail "lk") rfl (by omega) (by omega) ?_
  refine c_close hC hKb hB (fun h1 hC1 hK1 => ?_)
  have hR1 := hR.kx hK1
  have hs1 := (hK1.1 0 (Or.inl rfl)).trans hs0
  refine z_aload 423 rfl rfl rfl ?_
  refine z_aload 424 rfl rfl rfl ?_
  refine z_iload 425 rfl rfl rfl ?_
  refine z_push 426 (nI 1) rfl rfl rfl ?_
  refine z_bop 427 _ rfl rfl (by first | with_reducible exact zb_0 _ _ | exact zd_0 _ _) ?_
  refine z_sld 428 rfl rfl (by first | exact hs0 | exact hC.1 | exact hs1 | exact hR1.1 | fail "lk") rfl (by omega) (by omega) ?_
  refine z_cv1 431 rfl rfl (by first | exact hs0 | exact hC.1 | exact hs1 | exact hR1.1 | fail "lk") rfl (by omega) (by omega) ?_
  refine r_close hR1 hRI hB hK31 (fun h2 s2 hR2 hI2 => ?_)
  refine z_ceq 434 rfl rfl (fun _ => ?_) (fun h9 => absurd rfl h9)
  exact ih h2 _ _ _ (hI.step hC1 hK1 hR2 hI2 (I_close hAI)) (by omega) (by omega)
set_option maxRecDepth 100000 in
theorem lw_size {Ls i nc ns : Nat} {xs : Nat → Int32} {h : mH} {A : Ab} {Q : mP} (hI : LI Ls xs h A) (hi : i + 6 ≤ Ls) (hLs : Ls ≤ 3072) (hnc : nc + 20 ≤ 600000) (hns : ns + 1863 ≤ 7302250) (ih : ∀ h' A' nc' ns', LI Ls xs h' A' → nc' ≤ nc + 20 → ns' ≤ ns + 1863 → mZ 80 tk_262 600000 7302250 Q 1278 [some (.ref 0), some (.ref 1), some (.ref 96), some (.int (nI i))] [] h' nc' ns') : mZ 80 tk_262 600000 7302250 Q 436 [some (.ref 0), some (.ref 1), some (.ref 96), some (.int (nI i))] [] h nc ns := by
  obtain ⟨⟨pad, sp, res, wrk, hC⟩, ⟨s, hR, hRI⟩, hAI, h143, hs0⟩ := id hI
  have hA := hAI.1
  have hFN := hAI.2.1
  have hMM := hAI.2.2.1
  have hU := hAI.2.2.2.1
  have hZ2 := hAI.2.2.2.2.2.1
  have hZ := hAI.2.2.2.2.2.2.1
  have hB := hA.1
  have hKb := hA.2.1
  have hbb := hA.2.2.2.1
  have hsg := nPt_lt hA.2.2.2.2.2.1
  have hK31 := hAI.kb
  have hM1 : ∀ D m, A.mcs D = some m → m.1 < A.pgs.length := fun D m hm => (hMM D m hm).1
  have hmd : ∀ D m, A.mcs D = some m → m.2.2.2.2.2.2.2.1 ≤ 2 := fun D m hm => (hMM D m hm).2.2.2.2.2.1.2
  refine z_aload 437 rfl rfl rfl ?_
  refine z_aload 438 rfl rfl rfl ?_
  refine z_iload 439 rfl rfl rfl ?_
  refine z_push 440 (nI 1) rfl rfl rfl ?_
  refine z_bop 441 _ rfl rfl (by first | with_reducible exact zb_0 _ _ | exact zd_0 _ _) ?_
  refine z_sld 442 rfl rfl (by first | exact hs0 | exact hC.1 | exact hs1 | exact hR1.1 | fail "lk") rfl (by omega) (by omega) ?_
  refine z_aload 443 rfl rfl rfl ?_
  refine z_iload 444 rfl rfl rfl ?_
  refine z_push 445 (nI 2) rfl rfl rfl ?_
  refine z_bop 446 _ rfl rfl (by first | with_reducible exact zb_0 _ _ | exact zd_0 _ _) ?_
  refine z_sld 447 rfl rfl (by first | exact hs0 | exact hC.1 | exact hs1 | exact hR1.1 | fail "lk") rfl (by omega) (by omega) ?_
  refine z_cv2 450 rfl rfl (by first | exact hs0 | exact hC.1 | exact hs1 | exact hR1.1 | fail "lk") rfl (by omega) (by omega) ?_
  refine c_size hC hKb (fun h1 hC1 hK1 => ?_)
  have hR1 := hR.kx hK1
  have hs1 := (hK1.1 0 (Or.inl rfl)).trans hs0
  refine z_aload 451 rfl rfl rfl ?_
  refine z_aload 452 rfl rfl rfl ?_
  refine z_iload 453 rfl rfl rfl ?_
  refine z_push 454 (nI 1) rfl rfl rfl ?_
  refine z_bop 455 _ rfl rfl (by first | with_reducible exact zb_0 _ _ | exact zd_0 _ _) ?_
  refine z_sld 456 rfl rfl (by first | exact hs0 | exact hC.1 | exact hs1 | exact hR1.1 | fail "lk") rfl (by omega) (by omega) ?_
  refine z_aload 457 rfl rfl rfl ?_
  refine z_iload 458 rfl rfl rfl ?_
  refine z_push 459 (nI 2) rfl rfl rfl ?_
  refine z_bop 460 _ rfl rfl (by first | with_reducible exact zb_0 _ _ | exact zd_0 _ _) ?_
  refine z_sld 461 rfl rfl (by first | exact hs0 | exact hC.1 | exact hs1 | exact hR1.1 | fail "lk") rfl (by omega) (by omega) ?_
  refine z_cv2 464 rfl rfl (by first | exact hs0 | exact hC.1 | exact hs1 | exact hR1.1 | fail "lk") rfl (by omega) (by omega) ?_
  refine r_size hR1 hRI hK31 (fun h2 s2 hR2 hI2 => ?_)
  refine z_ceq 467 rfl rfl (fun _ => ?_) (fun h9 => absurd rfl h9)
  exact ih h2 _ _ _ (hI.step hC1 hK1 hR2 hI2 (I_size hAI)) (by omega) (by omega)
set_option maxRecDepth 100000 in
theorem lw_code {Ls i nc ns : Nat} {xs : Nat → Int32} {h : mH} {A : Ab} {Q : mP} (hI : LI Ls xs h A) (hi : i + 6 ≤ Ls) (hLs : Ls ≤ 3072) (hnc : nc + 20 ≤ 600000) (hns : ns + 1863 ≤ 7302250) (ih : ∀ h' A' nc' ns', LI Ls xs h' A' → nc' ≤ nc + 20 → ns' ≤ ns + 1863 → mZ 80 tk_262 600000 7302250 Q 1278 [some (.ref 0), some (.ref 1), some (.ref 96), some (.int (nI i))] [] h' nc' ns') : mZ 80 tk_262 600000 7302250 Q 469 [some (.ref 0), some (.ref 1), some (.ref 96), some (.int (nI i))] [] h nc ns := by
  obtain ⟨⟨pad, sp, res, wrk, hC⟩, ⟨s, hR, hRI⟩, hAI, h143, hs0⟩ := id hI
  have hA := hAI.1
  have hFN := hAI.2.1
  have hMM := hAI.2.2.1
  have hU := hAI.2.2.2.1
  have hZ2 := hAI.2.2.2.2.2.1
  have hZ := hAI.2.2.2.2.2.2.1
  have hB := hA.1
  have hKb := hA.2.1
  have hbb := hA.2.2.2.1
  have hsg := nPt_lt hA.2.2.2.2.2.1
  have hK31 := hAI.kb
  have hM1 : ∀ D m, A.mcs D = some m → m.1 < A.pgs.length := fun D m hm => (hMM D m hm).1
  have hmd : ∀ D m, A.mcs D = some m → m.2.2.2.2.2.2.2.1 ≤ 2 := fun D m hm => (hMM D m hm).2.2.2.2.2.1.2
  refine z_aload 470 rfl rfl rfl ?_
  refine z_aload 471 rfl rfl rfl ?_
  refine z_iload 472 rfl rfl rfl ?_
  refine z_push 473 (nI 1) rfl rfl rfl ?_
  refine z_bop 474 _ rfl rfl (by first | with_reducible exact zb_0 _ _ | exact zd_0 _ _) ?_
  refine z_sld 475 rfl rfl (by first | exact hs0 | exact hC.1 | exact hs1 | exact hR1.1 | fail "lk") rfl (by omega) (by omega) ?_
  refine z_aload 476 rfl rfl rfl ?_
  refine z_iload 477 rfl rfl rfl ?_
  refine z_push 478 (nI 2) rfl rfl rfl ?_
  refine z_bop 479 _ rfl rfl (by first | with_reducible exact zb_0 _ _ | exact zd_0 _ _) ?_
  refine z_sld 480 rfl rfl (by first | exact hs0 | exact hC.1 | exact hs1 | exact hR1.1 | fail "lk") rfl (by omega) (by omega) ?_
  refine z_cv2 483 rfl rfl (by first | exact hs0 | exact hC.1 | exact hs1 | exact hR1.1 | fail "lk") rfl (by omega) (by omega) ?_
  refine c_code hC hKb hB (fun h1 hC1 hK1 => ?_)
  have hR1 := hR.kx hK1
  have hs1 := (hK1.1 0 (Or.inl rfl)).trans hs0
  refine z_aload 484 rfl rfl rfl ?_
  refine z_aload 485 rfl rfl rfl ?_
  refine z_iload 486 rfl rfl rfl ?_
  refine z_push 487 (nI 1) rfl rfl rfl ?_
  refine z_bop 488 _ rfl rfl (by first | with_reducible exact zb_0 _ _ | exact zd_0 _ _) ?_
  refine z_sld 489 rfl rfl (by first | exact hs0 | exact hC.1 | exact hs1 | exact hR1.1 | fail "lk") rfl (by omega) (by omega) ?_
  refine z_aload 490 rfl rfl rfl ?_
  refine z_iload 491 rfl rfl rfl ?_
  refine z_push 492 (nI 2) rfl rfl rfl ?_
  refine z_bop 493 _ rfl rfl (by first | with_reducible exact zb_0 _ _ | exact zd_0 _ _) ?_
  refine z_sld 494 rfl rfl (by first | exact hs0 | exact hC.1 | exact hs1 | exact hR1.1 | fail "lk") rfl (by omega) (by omega) ?_
  refine z_cv2 497 rfl rfl (by first | exact hs0 | exact hC.1 | exact hs1 | exact hR1.1 | fail "lk") rfl (by omega) (by omega) ?_
  refine r_code hR1 hRI hB hKb (fun h2 s2 hR2 hI2 => ?_)
  refine z_lcmp 498 rfl rfl ?_
  refine z_ieq 501 rfl rfl (fun _ => ?_) (fun h9 => absurd (lg_self _) h9)
  exact ih h2 _ _ _ (hI.step hC1 hK1 hR2 hI2 (I_code hAI)) (by omega) (by omega)
set_option maxRecDepth 100000 in
theorem lw_bytesIn {Ls i nc ns : Nat} {xs : Nat → Int32} {h : mH} {A : Ab} {Q : mP} (hI : LI Ls xs h A) (hi : i + 6 ≤ Ls) (hLs : Ls ≤ 3072) (hnc : nc + 20 ≤ 600000) (hns : ns + 1863 ≤ 7302250) (ih : ∀ h' A' nc' ns', LI Ls xs h' A' → nc' ≤ nc + 20 → ns' ≤ ns + 1863 → mZ 80 tk_262 600000 7302250 Q 1278 [some (.ref 0), some (.ref 1), some (.ref 96), some (.int (nI i))] [] h' nc' ns') : mZ 80 tk_262 600000 7302250 Q 503 [some (.ref 0), some (.ref 1), some (.ref 96), some (.int (nI i))] [] h nc ns := by
  obtain ⟨⟨pad, sp, res, wrk, hC⟩, ⟨s, hR, hRI⟩, hAI, h143, hs0⟩ := id hI
  have hA := hAI.1
  have hFN := hAI.2.1
  have hMM := hAI.2.2.1
  have hU := hAI.2.2.2.1
  have hZ2 := hAI.2.2.2.2.2.1
  have hZ := hAI.2.2.2.2.2.2.1
  have hB := hA.1
  have hKb := hA.2.1
  have hbb := hA.2.2.2.1
  have hsg := nPt_lt hA.2.2.2.2.2.1
  have hK31 := hAI.kb
  have hM1 : ∀ D m, A.mcs D = some m → m.1 < A.pgs.length := fun D m hm => (hMM D m hm).1
  have hmd : ∀ D m, A.mcs D = some m → m.2.2.2.2.2.2.2.1 ≤ 2 := fun D m hm => (hMM D m hm).2.2.2.2.2.1.2
  refine z_aload 504 rfl rfl rfl ?_
  refine z_aload 505 rfl rfl rfl ?_
  refine z_iload 506 rfl rfl rfl ?_
  refine z_push 507 (nI 1) rfl rfl rfl ?_
  refine z_bop 508 _ rfl rfl (by first | with_reducible exact zb_0 _ _ | exact zd_0 _ _) ?_
  refine z_sld 509 rfl rfl (by first | exact hs0 | exact hC.1 | exact hs1 | exact hR1.1 | fail "lk") rfl (by omega) (by omega) ?_
  refine z_i2l 510 rfl rfl ?_
  refine z_push 512 (nI 32) rfl rfl rfl ?_
  refine z_lsh 513 _ rfl rfl rfl ?_
  refine z_aload 514 rfl rfl rfl ?_
  refine z_iload 515 rfl rfl rfl ?_
  refine z_push 516 (nI 2) rfl rfl rfl ?_
  refine z_bop 517 _ rfl rfl (by first | with_reducible exact zb_0 _ _ | exact zd_0 _ _) ?_
  refine z_sld 518 rfl rfl (by first | exact hs0 | exact hC.1 | exact hs1 | exact hR1.1 | fail "lk") rfl (by omega) (by omega) ?_
  refine z_i2l 519 rfl rfl ?_
  refine z_pushl 522 (4294967295) rfl rfl rfl ?_
  refine z_lop 523 _ rfl rfl rfl ?_
  refine z_lop 524 _ rfl rfl rfl ?_
  refine z_aload 525 rfl rfl rfl ?_
  refine z_iload 526 rfl rfl rfl ?_
  refine z_push 527 (nI 3) rfl rfl rfl ?_
  refine z_bop 528 _ rfl rfl (by first | with_reducible exact zb_0 _ _ | exact zd_0 _ _) ?_
  refine z_sld 529 rfl rfl (by first | exact hs0 | exact hC.1 | exact hs1 | exact hR1.1 | fail "lk") rfl (by omega) (by omega) ?_
  refine z_cv2 532 rfl rfl (by first | exact hs0 | exact hC.1 | exact hs1 | exact hR1.1 | fail "lk") rfl (by omega) (by omega) ?_
  refine c_bytesIn hC  (fun h1 hC1 hK1 => ?_)
  have hR1 := hR.kx hK1
  have hs1 := (hK1.1 0 (Or.inl rfl)).trans hs0
  refine z_aload 533 rfl rfl rfl ?_
  refine z_aload 534 rfl rfl rfl ?_
  refine z_iload 535 rfl rfl rfl ?_
  refine z_push 536 (nI 1) rfl rfl rfl ?_
  refine z_bop 537 _ rfl rfl (by first | with_reducible exact zb_0 _ _ | exact zd_0 _ _) ?_
  refine z_sld 538 rfl rfl (by first | exact hs0 | exact hC.1 | exact hs1 | exact hR1.1 | fail "lk") rfl (by omega) (by omega) ?_
  refine z_i2l 539 rfl rfl ?_
  refine z_push 541 (nI 32) rfl rfl rfl ?_
  refine z_lsh 542 _ rfl rfl rfl ?_
  refine z_aload 543 rfl rfl rfl ?_
  refine z_iload 544 rfl rfl rfl ?_
  refine z_push 545 (nI 2) rfl rfl rfl ?_
  refine z_bop 546 _ rfl rfl (by first | with_reducible exact zb_0 _ _ | exact zd_0 _ _) ?_
  refine z_sld 547 rfl rfl (by first | exact hs0 | exact hC.1 | exact hs1 | exact hR1.1 | fail "lk") rfl (by omega) (by omega) ?_
  refine z_i2l 548 rfl rfl ?_
  refine z_pushl 551 (4294967295) rfl rfl rfl ?_
  refine z_lop 552 _ rfl rfl rfl ?_
  refine z_lop 553 _ rfl rfl rfl ?_
  refine z_aload 554 rfl rfl rfl ?_
  refine z_iload 555 rfl rfl rfl ?_
  refine z_push 556 (nI 3) rfl rfl rfl ?_
  refine z_bop 557 _ rfl rfl (by first | with_reducible exact zb_0 _ _ | exact zd_0 _ _) ?_
  refine z_sld 558 rfl rfl (by first | exact hs0 | exact hC.1 | exact hs1 | exact hR1.1 | fail "lk") rfl (by omega) (by omega) ?_
  refine z_cv2 561 rfl rfl (by first | exact hs0 | exact hC.1 | exact hs1 | exact hR1.1 | fail "lk") rfl (by omega) (by omega) ?_
  refine r_bytesIn hR1 hRI  (fun h2 s2 hR2 hI2 => ?_)
  refine z_ceq 564 rfl rfl (fun _ => ?_) (fun h9 => absurd rfl h9)
  exact ih h2 _ _ _ (hI.step hC1 hK1 hR2 hI2 (I_bytesIn hAI)) (by omega) (by omega)
set_option maxRecDepth 100000 in
theorem lw_unitsIn {Ls i nc ns : Nat} {xs : Nat → Int32} {h : mH} {A : Ab} {Q : mP} (hI : LI Ls xs h A) (hi : i + 6 ≤ Ls) (hLs : Ls ≤ 3072) (hnc : nc + 20 ≤ 600000) (hns : ns + 1863 ≤ 7302250) (ih : ∀ h' A' nc' ns', LI Ls xs h' A' → nc' ≤ nc + 20 → ns' ≤ ns + 1863 → mZ 80 tk_262 600000 7302250 Q 1278 [some (.ref 0), some (.ref 1), some (.ref 96), some (.int (nI i))] [] h' nc' ns') : mZ 80 tk_262 600000 7302250 Q 566 [some (.ref 0), some (.ref 1), some (.ref 96), some (.int (nI i))] [] h nc ns := by
  obtain ⟨⟨pad, sp, res, wrk, hC⟩, ⟨s, hR, hRI⟩, hAI, h143, hs0⟩ := id hI
  have hA := hAI.1
  have hFN := hAI.2.1
  have hMM := hAI.2.2.1
  have hU := hAI.2.2.2.1
  have hZ2 := hAI.2.2.2.2.2.1
  have hZ := hAI.2.2.2.2.2.2.1
  have hB := hA.1
  have hKb := hA.2.1
  have hbb := hA.2.2.2.1
  have hsg := nPt_lt hA.2.2.2.2.2.1
  have hK31 := hAI.kb
  have hM1 : ∀ D m, A.mcs D = some m → m.1 < A.pgs.length := fun D m hm => (hMM D m hm).1
  have hmd : ∀ D m, A.mcs D = some m → m.2.2.2.2.2.2.2.1 ≤ 2 := fun D m hm => (hMM D m hm).2.2.2.2.2.1.2
  refine z_aload 567 rfl rfl rfl ?_
  refine z_aload 568 rfl rfl rfl ?_
  refine z_iload 569 rfl rfl rfl ?_
  refine z_push 570 (nI 1) rfl rfl rfl ?_
  refine z_bop 571 _ rfl rfl (by first | with_reducible exact zb_0 _ _ | exact zd_0 _ _) ?_
  refine z_sld 572 rfl rfl (by first | exact hs0 | exact hC.1 | exact hs1 | exact hR1.1 | fail "lk") rfl (by omega) (by omega) ?_
  refine z_i2l 573 rfl rfl ?_
  refine z_push 575 (nI 32) rfl rfl rfl ?_
  refine z_lsh 576 _ rfl rfl rfl ?_
  refine z_aload 577 rfl rfl rfl ?_
  refine z_iload 578 rfl rfl rfl ?_
  refine z_push 579 (nI 2) rfl rfl rfl ?_
  refine z_bop 580 _ rfl rfl (by first | with_reducible exact zb_0 _ _ | exact zd_0 _ _) ?_
  refine z_sld 581 rfl rfl (by first | exact hs0 | exact hC.1 | exact hs1 | exact hR1.1 | fail "lk") rfl (by omega) (by omega) ?_
  refine z_i2l 582 rfl rfl ?_
  refine z_pushl 585 (4294967295) rfl rfl rfl ?_
  refine z_lop 586 _ rfl rfl rfl ?_
  refine z_lop 587 _ rfl rfl rfl ?_
  refine z_aload 588 rfl rfl rfl ?_
  refine z_iload 589 rfl rfl rfl ?_
  refine z_push 590 (nI 3) rfl rfl rfl ?_
  refine z_bop 591 _ rfl rfl (by first | with_reducible exact zb_0 _ _ | exact zd_0 _ _) ?_
  refine z_sld 592 rfl rfl (by first | exact hs0 | exact hC.1 | exact hs1 | exact hR1.1 | fail "lk") rfl (by omega) (by omega) ?_
  refine z_cv2 595 rfl rfl (by first | exact hs0 | exact hC.1 | exact hs1 | exact hR1.1 | fail "lk") rfl (by omega) (by omega) ?_
  refine c_unitsIn hC  (fun h1 hC1 hK1 => ?_)
  have hR1 := hR.kx hK1
  have hs1 := (hK1.1 0 (Or.inl rfl)).trans hs0
  refine z_aload 596 rfl rfl rfl ?_
  refine z_aload 597 rfl rfl rfl ?_
  refine z_iload 598 rfl rfl rfl ?_
  refine z_push 599 (nI 1) rfl rfl rfl ?_
  refine z_bop 600 _ rfl rfl (by first | with_reducible exact zb_0 _ _ | exact zd_0 _ _) ?_
  refine z_sld 601 rfl rfl (by first | exact hs0 | exact hC.1 | exact hs1 | exact hR1.1 | fail "lk") rfl (by omega) (by omega) ?_
  refine z_i2l 602 rfl rfl ?_
  refine z_push 604 (nI 32) rfl rfl rfl ?_
  refine z_lsh 605 _ rfl rfl rfl ?_
  refine z_aload 606 rfl rfl rfl ?_
  refine z_iload 607 rfl rfl rfl ?_
  refine z_push 608 (nI 2) rfl rfl rfl ?_
  refine z_bop 609 _ rfl rfl (by first | with_reducible exact zb_0 _ _ | exact zd_0 _ _) ?_
  refine z_sld 610 rfl rfl (by first | exact hs0 | exact hC.1 | exact hs1 | exact hR1.1 | fail "lk") rfl (by omega) (by omega) ?_
  refine z_i2l 611 rfl rfl ?_
  refine z_pushl 614 (4294967295) rfl rfl rfl ?_
  refine z_lop 615 _ rfl rfl rfl ?_
  refine z_lop 616 _ rfl rfl rfl ?_
  refine z_aload 617 rfl rfl rfl ?_
  refine z_iload 618 rfl rfl rfl ?_
  refine z_push 619 (nI 3) rfl rfl rfl ?_
  refine z_bop 620 _ rfl rfl (by first | with_reducible exact zb_0 _ _ | exact zd_0 _ _) ?_
  refine z_sld 621 rfl rfl (by first | exact hs0 | exact hC.1 | exact hs1 | exact hR1.1 | fail "lk") rfl (by omega) (by omega) ?_
  refine z_cv2 624 rfl rfl (by first | exact hs0 | exact hC.1 | exact hs1 | exact hR1.1 | fail "lk") rfl (by omega) (by omega) ?_
  refine r_unitsIn hR1 hRI  (fun h2 s2 hR2 hI2 => ?_)
  refine z_ceq 627 rfl rfl (fun _ => ?_) (fun h9 => absurd rfl h9)
  exact ih h2 _ _ _ (hI.step hC1 hK1 hR2 hI2 (I_unitsIn hAI)) (by omega) (by omega)
set_option maxRecDepth 100000 in
theorem lw_fill {Ls i nc ns : Nat} {xs : Nat → Int32} {h : mH} {A : Ab} {Q : mP} (hI : LI Ls xs h A) (hi : i + 6 ≤ Ls) (hLs : Ls ≤ 3072) (hnc : nc + 20 ≤ 600000) (hns : ns + 1863 ≤ 7302250) (ih : ∀ h' A' nc' ns', LI Ls xs h' A' → nc' ≤ nc + 20 → ns' ≤ ns + 1863 → mZ 80 tk_262 600000 7302250 Q 1278 [some (.ref 0), some (.ref 1), some (.ref 96), some (.int (nI i))] [] h' nc' ns') : mZ 80 tk_262 600000 7302250 Q 629 [some (.ref 0), some (.ref 1), some (.ref 96), some (.int (nI i))] [] h nc ns := by
  obtain ⟨⟨pad, sp, res, wrk, hC⟩, ⟨s, hR, hRI⟩, hAI, h143, hs0⟩ := id hI
  have hA := hAI.1
  have hFN := hAI.2.1
  have hMM := hAI.2.2.1
  have hU := hAI.2.2.2.1
  have hZ2 := hAI.2.2.2.2.2.1
  have hZ := hAI.2.2.2.2.2.2.1
  have hB := hA.1
  have hKb := hA.2.1
  have hbb := hA.2.2.2.1
  have hsg := nPt_lt hA.2.2.2.2.2.1
  have hK31 := hAI.kb
  have hM1 : ∀ D m, A.mcs D = some m → m.1 < A.pgs.length := fun D m hm => (hMM D m hm).1
  have hmd : ∀ D m, A.mcs D = some m → m.2.2.2.2.2.2.2.1 ≤ 2 := fun D m hm => (hMM D m hm).2.2.2.2.2.1.2
  refine z_aload 630 rfl rfl rfl ?_
  refine z_aload 631 rfl rfl rfl ?_
  refine z_iload 632 rfl rfl rfl ?_
  refine z_push 633 (nI 1) rfl rfl rfl ?_
  refine z_bop 634 _ rfl rfl (by first | with_reducible exact zb_0 _ _ | exact zd_0 _ _) ?_
  refine z_sld 635 rfl rfl (by first | exact hs0 | exact hC.1 | exact hs1 | exact hR1.1 | fail "lk") rfl (by omega) (by omega) ?_
  refine z_cv1 638 rfl rfl (by first | exact hs0 | exact hC.1 | exact hs1 | exact hR1.1 | fail "lk") rfl (by omega) (by omega) ?_
  refine c_xfill hC hZ2 (fun h1 hC1 hK1 => ?_)
  have hR1 := hR.kx hK1
  have hs1 := (hK1.1 0 (Or.inl rfl)).trans hs0
  refine z_aload 639 rfl rfl rfl ?_
  refine z_aload 640 rfl rfl rfl ?_
  refine z_iload 641 rfl rfl rfl ?_
  refine z_push 642 (nI 1) rfl rfl rfl ?_
  refine z_bop 643 _ rfl rfl (by first | with_reducible exact zb_0 _ _ | exact zd_0 _ _) ?_
  refine z_sld 644 rfl rfl (by first | exact hs0 | exact hC.1 | exact hs1 | exact hR1.1 | fail "lk") rfl (by omega) (by omega) ?_
  refine z_cv1 647 rfl rfl (by first | exact hs0 | exact hC.1 | exact hs1 | exact hR1.1 | fail "lk") rfl (by omega) (by omega) ?_
  refine r_fill hR1 hRI hZ2 (fun h2 s2 hR2 hI2 => ?_)
  refine z_ceq 650 rfl rfl (fun _ => ?_) (fun h9 => absurd rfl h9)
  exact ih h2 _ _ _ (hI.step hC1 hK1 hR2 hI2 (I_fill hAI)) (by omega) (by omega)
set_option maxRecDepth 100000 in
theorem lw_decode {Ls i nc ns : Nat} {xs : Nat → Int32} {h : mH} {A : Ab} {Q : mP} (hI : LI Ls xs h A) (hi : i + 6 ≤ Ls) (hLs : Ls ≤ 3072) (hnc : nc + 20 ≤ 600000) (hns : ns + 1863 ≤ 7302250) (ih : ∀ h' A' nc' ns', LI Ls xs h' A' → nc' ≤ nc + 20 → ns' ≤ ns + 1863 → mZ 80 tk_262 600000 7302250 Q 1278 [some (.ref 0), some (.ref 1), some (.ref 96), some (.int (nI i))] [] h' nc' ns') : mZ 80 tk_262 600000 7302250 Q 652 [some (.ref 0), some (.ref 1), some (.ref 96), some (.int (nI i))] [] h nc ns := by
  obtain ⟨⟨pad, sp, res, wrk, hC⟩, ⟨s, hR, hRI⟩, hAI, h143, hs0⟩ := id hI
  have hA := hAI.1
  have hFN := hAI.2.1
  have hMM := hAI.2.2.1
  have hU := hAI.2.2.2.1
  have hZ2 := hAI.2.2.2.2.2.1
  have hZ := hAI.2.2.2.2.2.2.1
  have hB := hA.1
  have hKb := hA.2.1
  have hbb := hA.2.2.2.1
  have hsg := nPt_lt hA.2.2.2.2.2.1
  have hK31 := hAI.kb
  have hM1 : ∀ D m, A.mcs D = some m → m.1 < A.pgs.length := fun D m hm => (hMM D m hm).1
  have hmd : ∀ D m, A.mcs D = some m → m.2.2.2.2.2.2.2.1 ≤ 2 := fun D m hm => (hMM D m hm).2.2.2.2.2.1.2
  refine z_aload 653 rfl rfl rfl ?_
  refine z_aload 654 rfl rfl rfl ?_
  refine z_iload 655 rfl rfl rfl ?_
  refine z_push 656 (nI 1) rfl rfl rfl ?_
  refine z_bop 657 _ rfl rfl (by first | with_reducible exact zb_0 _ _ | exact zd_0 _ _) ?_
  refine z_sld 658 rfl rfl (by first | exact hs0 | exact hC.1 | exact hs1 | exact hR1.1 | fail "lk") rfl (by omega) (by omega) ?_
  refine z_aload 659 rfl rfl rfl ?_
  refine z_iload 660 rfl rfl rfl ?_
  refine z_push 661 (nI 2) rfl rfl rfl ?_
  refine z_bop 662 _ rfl rfl (by first | with_reducible exact zb_0 _ _ | exact zd_0 _ _) ?_
  refine z_sld 663 rfl rfl (by first | exact hs0 | exact hC.1 | exact hs1 | exact hR1.1 | fail "lk") rfl (by omega) (by omega) ?_
  refine z_cv2 666 rfl rfl (by first | exact hs0 | exact hC.1 | exact hs1 | exact hR1.1 | fail "lk") rfl (by omega) (by omega) ?_
  refine c_decode hC hA (fun h1 hC1 hK1 => ?_)
  have hR1 := hR.kx hK1
  have hs1 := (hK1.1 0 (Or.inl rfl)).trans hs0
  refine z_aload 667 rfl rfl rfl ?_
  refine z_aload 668 rfl rfl rfl ?_
  refine z_iload 669 rfl rfl rfl ?_
  refine z_push 670 (nI 1) rfl rfl rfl ?_
  refine z_bop 671 _ rfl rfl (by first | with_reducible exact zb_0 _ _ | exact zd_0 _ _) ?_
  refine z_sld 672 rfl rfl (by first | exact hs0 | exact hC.1 | exact hs1 | exact hR1.1 | fail "lk") rfl (by omega) (by omega) ?_
  refine z_aload 673 rfl rfl rfl ?_
  refine z_iload 674 rfl rfl rfl ?_
  refine z_push 675 (nI 2) rfl rfl rfl ?_
  refine z_bop 676 _ rfl rfl (by first | with_reducible exact zb_0 _ _ | exact zd_0 _ _) ?_
  refine z_sld 677 rfl rfl (by first | exact hs0 | exact hC.1 | exact hs1 | exact hR1.1 | fail "lk") rfl (by omega) (by omega) ?_
  refine z_cv2 680 rfl rfl (by first | exact hs0 | exact hC.1 | exact hs1 | exact hR1.1 | fail "lk") rfl (by omega) (by omega) ?_
  refine r_decode hR1 hRI hB hKb hbb hsg (fun h2 s2 hR2 hI2 => ?_)
  refine z_ceq 683 rfl rfl (fun _ => ?_) (fun h9 => absurd rfl h9)
  exact ih h2 _ _ _ (hI.step hC1 hK1 hR2 hI2 (I_decode hAI)) (by omega) (by omega)
set_option maxRecDepth 100000 in
theorem lw_encode {Ls i nc ns : Nat} {xs : Nat → Int32} {h : mH} {A : Ab} {Q : mP} (hI : LI Ls xs h A) (hi : i + 6 ≤ Ls) (hLs : Ls ≤ 3072) (hnc : nc + 20 ≤ 600000) (hns : ns + 1863 ≤ 7302250) (ih : ∀ h' A' nc' ns', LI Ls xs h' A' → nc' ≤ nc + 20 → ns' ≤ ns + 1863 → mZ 80 tk_262 600000 7302250 Q 1278 [some (.ref 0), some (.ref 1), some (.ref 96), some (.int (nI i))] [] h' nc' ns') : mZ 80 tk_262 600000 7302250 Q 685 [some (.ref 0), some (.ref 1), some (.ref 96), some (.int (nI i))] [] h nc ns := by
  obtain ⟨⟨pad, sp, res, wrk, hC⟩, ⟨s, hR, hRI⟩, hAI, h143, hs0⟩ := id hI
  have hA := hAI.1
  have hFN := hAI.2.1
  have hMM := hAI.2.2.1
  have hU := hAI.2.2.2.1
  have hZ2 := hAI.2.2.2.2.2.1
  have hZ := hAI.2.2.2.2.2.2.1
  have hB := hA.1
  have hKb := hA.2.1
  have hbb := hA.2.2.2.1
  have hsg := nPt_lt hA.2.2.2.2.2.1
  have hK31 := hAI.kb
  have hM1 : ∀ D m, A.mcs D = some m → m.1 < A.pgs.length := fun D m hm => (hMM D m hm).1
  have hmd : ∀ D m, A.mcs D = some m → m.2.2.2.2.2.2.2.1 ≤ 2 := fun D m hm => (hMM D m hm).2.2.2.2.2.1.2
  refine z_aload 686 rfl rfl rfl ?_
  refine z_aload 687 rfl rfl rfl ?_
  refine z_iload 688 rfl rfl rfl ?_
  refine z_push 689 (nI 1) rfl rfl rfl ?_
  refine z_bop 690 _ rfl rfl (by first | with_reducible exact zb_0 _ _ | exact zd_0 _ _) ?_
  refine z_sld 691 rfl rfl (by first | exact hs0 | exact hC.1 | exact hs1 | exact hR1.1 | fail "lk") rfl (by omega) (by omega) ?_
  refine z_aload 692 rfl rfl rfl ?_
  refine z_iload 693 rfl rfl rfl ?_
  refine z_push 694 (nI 2) rfl rfl rfl ?_
  refine z_bop 695 _ rfl rfl (by first | with_reducible exact zb_0 _ _ | exact zd_0 _ _) ?_
  refine z_sld 696 rfl rfl (by first | exact hs0 | exact hC.1 | exact hs1 | exact hR1.1 | fail "lk") rfl (by omega) (by omega) ?_
  refine z_cv2 699 rfl rfl (by first | exact hs0 | exact hC.1 | exact hs1 | exact hR1.1 | fail "lk") rfl (by omega) (by omega) ?_
  refine c_encode hC hA hFN (fun h1 hC1 hK1 => ?_)
  have hR1 := hR.kx hK1
  have hs1 := (hK1.1 0 (Or.inl rfl)).trans hs0
  refine z_aload 700 rfl rfl rfl ?_
  refine z_aload 701 rfl rfl rfl ?_
  refine z_iload 702 rfl rfl rfl ?_
  refine z_push 703 (nI 1) rfl rfl rfl ?_
  refine z_bop 704 _ rfl rfl (by first | with_reducible exact zb_0 _ _ | exact zd_0 _ _) ?_
  refine z_sld 705 rfl rfl (by first | exact hs0 | exact hC.1 | exact hs1 | exact hR1.1 | fail "lk") rfl (by omega) (by omega) ?_
  refine z_aload 706 rfl rfl rfl ?_
  refine z_iload 707 rfl rfl rfl ?_
  refine z_push 708 (nI 2) rfl rfl rfl ?_
  refine z_bop 709 _ rfl rfl (by first | with_reducible exact zb_0 _ _ | exact zd_0 _ _) ?_
  refine z_sld 710 rfl rfl (by first | exact hs0 | exact hC.1 | exact hs1 | exact hR1.1 | fail "lk") rfl (by omega) (by omega) ?_
  refine z_cv2 713 rfl rfl (by first | exact hs0 | exact hC.1 | exact hs1 | exact hR1.1 | fail "lk") rfl (by omega) (by omega) ?_
  refine r_encode hR1 hRI hA (fun h2 s2 hR2 hI2 => ?_)
  refine z_ceq 716 rfl rfl (fun _ => ?_) (fun h9 => absurd rfl h9)
  exact ih h2 _ _ _ (hI.step hC1 hK1 hR2 hI2 (I_encode hAI)) (by omega) (by omega)
set_option maxRecDepth 100000 in
theorem lw_transcode {Ls i nc ns : Nat} {xs : Nat → Int32} {h : mH} {A : Ab} {Q : mP} (hI : LI Ls xs h A) (hi : i + 6 ≤ Ls) (hLs : Ls ≤ 3072) (hnc : nc + 20 ≤ 600000) (hns : ns + 1863 ≤ 7302250) (ih : ∀ h' A' nc' ns', LI Ls xs h' A' → nc' ≤ nc + 20 → ns' ≤ ns + 1863 → mZ 80 tk_262 600000 7302250 Q 1278 [some (.ref 0), some (.ref 1), some (.ref 96), some (.int (nI i))] [] h' nc' ns') : mZ 80 tk_262 600000 7302250 Q 718 [some (.ref 0), some (.ref 1), some (.ref 96), some (.int (nI i))] [] h nc ns := by
  obtain ⟨⟨pad, sp, res, wrk, hC⟩, ⟨s, hR, hRI⟩, hAI, h143, hs0⟩ := id hI
  have hA := hAI.1
  have hFN := hAI.2.1
  have hMM := hAI.2.2.1
  have hU := hAI.2.2.2.1
  have hZ2 := hAI.2.2.2.2.2.1
  have hZ := hAI.2.2.2.2.2.2.1
  have hB := hA.1
  have hKb := hA.2.1
  have hbb := hA.2.2.2.1
  have hsg := nPt_lt hA.2.2.2.2.2.1
  have hK31 := hAI.kb
  have hM1 : ∀ D m, A.mcs D = some m → m.1 < A.pgs.length := fun D m hm => (hMM D m hm).1
  have hmd : ∀ D m, A.mcs D = some m → m.2.2.2.2.2.2.2.1 ≤ 2 := fun D m hm => (hMM D m hm).2.2.2.2.2.1.2
  refine z_aload 719 rfl rfl rfl ?_
  refine z_aload 720 rfl rfl rfl ?_
  refine z_iload 721 rfl rfl rfl ?_
  refine z_push 722 (nI 1) rfl rfl rfl ?_
  refine z_bop 723 _ rfl rfl (by first | with_reducible exact zb_0 _ _ | exact zd_0 _ _) ?_
  refine z_sld 724 rfl rfl (by first | exact hs0 | exact hC.1 | exact hs1 | exact hR1.1 | fail "lk") rfl (by omega) (by omega) ?_
  refine z_aload 725 rfl rfl rfl ?_
  refine z_iload 726 rfl rfl rfl ?_
  refine z_push 727 (nI 2) rfl rfl rfl ?_
  refine z_bop 728 _ rfl rfl (by first | with_reducible exact zb_0 _ _ | exact zd_0 _ _) ?_
  refine z_sld 729 rfl rfl (by first | exact hs0 | exact hC.1 | exact hs1 | exact hR1.1 | fail "lk") rfl (by omega) (by omega) ?_
  refine z_aload 730 rfl rfl rfl ?_
  refine z_iload 731 rfl rfl rfl ?_
  refine z_push 732 (nI 3) rfl rfl rfl ?_
  refine z_bop 733 _ rfl rfl (by first | with_reducible exact zb_0 _ _ | exact zd_0 _ _) ?_
  refine z_sld 734 rfl rfl (by first | exact hs0 | exact hC.1 | exact hs1 | exact hR1.1 | fail "lk") rfl (by omega) (by omega) ?_
  refine z_aload 735 rfl rfl rfl ?_
  refine z_iload 736 rfl rfl rfl ?_
  refine z_push 737 (nI 4) rfl rfl rfl ?_
  refine z_bop 738 _ rfl rfl (by first | with_reducible exact zb_0 _ _ | exact zd_0 _ _) ?_
  refine z_sld 739 rfl rfl (by first | exact hs0 | exact hC.1 | exact hs1 | exact hR1.1 | fail "lk") rfl (by omega) (by omega) ?_
  refine z_cv4 742 rfl rfl (by first | exact hs0 | exact hC.1 | exact hs1 | exact hR1.1 | fail "lk") rfl (by omega) (by omega) ?_
  refine c_transcode hC hA hFN (fun h1 hC1 hK1 => ?_)
  have hR1 := hR.kx hK1
  have hs1 := (hK1.1 0 (Or.inl rfl)).trans hs0
  refine z_aload 743 rfl rfl rfl ?_
  refine z_aload 744 rfl rfl rfl ?_
  refine z_iload 745 rfl rfl rfl ?_
  refine z_push 746 (nI 1) rfl rfl rfl ?_
  refine z_bop 747 _ rfl rfl (by first | with_reducible exact zb_0 _ _ | exact zd_0 _ _) ?_
  refine z_sld 748 rfl rfl (by first | exact hs0 | exact hC.1 | exact hs1 | exact hR1.1 | fail "lk") rfl (by omega) (by omega) ?_
  refine z_aload 749 rfl rfl rfl ?_
  refine z_iload 750 rfl rfl rfl ?_
  refine z_push 751 (nI 2) rfl rfl rfl ?_
  refine z_bop 752 _ rfl rfl (by first | with_reducible exact zb_0 _ _ | exact zd_0 _ _) ?_
  refine z_sld 753 rfl rfl (by first | exact hs0 | exact hC.1 | exact hs1 | exact hR1.1 | fail "lk") rfl (by omega) (by omega) ?_
  refine z_aload 754 rfl rfl rfl ?_
  refine z_iload 755 rfl rfl rfl ?_
  refine z_push 756 (nI 3) rfl rfl rfl ?_
  refine z_bop 757 _ rfl rfl (by first | with_reducible exact zb_0 _ _ | exact zd_0 _ _) ?_
  refine z_sld 758 rfl rfl (by first | exact hs0 | exact hC.1 | exact hs1 | exact hR1.1 | fail "lk") rfl (by omega) (by omega) ?_
  refine z_aload 759 rfl rfl rfl ?_
  refine z_iload 760 rfl rfl rfl ?_
  refine z_push 761 (nI 4) rfl rfl rfl ?_
  refine z_bop 762 _ rfl rfl (by first | with_reducible exact zb_0 _ _ | exact zd_0 _ _) ?_
  refine z_sld 763 rfl rfl (by first | exact hs0 | exact hC.1 | exact hs1 | exact hR1.1 | fail "lk") rfl (by omega) (by omega) ?_
  refine z_cv4 766 rfl rfl (by first | exact hs0 | exact hC.1 | exact hs1 | exact hR1.1 | fail "lk") rfl (by omega) (by omega) ?_
  refine r_transcode hR1 hRI hA (fun h2 s2 hR2 hI2 => ?_)
  refine z_ceq 769 rfl rfl (fun _ => ?_) (fun h9 => absurd rfl h9)
  exact ih h2 _ _ _ (hI.step hC1 hK1 hR2 hI2 (I_transcode hAI)) (by omega) (by omega)
set_option maxRecDepth 100000 in
theorem lw_result {Ls i nc ns : Nat} {xs : Nat → Int32} {h : mH} {A : Ab} {Q : mP} (hI : LI Ls xs h A) (hi : i + 6 ≤ Ls) (hLs : Ls ≤ 3072) (hnc : nc + 20 ≤ 600000) (hns : ns + 1863 ≤ 7302250) (ih : ∀ h' A' nc' ns', LI Ls xs h' A' → nc' ≤ nc + 20 → ns' ≤ ns + 1863 → mZ 80 tk_262 600000 7302250 Q 1278 [some (.ref 0), some (.ref 1), some (.ref 96), some (.int (nI i))] [] h' nc' ns') : mZ 80 tk_262 600000 7302250 Q 771 [some (.ref 0), some (.ref 1), some (.ref 96), some (.int (nI i))] [] h nc ns := by
  obtain ⟨⟨pad, sp, res, wrk, hC⟩, ⟨s, hR, hRI⟩, hAI, h143, hs0⟩ := id hI
  have hA := hAI.1
  have hFN := hAI.2.1
  have hMM := hAI.2.2.1
  have hU := hAI.2.2.2.1
  have hZ2 := hAI.2.2.2.2.2.1
  have hZ := hAI.2.2.2.2.2.2.1
  have hB := hA.1
  have hKb := hA.2.1
  have hbb := hA.2.2.2.1
  have hsg := nPt_lt hA.2.2.2.2.2.1
  have hK31 := hAI.kb
  have hM1 : ∀ D m, A.mcs D = some m → m.1 < A.pgs.length := fun D m hm => (hMM D m hm).1
  have hmd : ∀ D m, A.mcs D = some m → m.2.2.2.2.2.2.2.1 ≤ 2 := fun D m hm => (hMM D m hm).2.2.2.2.2.1.2
  refine z_aload 772 rfl rfl rfl ?_
  refine z_aload 773 rfl rfl rfl ?_
  refine z_iload 774 rfl rfl rfl ?_
  refine z_push 775 (nI 1) rfl rfl rfl ?_
  refine z_bop 776 _ rfl rfl (by first | with_reducible exact zb_0 _ _ | exact zd_0 _ _) ?_
  refine z_sld 777 rfl rfl (by first | exact hs0 | exact hC.1 | exact hs1 | exact hR1.1 | fail "lk") rfl (by omega) (by omega) ?_
  refine z_cv1 780 rfl rfl (by first | exact hs0 | exact hC.1 | exact hs1 | exact hR1.1 | fail "lk") rfl (by omega) (by omega) ?_
  refine c_result hC  (fun h1 hC1 hK1 => ?_)
  have hR1 := hR.kx hK1
  have hs1 := (hK1.1 0 (Or.inl rfl)).trans hs0
  refine z_aload 781 rfl rfl rfl ?_
  refine z_aload 782 rfl rfl rfl ?_
  refine z_iload 783 rfl rfl rfl ?_
  refine z_push 784 (nI 1) rfl rfl rfl ?_
  refine z_bop 785 _ rfl rfl (by first | with_reducible exact zb_0 _ _ | exact zd_0 _ _) ?_
  refine z_sld 786 rfl rfl (by first | exact hs0 | exact hC.1 | exact hs1 | exact hR1.1 | fail "lk") rfl (by omega) (by omega) ?_
  refine z_cv1 789 rfl rfl (by first | exact hs0 | exact hC.1 | exact hs1 | exact hR1.1 | fail "lk") rfl (by omega) (by omega) ?_
  refine r_result hR1 hRI hZ hZ2 (fun h2 s2 hR2 hI2 => ?_)
  refine z_ceq 792 rfl rfl (fun _ => ?_) (fun h9 => absurd rfl h9)
  exact ih h2 _ _ _ (hI.step hC1 hK1 hR2 hI2 (I_result hAI)) (by omega) (by omega)
set_option maxRecDepth 100000 in
theorem lw_sign {Ls i nc ns : Nat} {xs : Nat → Int32} {h : mH} {A : Ab} {Q : mP} (hI : LI Ls xs h A) (hi : i + 6 ≤ Ls) (hLs : Ls ≤ 3072) (hnc : nc + 20 ≤ 600000) (hns : ns + 1863 ≤ 7302250) (ih : ∀ h' A' nc' ns', LI Ls xs h' A' → nc' ≤ nc + 20 → ns' ≤ ns + 1863 → mZ 80 tk_262 600000 7302250 Q 1278 [some (.ref 0), some (.ref 1), some (.ref 96), some (.int (nI i))] [] h' nc' ns') : mZ 80 tk_262 600000 7302250 Q 794 [some (.ref 0), some (.ref 1), some (.ref 96), some (.int (nI i))] [] h nc ns := by
  obtain ⟨⟨pad, sp, res, wrk, hC⟩, ⟨s, hR, hRI⟩, hAI, h143, hs0⟩ := id hI
  have hA := hAI.1
  have hFN := hAI.2.1
  have hMM := hAI.2.2.1
  have hU := hAI.2.2.2.1
  have hZ2 := hAI.2.2.2.2.2.1
  have hZ := hAI.2.2.2.2.2.2.1
  have hB := hA.1
  have hKb := hA.2.1
  have hbb := hA.2.2.2.1
  have hsg := nPt_lt hA.2.2.2.2.2.1
  have hK31 := hAI.kb
  have hM1 : ∀ D m, A.mcs D = some m → m.1 < A.pgs.length := fun D m hm => (hMM D m hm).1
  have hmd : ∀ D m, A.mcs D = some m → m.2.2.2.2.2.2.2.1 ≤ 2 := fun D m hm => (hMM D m hm).2.2.2.2.2.1.2
  refine z_aload 795 rfl rfl rfl ?_
  refine z_aload 796 rfl rfl rfl ?_
  refine z_iload 797 rfl rfl rfl ?_
  refine z_push 798 (nI 1) rfl rfl rfl ?_
  refine z_bop 799 _ rfl rfl (by first | with_reducible exact zb_0 _ _ | exact zd_0 _ _) ?_
  refine z_sld 800 rfl rfl (by first | exact hs0 | exact hC.1 | exact hs1 | exact hR1.1 | fail "lk") rfl (by omega) (by omega) ?_
  refine z_aload 801 rfl rfl rfl ?_
  refine z_iload 802 rfl rfl rfl ?_
  refine z_push 803 (nI 2) rfl rfl rfl ?_
  refine z_bop 804 _ rfl rfl (by first | with_reducible exact zb_0 _ _ | exact zd_0 _ _) ?_
  refine z_sld 805 rfl rfl (by first | exact hs0 | exact hC.1 | exact hs1 | exact hR1.1 | fail "lk") rfl (by omega) (by omega) ?_
  refine z_cv2 808 rfl rfl (by first | exact hs0 | exact hC.1 | exact hs1 | exact hR1.1 | fail "lk") rfl (by omega) (by omega) ?_
  refine c_sign hC  (fun h1 hC1 hK1 => ?_)
  have hR1 := hR.kx hK1
  have hs1 := (hK1.1 0 (Or.inl rfl)).trans hs0
  refine z_aload 809 rfl rfl rfl ?_
  refine z_aload 810 rfl rfl rfl ?_
  refine z_iload 811 rfl rfl rfl ?_
  refine z_push 812 (nI 1) rfl rfl rfl ?_
  refine z_bop 813 _ rfl rfl (by first | with_reducible exact zb_0 _ _ | exact zd_0 _ _) ?_
  refine z_sld 814 rfl rfl (by first | exact hs0 | exact hC.1 | exact hs1 | exact hR1.1 | fail "lk") rfl (by omega) (by omega) ?_
  refine z_aload 815 rfl rfl rfl ?_
  refine z_iload 816 rfl rfl rfl ?_
  refine z_push 817 (nI 2) rfl rfl rfl ?_
  refine z_bop 818 _ rfl rfl (by first | with_reducible exact zb_0 _ _ | exact zd_0 _ _) ?_
  refine z_sld 819 rfl rfl (by first | exact hs0 | exact hC.1 | exact hs1 | exact hR1.1 | fail "lk") rfl (by omega) (by omega) ?_
  refine z_cv2 822 rfl rfl (by first | exact hs0 | exact hC.1 | exact hs1 | exact hR1.1 | fail "lk") rfl (by omega) (by omega) ?_
  refine r_sign hR1 hRI  (fun h2 s2 hR2 hI2 => ?_)
  refine z_ceq 825 rfl rfl (fun _ => ?_) (fun h9 => absurd rfl h9)
  exact ih h2 _ _ _ (hI.step hC1 hK1 hR2 hI2 (I_sign hAI)) (by omega) (by omega)
set_option maxRecDepth 100000 in
theorem lw_fallback {Ls i nc ns : Nat} {xs : Nat → Int32} {h : mH} {A : Ab} {Q : mP} (hI : LI Ls xs h A) (hi : i + 6 ≤ Ls) (hLs : Ls ≤ 3072) (hnc : nc + 20 ≤ 600000) (hns : ns + 1863 ≤ 7302250) (ih : ∀ h' A' nc' ns', LI Ls xs h' A' → nc' ≤ nc + 20 → ns' ≤ ns + 1863 → mZ 80 tk_262 600000 7302250 Q 1278 [some (.ref 0), some (.ref 1), some (.ref 96), some (.int (nI i))] [] h' nc' ns') : mZ 80 tk_262 600000 7302250 Q 827 [some (.ref 0), some (.ref 1), some (.ref 96), some (.int (nI i))] [] h nc ns := by
  obtain ⟨⟨pad, sp, res, wrk, hC⟩, ⟨s, hR, hRI⟩, hAI, h143, hs0⟩ := id hI
  have hA := hAI.1
  have hFN := hAI.2.1
  have hMM := hAI.2.2.1
  have hU := hAI.2.2.2.1
  have hZ2 := hAI.2.2.2.2.2.1
  have hZ := hAI.2.2.2.2.2.2.1
  have hB := hA.1
  have hKb := hA.2.1
  have hbb := hA.2.2.2.1
  have hsg := nPt_lt hA.2.2.2.2.2.1
  have hK31 := hAI.kb
  have hM1 : ∀ D m, A.mcs D = some m → m.1 < A.pgs.length := fun D m hm => (hMM D m hm).1
  have hmd : ∀ D m, A.mcs D = some m → m.2.2.2.2.2.2.2.1 ≤ 2 := fun D m hm => (hMM D m hm).2.2.2.2.2.1.2
  refine z_aload 828 rfl rfl rfl ?_
  refine z_aload 829 rfl rfl rfl ?_
  refine z_iload 830 rfl rfl rfl ?_
  refine z_push 831 (nI 1) rfl rfl rfl ?_
  refine z_bop 832 _ rfl rfl (by first | with_reducible exact zb_0 _ _ | exact zd_0 _ _) ?_
  refine z_sld 833 rfl rfl (by first | exact hs0 | exact hC.1 | exact hs1 | exact hR1.1 | fail "lk") rfl (by omega) (by omega) ?_
  refine z_cv1 836 rfl rfl (by first | exact hs0 | exact hC.1 | exact hs1 | exact hR1.1 | fail "lk") rfl (by omega) (by omega) ?_
  refine c_fallback hC hA hU (fun h1 hC1 hK1 => ?_)
  have hR1 := hR.kx hK1
  have hs1 := (hK1.1 0 (Or.inl rfl)).trans hs0
  refine z_aload 837 rfl rfl rfl ?_
  refine z_aload 838 rfl rfl rfl ?_
  refine z_iload 839 rfl rfl rfl ?_
  refine z_push 840 (nI 1) rfl rfl rfl ?_
  refine z_bop 841 _ rfl rfl (by first | with_reducible exact zb_0 _ _ | exact zd_0 _ _) ?_
  refine z_sld 842 rfl rfl (by first | exact hs0 | exact hC.1 | exact hs1 | exact hR1.1 | fail "lk") rfl (by omega) (by omega) ?_
  refine z_cv1 845 rfl rfl (by first | exact hs0 | exact hC.1 | exact hs1 | exact hR1.1 | fail "lk") rfl (by omega) (by omega) ?_
  refine r_fallback hR1 hRI hA hU (fun h2 s2 hR2 hI2 => ?_)
  refine z_ceq 848 rfl rfl (fun _ => ?_) (fun h9 => absurd rfl h9)
  exact ih h2 _ _ _ (hI.step hC1 hK1 hR2 hI2 (I_fallback hAI)) (by omega) (by omega)
set_option maxRecDepth 100000 in
theorem lw_begin {Ls i nc ns : Nat} {xs : Nat → Int32} {h : mH} {A : Ab} {Q : mP} (hI : LI Ls xs h A) (hi : i + 6 ≤ Ls) (hLs : Ls ≤ 3072) (hnc : nc + 20 ≤ 600000) (hns : ns + 1863 ≤ 7302250) (ih : ∀ h' A' nc' ns', LI Ls xs h' A' → nc' ≤ nc + 20 → ns' ≤ ns + 1863 → mZ 80 tk_262 600000 7302250 Q 1278 [some (.ref 0), some (.ref 1), some (.ref 96), some (.int (nI i))] [] h' nc' ns') : mZ 80 tk_262 600000 7302250 Q 850 [some (.ref 0), some (.ref 1), some (.ref 96), some (.int (nI i))] [] h nc ns := by
  obtain ⟨⟨pad, sp, res, wrk, hC⟩, ⟨s, hR, hRI⟩, hAI, h143, hs0⟩ := id hI
  have hA := hAI.1
  have hFN := hAI.2.1
  have hMM := hAI.2.2.1
  have hU := hAI.2.2.2.1
  have hZ2 := hAI.2.2.2.2.2.1
  have hZ := hAI.2.2.2.2.2.2.1
  have hB := hA.1
  have hKb := hA.2.1
  have hbb := hA.2.2.2.1
  have hsg := nPt_lt hA.2.2.2.2.2.1
  have hK31 := hAI.kb
  have hM1 : ∀ D m, A.mcs D = some m → m.1 < A.pgs.length := fun D m hm => (hMM D m hm).1
  have hmd : ∀ D m, A.mcs D = some m → m.2.2.2.2.2.2.2.1 ≤ 2 := fun D m hm => (hMM D m hm).2.2.2.2.2.1.2
  refine z_aload 851 rfl rfl rfl ?_
  refine z_aload 852 rfl rfl rfl ?_
  refine z_iload 853 rfl rfl rfl ?_
  refine z_push 854 (nI 1) rfl rfl rfl ?_
  refine z_bop 855 _ rfl rfl (by first | with_reducible exact zb_0 _ _ | exact zd_0 _ _) ?_
  refine z_sld 856 rfl rfl (by first | exact hs0 | exact hC.1 | exact hs1 | exact hR1.1 | fail "lk") rfl (by omega) (by omega) ?_
  refine z_aload 857 rfl rfl rfl ?_
  refine z_iload 858 rfl rfl rfl ?_
  refine z_push 859 (nI 2) rfl rfl rfl ?_
  refine z_bop 860 _ rfl rfl (by first | with_reducible exact zb_0 _ _ | exact zd_0 _ _) ?_
  refine z_sld 861 rfl rfl (by first | exact hs0 | exact hC.1 | exact hs1 | exact hR1.1 | fail "lk") rfl (by omega) (by omega) ?_
  refine z_aload 862 rfl rfl rfl ?_
  refine z_iload 863 rfl rfl rfl ?_
  refine z_push 864 (nI 3) rfl rfl rfl ?_
  refine z_bop 865 _ rfl rfl (by first | with_reducible exact zb_0 _ _ | exact zd_0 _ _) ?_
  refine z_sld 866 rfl rfl (by first | exact hs0 | exact hC.1 | exact hs1 | exact hR1.1 | fail "lk") rfl (by omega) (by omega) ?_
  first | refine z_ieq 869 rfl rfl (fun hc866 => ?_) (fun hc866 => ?_)
  · refine z_push 874 (nI 0) rfl rfl rfl ?_
    refine z_aload 875 rfl rfl rfl ?_
    refine z_iload 876 rfl rfl rfl ?_
    refine z_push 877 (nI 4) rfl rfl rfl ?_
    refine z_bop 878 _ rfl rfl (by first | with_reducible exact zb_0 _ _ | exact zd_0 _ _) ?_
    refine z_sld 879 rfl rfl (by first | exact hs0 | exact hC.1 | exact hs1 | exact hR1.1 | fail "lk") rfl (by omega) (by omega) ?_
    refine z_cv4 882 rfl rfl (by first | exact hs0 | exact hC.1 | exact hs1 | exact hR1.1 | fail "lk") rfl (by omega) (by omega) ?_
    refine c_begin (wr := false) hC  (fun h1 hC1 hK1 => ?_)
    have hR1 := hR.kx hK1
    have hs1 := (hK1.1 0 (Or.inl rfl)).trans hs0
    refine z_aload 883 rfl rfl rfl ?_
    refine z_aload 884 rfl rfl rfl ?_
    refine z_iload 885 rfl rfl rfl ?_
    refine z_push 886 (nI 1) rfl rfl rfl ?_
    refine z_bop 887 _ rfl rfl (by first | with_reducible exact zb_0 _ _ | exact zd_0 _ _) ?_
    refine z_sld 888 rfl rfl (by first | exact hs0 | exact hC.1 | exact hs1 | exact hR1.1 | fail "lk") rfl (by omega) (by omega) ?_
    refine z_aload 889 rfl rfl rfl ?_
    refine z_iload 890 rfl rfl rfl ?_
    refine z_push 891 (nI 2) rfl rfl rfl ?_
    refine z_bop 892 _ rfl rfl (by first | with_reducible exact zb_0 _ _ | exact zd_0 _ _) ?_
    refine z_sld 893 rfl rfl (by first | exact hs0 | exact hC.1 | exact hs1 | exact hR1.1 | fail "lk") rfl (by omega) (by omega) ?_
    refine z_aload 894 rfl rfl rfl ?_
    refine z_iload 895 rfl rfl rfl ?_
    refine z_push 896 (nI 3) rfl rfl rfl ?_
    refine z_bop 897 _ rfl rfl (by first | with_reducible exact zb_0 _ _ | exact zd_0 _ _) ?_
    refine z_sld 898 rfl rfl (by first | exact hs0 | exact hC.1 | exact hs1 | exact hR1.1 | fail "lk") rfl (by omega) (by omega) ?_
    refine z_ieq 901 rfl rfl (fun _ => ?_) (fun h9 => absurd hc866 h9)
    refine z_push 906 (nI 0) rfl rfl rfl ?_
    refine z_aload 907 rfl rfl rfl ?_
    refine z_iload 908 rfl rfl rfl ?_
    refine z_push 909 (nI 4) rfl rfl rfl ?_
    refine z_bop 910 _ rfl rfl (by first | with_reducible exact zb_0 _ _ | exact zd_0 _ _) ?_
    refine z_sld 911 rfl rfl (by first | exact hs0 | exact hC.1 | exact hs1 | exact hR1.1 | fail "lk") rfl (by omega) (by omega) ?_
    refine z_cv4 914 rfl rfl (by first | exact hs0 | exact hC.1 | exact hs1 | exact hR1.1 | fail "lk") rfl (by omega) (by omega) ?_
    refine r_begin (wr := false) hR1 hRI hMM.B (fun h2 s2 hR2 hI2 => ?_)
    refine z_ceq 917 rfl rfl (fun _ => ?_) (fun h9 => absurd rfl h9)
    exact ih h2 _ _ _ (hI.step hC1 hK1 hR2 hI2 (I_begin hAI)) (by omega) (by omega)
  · refine z_push 870 (nI 1) rfl rfl rfl ?_
    refine z_goto rfl ?_
    refine z_aload 875 rfl rfl rfl ?_
    refine z_iload 876 rfl rfl rfl ?_
    refine z_push 877 (nI 4) rfl rfl rfl ?_
    refine z_bop 878 _ rfl rfl (by first | with_reducible exact zb_0 _ _ | exact zd_0 _ _) ?_
    refine z_sld 879 rfl rfl (by first | exact hs0 | exact hC.1 | exact hs1 | exact hR1.1 | fail "lk") rfl (by omega) (by omega) ?_
    refine z_cv4 882 rfl rfl (by first | exact hs0 | exact hC.1 | exact hs1 | exact hR1.1 | fail "lk") rfl (by omega) (by omega) ?_
    refine c_begin (wr := true) hC  (fun h1 hC1 hK1 => ?_)
    have hR1 := hR.kx hK1
    have hs1 := (hK1.1 0 (Or.inl rfl)).trans hs0
    refine z_aload 883 rfl rfl rfl ?_
    refine z_aload 884 rfl rfl rfl ?_
    refine z_iload 885 rfl rfl rfl ?_
    refine z_push 886 (nI 1) rfl rfl rfl ?_
    refine z_bop 887 _ rfl rfl (by first | with_reducible exact zb_0 _ _ | exact zd_0 _ _) ?_
    refine z_sld 888 rfl rfl (by first | exact hs0 | exact hC.1 | exact hs1 | exact hR1.1 | fail "lk") rfl (by omega) (by omega) ?_
    refine z_aload 889 rfl rfl rfl ?_
    refine z_iload 890 rfl rfl rfl ?_
    refine z_push 891 (nI 2) rfl rfl rfl ?_
    refine z_bop 892 _ rfl rfl (by first | with_reducible exact zb_0 _ _ | exact zd_0 _ _) ?_
    refine z_sld 893 rfl rfl (by first | exact hs0 | exact hC.1 | exact hs1 | exact hR1.1 | fail "lk") rfl (by omega) (by omega) ?_
    refine z_aload 894 rfl rfl rfl ?_
    refine z_iload 895 rfl rfl rfl ?_
    refine z_push 896 (nI 3) rfl rfl rfl ?_
    refine z_bop 897 _ rfl rfl (by first | with_reducible exact zb_0 _ _ | exact zd_0 _ _) ?_
    refine z_sld 898 rfl rfl (by first | exact hs0 | exact hC.1 | exact hs1 | exact hR1.1 | fail "lk") rfl (by omega) (by omega) ?_
    refine z_ieq 901 rfl rfl (fun h9 => absurd h9 hc866) (fun _ => ?_)
    refine z_push 902 (nI 1) rfl rfl rfl ?_
    refine z_goto rfl ?_
    refine z_aload 907 rfl rfl rfl ?_
    refine z_iload 908 rfl rfl rfl ?_
    refine z_push 909 (nI 4) rfl rfl rfl ?_
    refine z_bop 910 _ rfl rfl (by first | with_reducible exact zb_0 _ _ | exact zd_0 _ _) ?_
    refine z_sld 911 rfl rfl (by first | exact hs0 | exact hC.1 | exact hs1 | exact hR1.1 | fail "lk") rfl (by omega) (by omega) ?_
    refine z_cv4 914 rfl rfl (by first | exact hs0 | exact hC.1 | exact hs1 | exact hR1.1 | fail "lk") rfl (by omega) (by omega) ?_
    refine r_begin (wr := true) hR1 hRI hMM.B (fun h2 s2 hR2 hI2 => ?_)
    refine z_ceq 917 rfl rfl (fun _ => ?_) (fun h9 => absurd rfl h9)
    exact ih h2 _ _ _ (hI.step hC1 hK1 hR2 hI2 (I_begin hAI)) (by omega) (by omega)
set_option maxRecDepth 100000 in
theorem lw_feed {Ls i nc ns : Nat} {xs : Nat → Int32} {h : mH} {A : Ab} {Q : mP} (hI : LI Ls xs h A) (hi : i + 6 ≤ Ls) (hLs : Ls ≤ 3072) (hnc : nc + 20 ≤ 600000) (hns : ns + 1863 ≤ 7302250) (ih : ∀ h' A' nc' ns', LI Ls xs h' A' → nc' ≤ nc + 20 → ns' ≤ ns + 1863 → mZ 80 tk_262 600000 7302250 Q 1278 [some (.ref 0), some (.ref 1), some (.ref 96), some (.int (nI i))] [] h' nc' ns') : mZ 80 tk_262 600000 7302250 Q 919 [some (.ref 0), some (.ref 1), some (.ref 96), some (.int (nI i))] [] h nc ns := by
  obtain ⟨⟨pad, sp, res, wrk, hC⟩, ⟨s, hR, hRI⟩, hAI, h143, hs0⟩ := id hI
  have hA := hAI.1
  have hFN := hAI.2.1
  have hMM := hAI.2.2.1
  have hU := hAI.2.2.2.1
  have hZ2 := hAI.2.2.2.2.2.1
  have hZ := hAI.2.2.2.2.2.2.1
  have hB := hA.1
  have hKb := hA.2.1
  have hbb := hA.2.2.2.1
  have hsg := nPt_lt hA.2.2.2.2.2.1
  have hK31 := hAI.kb
  have hM1 : ∀ D m, A.mcs D = some m → m.1 < A.pgs.length := fun D m hm => (hMM D m hm).1
  have hmd : ∀ D m, A.mcs D = some m → m.2.2.2.2.2.2.2.1 ≤ 2 := fun D m hm => (hMM D m hm).2.2.2.2.2.1.2
  refine z_aload 920 rfl rfl rfl ?_
  refine z_aload 921 rfl rfl rfl ?_
  refine z_iload 922 rfl rfl rfl ?_
  refine z_push 923 (nI 1) rfl rfl rfl ?_
  refine z_bop 924 _ rfl rfl (by first | with_reducible exact zb_0 _ _ | exact zd_0 _ _) ?_
  refine z_sld 925 rfl rfl (by first | exact hs0 | exact hC.1 | exact hs1 | exact hR1.1 | fail "lk") rfl (by omega) (by omega) ?_
  refine z_aload 926 rfl rfl rfl ?_
  refine z_iload 927 rfl rfl rfl ?_
  refine z_push 928 (nI 2) rfl rfl rfl ?_
  refine z_bop 929 _ rfl rfl (by first | with_reducible exact zb_0 _ _ | exact zd_0 _ _) ?_
  refine z_sld 930 rfl rfl (by first | exact hs0 | exact hC.1 | exact hs1 | exact hR1.1 | fail "lk") rfl (by omega) (by omega) ?_
  refine z_cv2 933 rfl rfl (by first | exact hs0 | exact hC.1 | exact hs1 | exact hR1.1 | fail "lk") rfl (by omega) (by omega) ?_
  refine c_feed hC hA hFN hMM (fun h1 hC1 hK1 => ?_)
  have hR1 := hR.kx hK1
  have hs1 := (hK1.1 0 (Or.inl rfl)).trans hs0
  refine z_aload 934 rfl rfl rfl ?_
  refine z_aload 935 rfl rfl rfl ?_
  refine z_iload 936 rfl rfl rfl ?_
  refine z_push 937 (nI 1) rfl rfl rfl ?_
  refine z_bop 938 _ rfl rfl (by first | with_reducible exact zb_0 _ _ | exact zd_0 _ _) ?_
  refine z_sld 939 rfl rfl (by first | exact hs0 | exact hC.1 | exact hs1 | exact hR1.1 | fail "lk") rfl (by omega) (by omega) ?_
  refine z_aload 940 rfl rfl rfl ?_
  refine z_iload 941 rfl rfl rfl ?_
  refine z_push 942 (nI 2) rfl rfl rfl ?_
  refine z_bop 943 _ rfl rfl (by first | with_reducible exact zb_0 _ _ | exact zd_0 _ _) ?_
  refine z_sld 944 rfl rfl (by first | exact hs0 | exact hC.1 | exact hs1 | exact hR1.1 | fail "lk") rfl (by omega) (by omega) ?_
  refine z_cv2 947 rfl rfl (by first | exact hs0 | exact hC.1 | exact hs1 | exact hR1.1 | fail "lk") rfl (by omega) (by omega) ?_
  refine r_feed hR1 hRI hA hFN hMM (fun h2 s2 hR2 hI2 => ?_)
  refine z_ceq 950 rfl rfl (fun _ => ?_) (fun h9 => absurd rfl h9)
  exact ih h2 _ _ _ (hI.step hC1 hK1 hR2 hI2 (I_feed hAI)) (by omega) (by omega)
set_option maxRecDepth 100000 in
theorem lw_end {Ls i nc ns : Nat} {xs : Nat → Int32} {h : mH} {A : Ab} {Q : mP} (hI : LI Ls xs h A) (hi : i + 6 ≤ Ls) (hLs : Ls ≤ 3072) (hnc : nc + 20 ≤ 600000) (hns : ns + 1863 ≤ 7302250) (ih : ∀ h' A' nc' ns', LI Ls xs h' A' → nc' ≤ nc + 20 → ns' ≤ ns + 1863 → mZ 80 tk_262 600000 7302250 Q 1278 [some (.ref 0), some (.ref 1), some (.ref 96), some (.int (nI i))] [] h' nc' ns') : mZ 80 tk_262 600000 7302250 Q 952 [some (.ref 0), some (.ref 1), some (.ref 96), some (.int (nI i))] [] h nc ns := by
  obtain ⟨⟨pad, sp, res, wrk, hC⟩, ⟨s, hR, hRI⟩, hAI, h143, hs0⟩ := id hI
  have hA := hAI.1
  have hFN := hAI.2.1
  have hMM := hAI.2.2.1
  have hU := hAI.2.2.2.1
  have hZ2 := hAI.2.2.2.2.2.1
  have hZ := hAI.2.2.2.2.2.2.1
  have hB := hA.1
  have hKb := hA.2.1
  have hbb := hA.2.2.2.1
  have hsg := nPt_lt hA.2.2.2.2.2.1
  have hK31 := hAI.kb
  have hM1 : ∀ D m, A.mcs D = some m → m.1 < A.pgs.length := fun D m hm => (hMM D m hm).1
  have hmd : ∀ D m, A.mcs D = some m → m.2.2.2.2.2.2.2.1 ≤ 2 := fun D m hm => (hMM D m hm).2.2.2.2.2.1.2
  refine z_aload 953 rfl rfl rfl ?_
  refine z_aload 954 rfl rfl rfl ?_
  refine z_iload 955 rfl rfl rfl ?_
  refine z_push 956 (nI 1) rfl rfl rfl ?_
  refine z_bop 957 _ rfl rfl (by first | with_reducible exact zb_0 _ _ | exact zd_0 _ _) ?_
  refine z_sld 958 rfl rfl (by first | exact hs0 | exact hC.1 | exact hs1 | exact hR1.1 | fail "lk") rfl (by omega) (by omega) ?_
  refine z_cv1 961 rfl rfl (by first | exact hs0 | exact hC.1 | exact hs1 | exact hR1.1 | fail "lk") rfl (by omega) (by omega) ?_
  refine c_end hC hA hFN hMM (fun h1 hC1 hK1 => ?_)
  have hR1 := hR.kx hK1
  have hs1 := (hK1.1 0 (Or.inl rfl)).trans hs0
  refine z_aload 962 rfl rfl rfl ?_
  refine z_aload 963 rfl rfl rfl ?_
  refine z_iload 964 rfl rfl rfl ?_
  refine z_push 965 (nI 1) rfl rfl rfl ?_
  refine z_bop 966 _ rfl rfl (by first | with_reducible exact zb_0 _ _ | exact zd_0 _ _) ?_
  refine z_sld 967 rfl rfl (by first | exact hs0 | exact hC.1 | exact hs1 | exact hR1.1 | fail "lk") rfl (by omega) (by omega) ?_
  refine z_cv1 970 rfl rfl (by first | exact hs0 | exact hC.1 | exact hs1 | exact hR1.1 | fail "lk") rfl (by omega) (by omega) ?_
  refine r_end hR1 hRI hA hFN hMM (fun h2 s2 hR2 hI2 => ?_)
  refine z_ceq 973 rfl rfl (fun _ => ?_) (fun h9 => absurd rfl h9)
  exact ih h2 _ _ _ (hI.step hC1 hK1 hR2 hI2 (I_end hAI)) (by omega) (by omega)
set_option maxRecDepth 100000 in
theorem lw_take {Ls i nc ns : Nat} {xs : Nat → Int32} {h : mH} {A : Ab} {Q : mP} (hI : LI Ls xs h A) (hi : i + 6 ≤ Ls) (hLs : Ls ≤ 3072) (hnc : nc + 20 ≤ 600000) (hns : ns + 1863 ≤ 7302250) (ih : ∀ h' A' nc' ns', LI Ls xs h' A' → nc' ≤ nc + 20 → ns' ≤ ns + 1863 → mZ 80 tk_262 600000 7302250 Q 1278 [some (.ref 0), some (.ref 1), some (.ref 96), some (.int (nI i))] [] h' nc' ns') : mZ 80 tk_262 600000 7302250 Q 975 [some (.ref 0), some (.ref 1), some (.ref 96), some (.int (nI i))] [] h nc ns := by
  obtain ⟨⟨pad, sp, res, wrk, hC⟩, ⟨s, hR, hRI⟩, hAI, h143, hs0⟩ := id hI
  have hA := hAI.1
  have hFN := hAI.2.1
  have hMM := hAI.2.2.1
  have hU := hAI.2.2.2.1
  have hZ2 := hAI.2.2.2.2.2.1
  have hZ := hAI.2.2.2.2.2.2.1
  have hB := hA.1
  have hKb := hA.2.1
  have hbb := hA.2.2.2.1
  have hsg := nPt_lt hA.2.2.2.2.2.1
  have hK31 := hAI.kb
  have hM1 : ∀ D m, A.mcs D = some m → m.1 < A.pgs.length := fun D m hm => (hMM D m hm).1
  have hmd : ∀ D m, A.mcs D = some m → m.2.2.2.2.2.2.2.1 ≤ 2 := fun D m hm => (hMM D m hm).2.2.2.2.2.1.2
  refine z_aload 976 rfl rfl rfl ?_
  refine z_aload 977 rfl rfl rfl ?_
  refine z_iload 978 rfl rfl rfl ?_
  refine z_push 979 (nI 1) rfl rfl rfl ?_
  refine z_bop 980 _ rfl rfl (by first | with_reducible exact zb_0 _ _ | exact zd_0 _ _) ?_
  refine z_sld 981 rfl rfl (by first | exact hs0 | exact hC.1 | exact hs1 | exact hR1.1 | fail "lk") rfl (by omega) (by omega) ?_
  refine z_cv1 984 rfl rfl (by first | exact hs0 | exact hC.1 | exact hs1 | exact hR1.1 | fail "lk") rfl (by omega) (by omega) ?_
  refine c_take hC  (fun h1 hC1 hK1 => ?_)
  have hR1 := hR.kx hK1
  have hs1 := (hK1.1 0 (Or.inl rfl)).trans hs0
  refine z_aload 985 rfl rfl rfl ?_
  refine z_aload 986 rfl rfl rfl ?_
  refine z_iload 987 rfl rfl rfl ?_
  refine z_push 988 (nI 1) rfl rfl rfl ?_
  refine z_bop 989 _ rfl rfl (by first | with_reducible exact zb_0 _ _ | exact zd_0 _ _) ?_
  refine z_sld 990 rfl rfl (by first | exact hs0 | exact hC.1 | exact hs1 | exact hR1.1 | fail "lk") rfl (by omega) (by omega) ?_
  refine z_cv1 993 rfl rfl (by first | exact hs0 | exact hC.1 | exact hs1 | exact hR1.1 | fail "lk") rfl (by omega) (by omega) ?_
  refine r_take hR1 hRI hMM.B (fun h2 s2 hR2 hI2 => ?_)
  refine z_ceq 996 rfl rfl (fun _ => ?_) (fun h9 => absurd rfl h9)
  exact ih h2 _ _ _ (hI.step hC1 hK1 hR2 hI2 (I_take hAI)) (by omega) (by omega)
set_option maxRecDepth 100000 in
theorem lw_machine {Ls i nc ns : Nat} {xs : Nat → Int32} {h : mH} {A : Ab} {Q : mP} (hI : LI Ls xs h A) (hi : i + 6 ≤ Ls) (hLs : Ls ≤ 3072) (hnc : nc + 20 ≤ 600000) (hns : ns + 1863 ≤ 7302250) (ih : ∀ h' A' nc' ns', LI Ls xs h' A' → nc' ≤ nc + 20 → ns' ≤ ns + 1863 → mZ 80 tk_262 600000 7302250 Q 1278 [some (.ref 0), some (.ref 1), some (.ref 96), some (.int (nI i))] [] h' nc' ns') : mZ 80 tk_262 600000 7302250 Q 998 [some (.ref 0), some (.ref 1), some (.ref 96), some (.int (nI i))] [] h nc ns := by
  obtain ⟨⟨pad, sp, res, wrk, hC⟩, ⟨s, hR, hRI⟩, hAI, h143, hs0⟩ := id hI
  have hA := hAI.1
  have hFN := hAI.2.1
  have hMM := hAI.2.2.1
  have hU := hAI.2.2.2.1
  have hZ2 := hAI.2.2.2.2.2.1
  have hZ := hAI.2.2.2.2.2.2.1
  have hB := hA.1
  have hKb := hA.2.1
  have hbb := hA.2.2.2.1
  have hsg := nPt_lt hA.2.2.2.2.2.1
  have hK31 := hAI.kb
  have hM1 : ∀ D m, A.mcs D = some m → m.1 < A.pgs.length := fun D m hm => (hMM D m hm).1
  have hmd : ∀ D m, A.mcs D = some m → m.2.2.2.2.2.2.2.1 ≤ 2 := fun D m hm => (hMM D m hm).2.2.2.2.2.1.2
  refine z_aload 999 rfl rfl rfl ?_
  refine z_aload 1000 rfl rfl rfl ?_
  refine z_iload 1001 rfl rfl rfl ?_
  refine z_push 1002 (nI 1) rfl rfl rfl ?_
  refine z_bop 1003 _ rfl rfl (by first | with_reducible exact zb_0 _ _ | exact zd_0 _ _) ?_
  refine z_sld 1004 rfl rfl (by first | exact hs0 | exact hC.1 | exact hs1 | exact hR1.1 | fail "lk") rfl (by omega) (by omega) ?_
  refine z_aload 1005 rfl rfl rfl ?_
  refine z_iload 1006 rfl rfl rfl ?_
  refine z_push 1007 (nI 2) rfl rfl rfl ?_
  refine z_bop 1008 _ rfl rfl (by first | with_reducible exact zb_0 _ _ | exact zd_0 _ _) ?_
  refine z_sld 1009 rfl rfl (by first | exact hs0 | exact hC.1 | exact hs1 | exact hR1.1 | fail "lk") rfl (by omega) (by omega) ?_
  refine z_cv2 1012 rfl rfl (by first | exact hs0 | exact hC.1 | exact hs1 | exact hR1.1 | fail "lk") rfl (by omega) (by omega) ?_
  refine c_machine hC hmd (fun h1 hC1 hK1 => ?_)
  have hR1 := hR.kx hK1
  have hs1 := (hK1.1 0 (Or.inl rfl)).trans hs0
  refine z_aload 1013 rfl rfl rfl ?_
  refine z_aload 1014 rfl rfl rfl ?_
  refine z_iload 1015 rfl rfl rfl ?_
  refine z_push 1016 (nI 1) rfl rfl rfl ?_
  refine z_bop 1017 _ rfl rfl (by first | with_reducible exact zb_0 _ _ | exact zd_0 _ _) ?_
  refine z_sld 1018 rfl rfl (by first | exact hs0 | exact hC.1 | exact hs1 | exact hR1.1 | fail "lk") rfl (by omega) (by omega) ?_
  refine z_aload 1019 rfl rfl rfl ?_
  refine z_iload 1020 rfl rfl rfl ?_
  refine z_push 1021 (nI 2) rfl rfl rfl ?_
  refine z_bop 1022 _ rfl rfl (by first | with_reducible exact zb_0 _ _ | exact zd_0 _ _) ?_
  refine z_sld 1023 rfl rfl (by first | exact hs0 | exact hC.1 | exact hs1 | exact hR1.1 | fail "lk") rfl (by omega) (by omega) ?_
  refine z_cv2 1026 rfl rfl (by first | exact hs0 | exact hC.1 | exact hs1 | exact hR1.1 | fail "lk") rfl (by omega) (by omega) ?_
  refine r_machine hR1 hRI  (fun h2 s2 hR2 hI2 => ?_)
  refine z_ceq 1029 rfl rfl (fun _ => ?_) (fun h9 => absurd rfl h9)
  exact ih h2 _ _ _ (hI.step hC1 hK1 hR2 hI2 (I_machine hAI)) (by omega) (by omega)
set_option maxRecDepth 100000 in
theorem lw_coverage {Ls i nc ns : Nat} {xs : Nat → Int32} {h : mH} {A : Ab} {Q : mP} (hI : LI Ls xs h A) (hi : i + 6 ≤ Ls) (hLs : Ls ≤ 3072) (hnc : nc + 20 ≤ 600000) (hns : ns + 1863 ≤ 7302250) (ih : ∀ h' A' nc' ns', LI Ls xs h' A' → nc' ≤ nc + 20 → ns' ≤ ns + 1863 → mZ 80 tk_262 600000 7302250 Q 1278 [some (.ref 0), some (.ref 1), some (.ref 96), some (.int (nI i))] [] h' nc' ns') : mZ 80 tk_262 600000 7302250 Q 1031 [some (.ref 0), some (.ref 1), some (.ref 96), some (.int (nI i))] [] h nc ns := by
  obtain ⟨⟨pad, sp, res, wrk, hC⟩, ⟨s, hR, hRI⟩, hAI, h143, hs0⟩ := id hI
  have hA := hAI.1
  have hFN := hAI.2.1
  have hMM := hAI.2.2.1
  have hU := hAI.2.2.2.1
  have hZ2 := hAI.2.2.2.2.2.1
  have hZ := hAI.2.2.2.2.2.2.1
  have hB := hA.1
  have hKb := hA.2.1
  have hbb := hA.2.2.2.1
  have hsg := nPt_lt hA.2.2.2.2.2.1
  have hK31 := hAI.kb
  have hM1 : ∀ D m, A.mcs D = some m → m.1 < A.pgs.length := fun D m hm => (hMM D m hm).1
  have hmd : ∀ D m, A.mcs D = some m → m.2.2.2.2.2.2.2.1 ≤ 2 := fun D m hm => (hMM D m hm).2.2.2.2.2.1.2
  refine z_aload 1032 rfl rfl rfl ?_
  refine z_aload 1033 rfl rfl rfl ?_
  refine z_iload 1034 rfl rfl rfl ?_
  refine z_push 1035 (nI 1) rfl rfl rfl ?_
  refine z_bop 1036 _ rfl rfl (by first | with_reducible exact zb_0 _ _ | exact zd_0 _ _) ?_
  refine z_sld 1037 rfl rfl (by first | exact hs0 | exact hC.1 | exact hs1 | exact hR1.1 | fail "lk") rfl (by omega) (by omega) ?_
  refine z_aload 1038 rfl rfl rfl ?_
  refine z_iload 1039 rfl rfl rfl ?_
  refine z_push 1040 (nI 2) rfl rfl rfl ?_
  refine z_bop 1041 _ rfl rfl (by first | with_reducible exact zb_0 _ _ | exact zd_0 _ _) ?_
  refine z_sld 1042 rfl rfl (by first | exact hs0 | exact hC.1 | exact hs1 | exact hR1.1 | fail "lk") rfl (by omega) (by omega) ?_
  refine z_aload 1043 rfl rfl rfl ?_
  refine z_iload 1044 rfl rfl rfl ?_
  refine z_push 1045 (nI 3) rfl rfl rfl ?_
  refine z_bop 1046 _ rfl rfl (by first | with_reducible exact zb_0 _ _ | exact zd_0 _ _) ?_
  refine z_sld 1047 rfl rfl (by first | exact hs0 | exact hC.1 | exact hs1 | exact hR1.1 | fail "lk") rfl (by omega) (by omega) ?_
  refine z_cv3 1050 rfl rfl (by first | exact hs0 | exact hC.1 | exact hs1 | exact hR1.1 | fail "lk") rfl (by omega) (by omega) ?_
  refine c_coverage hC hB (fun h1 hC1 hK1 => ?_)
  have hR1 := hR.kx hK1
  have hs1 := (hK1.1 0 (Or.inl rfl)).trans hs0
  refine z_aload 1051 rfl rfl rfl ?_
  refine z_aload 1052 rfl rfl rfl ?_
  refine z_iload 1053 rfl rfl rfl ?_
  refine z_push 1054 (nI 1) rfl rfl rfl ?_
  refine z_bop 1055 _ rfl rfl (by first | with_reducible exact zb_0 _ _ | exact zd_0 _ _) ?_
  refine z_sld 1056 rfl rfl (by first | exact hs0 | exact hC.1 | exact hs1 | exact hR1.1 | fail "lk") rfl (by omega) (by omega) ?_
  refine z_aload 1057 rfl rfl rfl ?_
  refine z_iload 1058 rfl rfl rfl ?_
  refine z_push 1059 (nI 2) rfl rfl rfl ?_
  refine z_bop 1060 _ rfl rfl (by first | with_reducible exact zb_0 _ _ | exact zd_0 _ _) ?_
  refine z_sld 1061 rfl rfl (by first | exact hs0 | exact hC.1 | exact hs1 | exact hR1.1 | fail "lk") rfl (by omega) (by omega) ?_
  refine z_aload 1062 rfl rfl rfl ?_
  refine z_iload 1063 rfl rfl rfl ?_
  refine z_push 1064 (nI 3) rfl rfl rfl ?_
  refine z_bop 1065 _ rfl rfl (by first | with_reducible exact zb_0 _ _ | exact zd_0 _ _) ?_
  refine z_sld 1066 rfl rfl (by first | exact hs0 | exact hC.1 | exact hs1 | exact hR1.1 | fail "lk") rfl (by omega) (by omega) ?_
  refine z_cv3 1069 rfl rfl (by first | exact hs0 | exact hC.1 | exact hs1 | exact hR1.1 | fail "lk") rfl (by omega) (by omega) ?_
  refine r_coverage hR1 hRI hA (fun h2 s2 hR2 hI2 => ?_)
  refine z_ceq 1072 rfl rfl (fun _ => ?_) (fun h9 => absurd rfl h9)
  exact ih h2 _ _ _ (hI.step hC1 hK1 hR2 hI2 (I_coverage hAI)) (by omega) (by omega)
set_option maxRecDepth 100000 in
theorem lw_differ {Ls i nc ns : Nat} {xs : Nat → Int32} {h : mH} {A : Ab} {Q : mP} (hI : LI Ls xs h A) (hi : i + 6 ≤ Ls) (hLs : Ls ≤ 3072) (hnc : nc + 20 ≤ 600000) (hns : ns + 1863 ≤ 7302250) (ih : ∀ h' A' nc' ns', LI Ls xs h' A' → nc' ≤ nc + 20 → ns' ≤ ns + 1863 → mZ 80 tk_262 600000 7302250 Q 1278 [some (.ref 0), some (.ref 1), some (.ref 96), some (.int (nI i))] [] h' nc' ns') : mZ 80 tk_262 600000 7302250 Q 1074 [some (.ref 0), some (.ref 1), some (.ref 96), some (.int (nI i))] [] h nc ns := by
  obtain ⟨⟨pad, sp, res, wrk, hC⟩, ⟨s, hR, hRI⟩, hAI, h143, hs0⟩ := id hI
  have hA := hAI.1
  have hFN := hAI.2.1
  have hMM := hAI.2.2.1
  have hU := hAI.2.2.2.1
  have hZ2 := hAI.2.2.2.2.2.1
  have hZ := hAI.2.2.2.2.2.2.1
  have hB := hA.1
  have hKb := hA.2.1
  have hbb := hA.2.2.2.1
  have hsg := nPt_lt hA.2.2.2.2.2.1
  have hK31 := hAI.kb
  have hM1 : ∀ D m, A.mcs D = some m → m.1 < A.pgs.length := fun D m hm => (hMM D m hm).1
  have hmd : ∀ D m, A.mcs D = some m → m.2.2.2.2.2.2.2.1 ≤ 2 := fun D m hm => (hMM D m hm).2.2.2.2.2.1.2
  refine z_aload 1075 rfl rfl rfl ?_
  refine z_aload 1076 rfl rfl rfl ?_
  refine z_iload 1077 rfl rfl rfl ?_
  refine z_push 1078 (nI 1) rfl rfl rfl ?_
  refine z_bop 1079 _ rfl rfl (by first | with_reducible exact zb_0 _ _ | exact zd_0 _ _) ?_
  refine z_sld 1080 rfl rfl (by first | exact hs0 | exact hC.1 | exact hs1 | exact hR1.1 | fail "lk") rfl (by omega) (by omega) ?_
  refine z_aload 1081 rfl rfl rfl ?_
  refine z_iload 1082 rfl rfl rfl ?_
  refine z_push 1083 (nI 2) rfl rfl rfl ?_
  refine z_bop 1084 _ rfl rfl (by first | with_reducible exact zb_0 _ _ | exact zd_0 _ _) ?_
  refine z_sld 1085 rfl rfl (by first | exact hs0 | exact hC.1 | exact hs1 | exact hR1.1 | fail "lk") rfl (by omega) (by omega) ?_
  refine z_aload 1086 rfl rfl rfl ?_
  refine z_iload 1087 rfl rfl rfl ?_
  refine z_push 1088 (nI 3) rfl rfl rfl ?_
  refine z_bop 1089 _ rfl rfl (by first | with_reducible exact zb_0 _ _ | exact zd_0 _ _) ?_
  refine z_sld 1090 rfl rfl (by first | exact hs0 | exact hC.1 | exact hs1 | exact hR1.1 | fail "lk") rfl (by omega) (by omega) ?_
  refine z_cv3 1093 rfl rfl (by first | exact hs0 | exact hC.1 | exact hs1 | exact hR1.1 | fail "lk") rfl (by omega) (by omega) ?_
  refine c_differ hC hA hFN (fun h1 hC1 hK1 => ?_)
  have hR1 := hR.kx hK1
  have hs1 := (hK1.1 0 (Or.inl rfl)).trans hs0
  refine z_aload 1094 rfl rfl rfl ?_
  refine z_aload 1095 rfl rfl rfl ?_
  refine z_iload 1096 rfl rfl rfl ?_
  refine z_push 1097 (nI 1) rfl rfl rfl ?_
  refine z_bop 1098 _ rfl rfl (by first | with_reducible exact zb_0 _ _ | exact zd_0 _ _) ?_
  refine z_sld 1099 rfl rfl (by first | exact hs0 | exact hC.1 | exact hs1 | exact hR1.1 | fail "lk") rfl (by omega) (by omega) ?_
  refine z_aload 1100 rfl rfl rfl ?_
  refine z_iload 1101 rfl rfl rfl ?_
  refine z_push 1102 (nI 2) rfl rfl rfl ?_
  refine z_bop 1103 _ rfl rfl (by first | with_reducible exact zb_0 _ _ | exact zd_0 _ _) ?_
  refine z_sld 1104 rfl rfl (by first | exact hs0 | exact hC.1 | exact hs1 | exact hR1.1 | fail "lk") rfl (by omega) (by omega) ?_
  refine z_aload 1105 rfl rfl rfl ?_
  refine z_iload 1106 rfl rfl rfl ?_
  refine z_push 1107 (nI 3) rfl rfl rfl ?_
  refine z_bop 1108 _ rfl rfl (by first | with_reducible exact zb_0 _ _ | exact zd_0 _ _) ?_
  refine z_sld 1109 rfl rfl (by first | exact hs0 | exact hC.1 | exact hs1 | exact hR1.1 | fail "lk") rfl (by omega) (by omega) ?_
  refine z_cv3 1112 rfl rfl (by first | exact hs0 | exact hC.1 | exact hs1 | exact hR1.1 | fail "lk") rfl (by omega) (by omega) ?_
  refine r_differ hR1 hRI hA (fun h2 s2 hR2 hI2 => ?_)
  refine z_ceq 1115 rfl rfl (fun _ => ?_) (fun h9 => absurd rfl h9)
  exact ih h2 _ _ _ (hI.step hC1 hK1 hR2 hI2 (I_differ hAI)) (by omega) (by omega)
set_option maxRecDepth 100000 in
theorem lw_misread {Ls i nc ns : Nat} {xs : Nat → Int32} {h : mH} {A : Ab} {Q : mP} (hI : LI Ls xs h A) (hi : i + 6 ≤ Ls) (hLs : Ls ≤ 3072) (hnc : nc + 20 ≤ 600000) (hns : ns + 1863 ≤ 7302250) (ih : ∀ h' A' nc' ns', LI Ls xs h' A' → nc' ≤ nc + 20 → ns' ≤ ns + 1863 → mZ 80 tk_262 600000 7302250 Q 1278 [some (.ref 0), some (.ref 1), some (.ref 96), some (.int (nI i))] [] h' nc' ns') : mZ 80 tk_262 600000 7302250 Q 1117 [some (.ref 0), some (.ref 1), some (.ref 96), some (.int (nI i))] [] h nc ns := by
  obtain ⟨⟨pad, sp, res, wrk, hC⟩, ⟨s, hR, hRI⟩, hAI, h143, hs0⟩ := id hI
  have hA := hAI.1
  have hFN := hAI.2.1
  have hMM := hAI.2.2.1
  have hU := hAI.2.2.2.1
  have hZ2 := hAI.2.2.2.2.2.1
  have hZ := hAI.2.2.2.2.2.2.1
  have hB := hA.1
  have hKb := hA.2.1
  have hbb := hA.2.2.2.1
  have hsg := nPt_lt hA.2.2.2.2.2.1
  have hK31 := hAI.kb
  have hM1 : ∀ D m, A.mcs D = some m → m.1 < A.pgs.length := fun D m hm => (hMM D m hm).1
  have hmd : ∀ D m, A.mcs D = some m → m.2.2.2.2.2.2.2.1 ≤ 2 := fun D m hm => (hMM D m hm).2.2.2.2.2.1.2
  refine z_aload 1118 rfl rfl rfl ?_
  refine z_aload 1119 rfl rfl rfl ?_
  refine z_iload 1120 rfl rfl rfl ?_
  refine z_push 1121 (nI 1) rfl rfl rfl ?_
  refine z_bop 1122 _ rfl rfl (by first | with_reducible exact zb_0 _ _ | exact zd_0 _ _) ?_
  refine z_sld 1123 rfl rfl (by first | exact hs0 | exact hC.1 | exact hs1 | exact hR1.1 | fail "lk") rfl (by omega) (by omega) ?_
  refine z_aload 1124 rfl rfl rfl ?_
  refine z_iload 1125 rfl rfl rfl ?_
  refine z_push 1126 (nI 2) rfl rfl rfl ?_
  refine z_bop 1127 _ rfl rfl (by first | with_reducible exact zb_0 _ _ | exact zd_0 _ _) ?_
  refine z_sld 1128 rfl rfl (by first | exact hs0 | exact hC.1 | exact hs1 | exact hR1.1 | fail "lk") rfl (by omega) (by omega) ?_
  refine z_cv2 1131 rfl rfl (by first | exact hs0 | exact hC.1 | exact hs1 | exact hR1.1 | fail "lk") rfl (by omega) (by omega) ?_
  refine c_misread hC hA (fun h1 hC1 hK1 => ?_)
  have hR1 := hR.kx hK1
  have hs1 := (hK1.1 0 (Or.inl rfl)).trans hs0
  refine z_aload 1132 rfl rfl rfl ?_
  refine z_aload 1133 rfl rfl rfl ?_
  refine z_iload 1134 rfl rfl rfl ?_
  refine z_push 1135 (nI 1) rfl rfl rfl ?_
  refine z_bop 1136 _ rfl rfl (by first | with_reducible exact zb_0 _ _ | exact zd_0 _ _) ?_
  refine z_sld 1137 rfl rfl (by first | exact hs0 | exact hC.1 | exact hs1 | exact hR1.1 | fail "lk") rfl (by omega) (by omega) ?_
  refine z_aload 1138 rfl rfl rfl ?_
  refine z_iload 1139 rfl rfl rfl ?_
  refine z_push 1140 (nI 2) rfl rfl rfl ?_
  refine z_bop 1141 _ rfl rfl (by first | with_reducible exact zb_0 _ _ | exact zd_0 _ _) ?_
  refine z_sld 1142 rfl rfl (by first | exact hs0 | exact hC.1 | exact hs1 | exact hR1.1 | fail "lk") rfl (by omega) (by omega) ?_
  refine z_cv2 1145 rfl rfl (by first | exact hs0 | exact hC.1 | exact hs1 | exact hR1.1 | fail "lk") rfl (by omega) (by omega) ?_
  refine r_misread hR1 hRI hB hKb hbb hsg (fun h2 s2 hR2 hI2 => ?_)
  refine z_ceq 1148 rfl rfl (fun _ => ?_) (fun h9 => absurd rfl h9)
  exact ih h2 _ _ _ (hI.step hC1 hK1 hR2 hI2 (I_misread hAI)) (by omega) (by omega)
set_option maxRecDepth 100000 in
theorem lw_faults {Ls i nc ns : Nat} {xs : Nat → Int32} {h : mH} {A : Ab} {Q : mP} (hI : LI Ls xs h A) (hi : i + 6 ≤ Ls) (hLs : Ls ≤ 3072) (hnc : nc + 20 ≤ 600000) (hns : ns + 1863 ≤ 7302250) (ih : ∀ h' A' nc' ns', LI Ls xs h' A' → nc' ≤ nc + 20 → ns' ≤ ns + 1863 → mZ 80 tk_262 600000 7302250 Q 1278 [some (.ref 0), some (.ref 1), some (.ref 96), some (.int (nI i))] [] h' nc' ns') : mZ 80 tk_262 600000 7302250 Q 1150 [some (.ref 0), some (.ref 1), some (.ref 96), some (.int (nI i))] [] h nc ns := by
  obtain ⟨⟨pad, sp, res, wrk, hC⟩, ⟨s, hR, hRI⟩, hAI, h143, hs0⟩ := id hI
  have hA := hAI.1
  have hFN := hAI.2.1
  have hMM := hAI.2.2.1
  have hU := hAI.2.2.2.1
  have hZ2 := hAI.2.2.2.2.2.1
  have hZ := hAI.2.2.2.2.2.2.1
  have hB := hA.1
  have hKb := hA.2.1
  have hbb := hA.2.2.2.1
  have hsg := nPt_lt hA.2.2.2.2.2.1
  have hK31 := hAI.kb
  have hM1 : ∀ D m, A.mcs D = some m → m.1 < A.pgs.length := fun D m hm => (hMM D m hm).1
  have hmd : ∀ D m, A.mcs D = some m → m.2.2.2.2.2.2.2.1 ≤ 2 := fun D m hm => (hMM D m hm).2.2.2.2.2.1.2
  refine z_aload 1151 rfl rfl rfl ?_
  refine z_aload 1152 rfl rfl rfl ?_
  refine z_iload 1153 rfl rfl rfl ?_
  refine z_push 1154 (nI 1) rfl rfl rfl ?_
  refine z_bop 1155 _ rfl rfl (by first | with_reducible exact zb_0 _ _ | exact zd_0 _ _) ?_
  refine z_sld 1156 rfl rfl (by first | exact hs0 | exact hC.1 | exact hs1 | exact hR1.1 | fail "lk") rfl (by omega) (by omega) ?_
  refine z_cv1 1159 rfl rfl (by first | exact hs0 | exact hC.1 | exact hs1 | exact hR1.1 | fail "lk") rfl (by omega) (by omega) ?_
  refine c_faults hC hA (fun h1 hC1 hK1 => ?_)
  have hR1 := hR.kx hK1
  have hs1 := (hK1.1 0 (Or.inl rfl)).trans hs0
  refine z_aload 1160 rfl rfl rfl ?_
  refine z_aload 1161 rfl rfl rfl ?_
  refine z_iload 1162 rfl rfl rfl ?_
  refine z_push 1163 (nI 1) rfl rfl rfl ?_
  refine z_bop 1164 _ rfl rfl (by first | with_reducible exact zb_0 _ _ | exact zd_0 _ _) ?_
  refine z_sld 1165 rfl rfl (by first | exact hs0 | exact hC.1 | exact hs1 | exact hR1.1 | fail "lk") rfl (by omega) (by omega) ?_
  refine z_cv1 1168 rfl rfl (by first | exact hs0 | exact hC.1 | exact hs1 | exact hR1.1 | fail "lk") rfl (by omega) (by omega) ?_
  refine r_faults hR1 hRI hB hKb hbb hsg (fun h2 s2 hR2 hI2 => ?_)
  refine z_ceq 1171 rfl rfl (fun _ => ?_) (fun h9 => absurd rfl h9)
  exact ih h2 _ _ _ (hI.step hC1 hK1 hR2 hI2 (I_faults hAI)) (by omega) (by omega)
set_option maxRecDepth 100000 in
theorem lw_detect {Ls i nc ns : Nat} {xs : Nat → Int32} {h : mH} {A : Ab} {Q : mP} (hI : LI Ls xs h A) (hi : i + 6 ≤ Ls) (hLs : Ls ≤ 3072) (hnc : nc + 20 ≤ 600000) (hns : ns + 1863 ≤ 7302250) (ih : ∀ h' A' nc' ns', LI Ls xs h' A' → nc' ≤ nc + 20 → ns' ≤ ns + 1863 → mZ 80 tk_262 600000 7302250 Q 1278 [some (.ref 0), some (.ref 1), some (.ref 96), some (.int (nI i))] [] h' nc' ns') : mZ 80 tk_262 600000 7302250 Q 1173 [some (.ref 0), some (.ref 1), some (.ref 96), some (.int (nI i))] [] h nc ns := by
  obtain ⟨⟨pad, sp, res, wrk, hC⟩, ⟨s, hR, hRI⟩, hAI, h143, hs0⟩ := id hI
  have hA := hAI.1
  have hFN := hAI.2.1
  have hMM := hAI.2.2.1
  have hU := hAI.2.2.2.1
  have hZ2 := hAI.2.2.2.2.2.1
  have hZ := hAI.2.2.2.2.2.2.1
  have hB := hA.1
  have hKb := hA.2.1
  have hbb := hA.2.2.2.1
  have hsg := nPt_lt hA.2.2.2.2.2.1
  have hK31 := hAI.kb
  have hM1 : ∀ D m, A.mcs D = some m → m.1 < A.pgs.length := fun D m hm => (hMM D m hm).1
  have hmd : ∀ D m, A.mcs D = some m → m.2.2.2.2.2.2.2.1 ≤ 2 := fun D m hm => (hMM D m hm).2.2.2.2.2.1.2
  refine z_aload 1174 rfl rfl rfl ?_
  refine z_cv0 1177 rfl rfl (by first | exact hs0 | exact hC.1 | exact hs1 | exact hR1.1 | fail "lk") rfl (by omega) (by omega) ?_
  refine c_detect hC hA (fun h1 hC1 hK1 => ?_)
  have hR1 := hR.kx hK1
  have hs1 := (hK1.1 0 (Or.inl rfl)).trans hs0
  refine z_aload 1178 rfl rfl rfl ?_
  refine z_cv0 1181 rfl rfl (by first | exact hs0 | exact hC.1 | exact hs1 | exact hR1.1 | fail "lk") rfl (by omega) (by omega) ?_
  refine r_detect hR1 hRI hB hKb hbb hsg (fun h2 s2 hR2 hI2 => ?_)
  refine z_ceq 1184 rfl rfl (fun _ => ?_) (fun h9 => absurd rfl h9)
  exact ih h2 _ _ _ (hI.step hC1 hK1 hR2 hI2 (I_detect hAI)) (by omega) (by omega)
set_option maxRecDepth 100000 in
theorem lw_lengths {Ls i nc ns : Nat} {xs : Nat → Int32} {h : mH} {A : Ab} {Q : mP} (hI : LI Ls xs h A) (hi : i + 6 ≤ Ls) (hLs : Ls ≤ 3072) (hnc : nc + 20 ≤ 600000) (hns : ns + 1863 ≤ 7302250) (ih : ∀ h' A' nc' ns', LI Ls xs h' A' → nc' ≤ nc + 20 → ns' ≤ ns + 1863 → mZ 80 tk_262 600000 7302250 Q 1278 [some (.ref 0), some (.ref 1), some (.ref 96), some (.int (nI i))] [] h' nc' ns') : mZ 80 tk_262 600000 7302250 Q 1186 [some (.ref 0), some (.ref 1), some (.ref 96), some (.int (nI i))] [] h nc ns := by
  obtain ⟨⟨pad, sp, res, wrk, hC⟩, ⟨s, hR, hRI⟩, hAI, h143, hs0⟩ := id hI
  have hA := hAI.1
  have hFN := hAI.2.1
  have hMM := hAI.2.2.1
  have hU := hAI.2.2.2.1
  have hZ2 := hAI.2.2.2.2.2.1
  have hZ := hAI.2.2.2.2.2.2.1
  have hB := hA.1
  have hKb := hA.2.1
  have hbb := hA.2.2.2.1
  have hsg := nPt_lt hA.2.2.2.2.2.1
  have hK31 := hAI.kb
  have hM1 : ∀ D m, A.mcs D = some m → m.1 < A.pgs.length := fun D m hm => (hMM D m hm).1
  have hmd : ∀ D m, A.mcs D = some m → m.2.2.2.2.2.2.2.1 ≤ 2 := fun D m hm => (hMM D m hm).2.2.2.2.2.1.2
  refine z_aload 1187 rfl rfl rfl ?_
  refine z_aload 1188 rfl rfl rfl ?_
  refine z_iload 1189 rfl rfl rfl ?_
  refine z_push 1190 (nI 1) rfl rfl rfl ?_
  refine z_bop 1191 _ rfl rfl (by first | with_reducible exact zb_0 _ _ | exact zd_0 _ _) ?_
  refine z_sld 1192 rfl rfl (by first | exact hs0 | exact hC.1 | exact hs1 | exact hR1.1 | fail "lk") rfl (by omega) (by omega) ?_
  refine z_aload 1193 rfl rfl rfl ?_
  refine z_iload 1194 rfl rfl rfl ?_
  refine z_push 1195 (nI 2) rfl rfl rfl ?_
  refine z_bop 1196 _ rfl rfl (by first | with_reducible exact zb_0 _ _ | exact zd_0 _ _) ?_
  refine z_sld 1197 rfl rfl (by first | exact hs0 | exact hC.1 | exact hs1 | exact hR1.1 | fail "lk") rfl (by omega) (by omega) ?_
  refine z_cv2 1200 rfl rfl (by first | exact hs0 | exact hC.1 | exact hs1 | exact hR1.1 | fail "lk") rfl (by omega) (by omega) ?_
  refine c_lengths hC hA hFN (fun h1 hC1 hK1 => ?_)
  have hR1 := hR.kx hK1
  have hs1 := (hK1.1 0 (Or.inl rfl)).trans hs0
  refine z_aload 1201 rfl rfl rfl ?_
  refine z_aload 1202 rfl rfl rfl ?_
  refine z_iload 1203 rfl rfl rfl ?_
  refine z_push 1204 (nI 1) rfl rfl rfl ?_
  refine z_bop 1205 _ rfl rfl (by first | with_reducible exact zb_0 _ _ | exact zd_0 _ _) ?_
  refine z_sld 1206 rfl rfl (by first | exact hs0 | exact hC.1 | exact hs1 | exact hR1.1 | fail "lk") rfl (by omega) (by omega) ?_
  refine z_aload 1207 rfl rfl rfl ?_
  refine z_iload 1208 rfl rfl rfl ?_
  refine z_push 1209 (nI 2) rfl rfl rfl ?_
  refine z_bop 1210 _ rfl rfl (by first | with_reducible exact zb_0 _ _ | exact zd_0 _ _) ?_
  refine z_sld 1211 rfl rfl (by first | exact hs0 | exact hC.1 | exact hs1 | exact hR1.1 | fail "lk") rfl (by omega) (by omega) ?_
  refine z_cv2 1214 rfl rfl (by first | exact hs0 | exact hC.1 | exact hs1 | exact hR1.1 | fail "lk") rfl (by omega) (by omega) ?_
  refine r_lengths hR1 hRI hA (fun h2 s2 hR2 hI2 => ?_)
  refine z_ceq 1217 rfl rfl (fun _ => ?_) (fun h9 => absurd rfl h9)
  exact ih h2 _ _ _ (hI.step hC1 hK1 hR2 hI2 (I_lengths hAI)) (by omega) (by omega)
set_option maxRecDepth 100000 in
theorem lw_send {Ls i nc ns : Nat} {xs : Nat → Int32} {h : mH} {A : Ab} {Q : mP} (hI : LI Ls xs h A) (hi : i + 6 ≤ Ls) (hLs : Ls ≤ 3072) (hnc : nc + 20 ≤ 600000) (hns : ns + 1863 ≤ 7302250) (ih : ∀ h' A' nc' ns', LI Ls xs h' A' → nc' ≤ nc + 20 → ns' ≤ ns + 1863 → mZ 80 tk_262 600000 7302250 Q 1278 [some (.ref 0), some (.ref 1), some (.ref 96), some (.int (nI i))] [] h' nc' ns') : mZ 80 tk_262 600000 7302250 Q 1219 [some (.ref 0), some (.ref 1), some (.ref 96), some (.int (nI i))] [] h nc ns := by
  obtain ⟨⟨pad, sp, res, wrk, hC⟩, ⟨s, hR, hRI⟩, hAI, h143, hs0⟩ := id hI
  have hA := hAI.1
  have hFN := hAI.2.1
  have hMM := hAI.2.2.1
  have hU := hAI.2.2.2.1
  have hZ2 := hAI.2.2.2.2.2.1
  have hZ := hAI.2.2.2.2.2.2.1
  have hB := hA.1
  have hKb := hA.2.1
  have hbb := hA.2.2.2.1
  have hsg := nPt_lt hA.2.2.2.2.2.1
  have hK31 := hAI.kb
  have hM1 : ∀ D m, A.mcs D = some m → m.1 < A.pgs.length := fun D m hm => (hMM D m hm).1
  have hmd : ∀ D m, A.mcs D = some m → m.2.2.2.2.2.2.2.1 ≤ 2 := fun D m hm => (hMM D m hm).2.2.2.2.2.1.2
  refine z_aload 1220 rfl rfl rfl ?_
  refine z_aload 1221 rfl rfl rfl ?_
  refine z_iload 1222 rfl rfl rfl ?_
  refine z_push 1223 (nI 1) rfl rfl rfl ?_
  refine z_bop 1224 _ rfl rfl (by first | with_reducible exact zb_0 _ _ | exact zd_0 _ _) ?_
  refine z_sld 1225 rfl rfl (by first | exact hs0 | exact hC.1 | exact hs1 | exact hR1.1 | fail "lk") rfl (by omega) (by omega) ?_
  refine z_cv1 1228 rfl rfl (by first | exact hs0 | exact hC.1 | exact hs1 | exact hR1.1 | fail "lk") rfl (by omega) (by omega) ?_
  refine c_send hC hA (fun h1 hC1 hK1 => ?_)
  have hR1 := hR.kx hK1
  have hs1 := (hK1.1 0 (Or.inl rfl)).trans hs0
  refine z_aload 1229 rfl rfl rfl ?_
  refine z_aload 1230 rfl rfl rfl ?_
  refine z_iload 1231 rfl rfl rfl ?_
  refine z_push 1232 (nI 1) rfl rfl rfl ?_
  refine z_bop 1233 _ rfl rfl (by first | with_reducible exact zb_0 _ _ | exact zd_0 _ _) ?_
  refine z_sld 1234 rfl rfl (by first | exact hs0 | exact hC.1 | exact hs1 | exact hR1.1 | fail "lk") rfl (by omega) (by omega) ?_
  refine z_cv1 1237 rfl rfl (by first | exact hs0 | exact hC.1 | exact hs1 | exact hR1.1 | fail "lk") rfl (by omega) (by omega) ?_
  refine r_send hR1 hRI hB hKb (fun h2 s2 hR2 hI2 => ?_)
  refine z_ceq 1240 rfl rfl (fun _ => ?_) (fun h9 => absurd rfl h9)
  exact ih h2 _ _ _ (hI.step hC1 hK1 hR2 hI2 (I_send hAI)) (by omega) (by omega)
set_option maxRecDepth 100000 in
theorem lw_receive {Ls i nc ns : Nat} {xs : Nat → Int32} {h : mH} {A : Ab} {Q : mP} (hI : LI Ls xs h A) (hi : i + 6 ≤ Ls) (hLs : Ls ≤ 3072) (hnc : nc + 20 ≤ 600000) (hns : ns + 1863 ≤ 7302250) (ih : ∀ h' A' nc' ns', LI Ls xs h' A' → nc' ≤ nc + 20 → ns' ≤ ns + 1863 → mZ 80 tk_262 600000 7302250 Q 1278 [some (.ref 0), some (.ref 1), some (.ref 96), some (.int (nI i))] [] h' nc' ns') : mZ 80 tk_262 600000 7302250 Q 1242 [some (.ref 0), some (.ref 1), some (.ref 96), some (.int (nI i))] [] h nc ns := by
  obtain ⟨⟨pad, sp, res, wrk, hC⟩, ⟨s, hR, hRI⟩, hAI, h143, hs0⟩ := id hI
  have hA := hAI.1
  have hFN := hAI.2.1
  have hMM := hAI.2.2.1
  have hU := hAI.2.2.2.1
  have hZ2 := hAI.2.2.2.2.2.1
  have hZ := hAI.2.2.2.2.2.2.1
  have hB := hA.1
  have hKb := hA.2.1
  have hbb := hA.2.2.2.1
  have hsg := nPt_lt hA.2.2.2.2.2.1
  have hK31 := hAI.kb
  have hM1 : ∀ D m, A.mcs D = some m → m.1 < A.pgs.length := fun D m hm => (hMM D m hm).1
  have hmd : ∀ D m, A.mcs D = some m → m.2.2.2.2.2.2.2.1 ≤ 2 := fun D m hm => (hMM D m hm).2.2.2.2.2.1.2
  refine z_aload 1243 rfl rfl rfl ?_
  refine z_cvb0 1246 rfl rfl (by first | exact hs0 | exact hC.1 | exact hs1 | exact hR1.1 | fail "lk") rfl (by omega) (by omega) ?_
  refine c_receive hC hA h143 hM1 (fun h1 hC1 hK1 => ?_)
  have hR1 := hR.kx hK1
  have hs1 := (hK1.1 0 (Or.inl rfl)).trans hs0
  refine z_aload 1247 rfl rfl rfl ?_
  refine z_cv0 1250 rfl rfl (by first | exact hs0 | exact hC.1 | exact hs1 | exact hR1.1 | fail "lk") rfl (by omega) (by omega) ?_
  refine r_receive hR1 hRI hA (fun h2 s2 hR2 hI2 => ?_)
  refine z_ceq 1253 rfl rfl (fun _ => ?_) (fun h9 => absurd rfl h9)
  exact ih h2 _ _ _ (hI.step hC1 hK1 hR2 hI2 (I_receive hAI)) (by omega) (by omega)
set_option maxRecDepth 100000 in
theorem lw_told {Ls i nc ns : Nat} {xs : Nat → Int32} {h : mH} {A : Ab} {Q : mP} (hI : LI Ls xs h A) (hi : i + 6 ≤ Ls) (hLs : Ls ≤ 3072) (hnc : nc + 20 ≤ 600000) (hns : ns + 1863 ≤ 7302250) (ih : ∀ h' A' nc' ns', LI Ls xs h' A' → nc' ≤ nc + 20 → ns' ≤ ns + 1863 → mZ 80 tk_262 600000 7302250 Q 1278 [some (.ref 0), some (.ref 1), some (.ref 96), some (.int (nI i))] [] h' nc' ns') : mZ 80 tk_262 600000 7302250 Q 1255 [some (.ref 0), some (.ref 1), some (.ref 96), some (.int (nI i))] [] h nc ns := by
  obtain ⟨⟨pad, sp, res, wrk, hC⟩, ⟨s, hR, hRI⟩, hAI, h143, hs0⟩ := id hI
  have hA := hAI.1
  have hFN := hAI.2.1
  have hMM := hAI.2.2.1
  have hU := hAI.2.2.2.1
  have hZ2 := hAI.2.2.2.2.2.1
  have hZ := hAI.2.2.2.2.2.2.1
  have hB := hA.1
  have hKb := hA.2.1
  have hbb := hA.2.2.2.1
  have hsg := nPt_lt hA.2.2.2.2.2.1
  have hK31 := hAI.kb
  have hM1 : ∀ D m, A.mcs D = some m → m.1 < A.pgs.length := fun D m hm => (hMM D m hm).1
  have hmd : ∀ D m, A.mcs D = some m → m.2.2.2.2.2.2.2.1 ≤ 2 := fun D m hm => (hMM D m hm).2.2.2.2.2.1.2
  refine z_aload 1256 rfl rfl rfl ?_
  refine z_aload 1257 rfl rfl rfl ?_
  refine z_iload 1258 rfl rfl rfl ?_
  refine z_push 1259 (nI 1) rfl rfl rfl ?_
  refine z_bop 1260 _ rfl rfl (by first | with_reducible exact zb_0 _ _ | exact zd_0 _ _) ?_
  refine z_sld 1261 rfl rfl (by first | exact hs0 | exact hC.1 | exact hs1 | exact hR1.1 | fail "lk") rfl (by omega) (by omega) ?_
  refine z_cv1 1264 rfl rfl (by first | exact hs0 | exact hC.1 | exact hs1 | exact hR1.1 | fail "lk") rfl (by omega) (by omega) ?_
  refine c_told hC  (fun h1 hC1 hK1 => ?_)
  have hR1 := hR.kx hK1
  have hs1 := (hK1.1 0 (Or.inl rfl)).trans hs0
  refine z_aload 1265 rfl rfl rfl ?_
  refine z_aload 1266 rfl rfl rfl ?_
  refine z_iload 1267 rfl rfl rfl ?_
  refine z_push 1268 (nI 1) rfl rfl rfl ?_
  refine z_bop 1269 _ rfl rfl (by first | with_reducible exact zb_0 _ _ | exact zd_0 _ _) ?_
  refine z_sld 1270 rfl rfl (by first | exact hs0 | exact hC.1 | exact hs1 | exact hR1.1 | fail "lk") rfl (by omega) (by omega) ?_
  refine z_cv1 1273 rfl rfl (by first | exact hs0 | exact hC.1 | exact hs1 | exact hR1.1 | fail "lk") rfl (by omega) (by omega) ?_
  refine r_told hR1 hRI  (fun h2 s2 hR2 hI2 => ?_)
  refine z_ceq 1276 rfl rfl (fun _ => ?_) (fun h9 => absurd rfl h9)
  exact ih h2 _ _ _ (hI.step hC1 hK1 hR2 hI2 (I_told hAI)) (by omega) (by omega)
