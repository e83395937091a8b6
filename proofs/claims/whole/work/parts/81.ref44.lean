/-! the reference: how much is written; writes over the abstract state -/
def sumN (f : Nat → Nat) : List Nat → Nat
  | [] => 0
  | x :: l => f x + sumN f l
/-- how many points stand for a point -/
def fbN (F : List Fb) : Nat → Nat → Nat
  | 0, _ => 1
  | n + 1, x => match fbI F x with
    | none => 1
    | some g => sumN (fbN F n) (fbL F g)
theorem drop_c9 {l : List Nat} {k : Nat} (h : k < l.length) : l.drop k = l.getD k 0 :: l.drop (k + 1) := by
  rw [List.drop_eq_getElem_cons h, List.getD_eq_getElem?_getD, List.getElem?_eq_getElem h]; rfl
theorem fbN_pos {F : List Fb} (hF : FbW F) : ∀ (n x : Nat), 1 ≤ fbN F n x
  | 0, _ => Nat.le_refl _
  | n + 1, x => by
    unfold fbN
    split
    · exact Nat.le_refl _
    · rename_i g hg
      have h1 := (hF g (fbI_b hg)).2.1
      cases hl : fbL F g with
      | nil => rw [hl] at h1; exact absurd h1 (by decide)
      | cons y l => have := fbN_pos hF n y; simp only [sumN]; omega
theorem pbW_len {K st ts n v : Nat} {H : List Sh} (hn : n ≤ 4) : (pbW K H st ts n v).1.length ≤ 10 := by
  have hb : (byL n v).length = n := byF_len n v n 0
  unfold pbW
  split
  · split
    · rename_i l hl
      have := gP_len hl
      simp only [List.length_append, List.length_map]
      omega
    · show (byL n v).length ≤ 10
      omega
  · show (byL n v).length ≤ 10
    omega
theorem ghW_len {K st : Nat} {H : List Sh} : (ghW K H st).1.length ≤ 10 := by
  unfold ghW
  split
  · split
    · rename_i l hl
      have := gP_len hl
      simp only [List.length_map]
      omega
    · exact Nat.zero_le _
  · exact Nat.zero_le _
theorem faX_len {g : Nat → Nat → List Nat × Nat} {l : List Nat} {N : Nat → Nat} (hg : ∀ x st, x ∈ l → (g x st).1.length ≤ 10 * N x) : ∀ (m k st : Nat), k + m = l.length → (faX g l m k st).1.length ≤ 10 * sumN N (l.drop k)
  | 0, k, st, hk => Nat.zero_le _
  | m + 1, k, st, hk => by
    have h1 := hg (l.getD k 0) st (getD_in (by omega))
    have h2 := faX_len hg m (k + 1) (g (l.getD k 0) st).2 (by omega)
    rw [drop_c9 (show k < l.length by omega)]
    simp only [faX, sumN, List.length_append]
    omega
theorem fa_len {F : List Fb} {K : Nat} {E : List En} {H : List Sh} (hW : TbW E H) (hF : FbW F) : ∀ (n pt st : Nat), pt < 1114112 → (fa F K E H n pt st).1.length ≤ 10 * fbN F n pt
  | 0, pt, st, hp => by
    unfold fa fbN
    split
    · rename_i x hx; exact pbW_len (fnd_b hW hp hx).2.2.1
    · exact Nat.zero_le _
  | n + 1, pt, st, hp => by
    have h1 := fbN_pos hF (n + 1) pt
    unfold fa
    split
    · rename_i x hx
      exact Nat.le_trans (pbW_len (fnd_b hW hp hx).2.2.1) (by omega)
    · split
      · exact Nat.zero_le _
      · rename_i g hg
        have h2 := faX_len (g := fa F K E H n) (l := fbL F g) (N := fbN F n) (fun x st hx => fa_len hW hF n x st (nPt_lt ((hF g (fbI_b hg)).2.2.2 x hx))) (fbL F g).length 0 st (by omega)
        rw [List.drop_zero] at h2
        have e : fbN F (n + 1) pt = sumN (fbN F n) (fbL F g) := by simp only [fbN, hg]
        rw [e]
        exact h2
theorem sgW_len {K sg st : Nat} {E : List En} {H : List Sh} (hW : TbW E H) (hs : sg < 1114112) : (sgW K E H sg st).1.length ≤ 10 := by
  unfold sgW
  split
  · rename_i x hx; exact pbW_len (fnd_b hW hs hx).2.2.1
  · exact Nat.zero_le _
theorem wl1_len {K rule sg u st : Nat} {E : List En} {H : List Sh} (hW : TbW E H) (hs : sg < 1114112) {y : List Nat × Nat} (h : wl1 K E H rule sg u st = some y) : y.1.length ≤ 10 := by
  unfold wl1 at h
  split at h
  · cases h; exact sgW_len hW hs
  · split at h
    · cases h; exact Nat.zero_le _
    · split at h
      · cases h; show 1 ≤ 10; decide
      · cases h
theorem wp1_len {F : List Fb} {K rule sg pt st : Nat} {E : List En} {H : List Sh} (hW : TbW E H) (hF : FbW F) (hN : ∀ x, fbN F 40 x ≤ 16) (hs : sg < 1114112) (hp : pt < 1114112) {y : List Nat × Nat} (h : wp1 F K E H rule sg pt st = some y) : y.1.length ≤ 160 := by
  unfold wp1 at h
  split at h
  · rename_i x hx
    cases h
    exact Nat.le_trans (pbW_len (fnd_b hW hp hx).2.2.1) (by decide)
  · split at h
    · cases h; exact Nat.le_trans (sgW_len hW hs) (by decide)
    · split at h
      · cases h; exact Nat.zero_le _
      · split at h
        · cases h
          have h1 := fa_len (K := K) (H := H) hW hF 40 pt st hp
          have h2 := hN pt
          omega
        · cases h
theorem McB_set {ms : Nat → Option Mc} {D a3 a4 a5 a6 a7 : Nat} {a1 : Nat} {a2 : Bool} {ks us : List Nat} (h : McB ms) (hk : ks.length ≤ 8) (hq : us.length ≤ 1200) : McB (setM ms D (a1, a2, a3, a4, a5, ks, a6, a7, us)) := by
  intro i m hm
  unfold setM at hm
  split at hm
  · cases hm; exact ⟨hk, hq⟩
  · exact h i m hm
def wsM (A : Ab) (m : Mc) (v : Option Nat) : Bool × Nat × Nat × List Nat × List Nat := wsX A.fbs (pgK A.pgs m.1) (pgE A.pgs m.1) (pgH A.pgs m.1) m.2.2.1 A.sgn.2 m.2.2.2.1 m.2.2.2.2.2.1 v
def sp_writes (A : Ab) (D : Nat) (m : Mc) (v : Option Nat) : Int32 × Ab :=
  if (wsM A m v).1 = true then (-10, ((A.wPlc (m.2.2.2.2.2.2.1 - (if v.isSome = true then 1 else 0) - m.2.2.2.2.2.1.length + (wsM A m v).2.1)).wMcs (setM A.mcs D (m.1, m.2.1, m.2.2.1, (wsM A m v).2.2.1, 4, [], m.2.2.2.2.2.2.1, 2, m.2.2.2.2.2.2.2.2 ++ (wsM A m v).2.2.2.2))).tell)
  else (nI (m.2.2.2.2.2.2.2.2.length + (wsM A m v).2.2.2.2.length), A.wMcs (setM A.mcs D (m.1, m.2.1, m.2.2.1, (wsM A m v).2.2.1, m.2.2.2.2.1, (wsM A m v).2.2.2.1, m.2.2.2.2.2.2.1, m.2.2.2.2.2.2.2.1, m.2.2.2.2.2.2.2.2 ++ (wsM A m v).2.2.2.2)))
def wvI (v : Option Nat) : Int32 := match v with
  | none => -1
  | some u => nI u
theorem r_writes {d r : Nat} {h h0 : mH} {s : rS} {A : Ab} {D : Nat} {m : Mc} {v : Option Nat} {Q : mP} (hR : Rf r h0 s h) (hI : RInv s A) (hA : AbW A) (hN : ∀ x, fbN A.fbs 40 x ≤ 16) (hB : McB A.mcs) (hD : D < 4) (hm : A.mcs D = some m) (hmp : m.1 < A.pgs.length) (hcl : pgC A.pgs m.1 = true) (hst : SOk (pgK A.pgs m.1) (pgH A.pgs m.1) m.2.2.2.1) (hru : m.2.2.1 < 5) (hks : m.2.2.2.2.2.1 = [] ∨ ∃ k0, m.2.2.2.2.2.1 = [k0] ∧ 55296 ≤ k0 ∧ k0 ≤ 56319) (hv : ∀ u, v = some u → u < 65536) (hfk : m.2.2.2.2.2.1.length + (if v.isSome = true then 1 else 0) ≤ m.2.2.2.2.2.2.1) (hqw : m.2.2.2.2.2.2.2.2.length ≤ 300) (q : ∀ h' s', Rf r h0 s' h' → RInv s' (sp_writes A D m v).2 → McB (sp_writes A D m v).2.mcs → Q (some (.int (sp_writes A D m v).1)) h') : mWP (d + 54) 241 [.ref r, .int (nI D), .int (wvI v)] h Q := by
  obtain ⟨w1, w2, w3, w4, w5, w6, w7, w8, w9⟩ := hA
  obtain ⟨a1, a2, a3, a4, a5, a6, a7, a8, a9, a10, a11, a12⟩ := (hI.2.2.2.2.2.2.1 D hD).2 m hm
  have hl := hI.1.2.1
  obtain ⟨g1, g2, g3⟩ := hI.1.2.2 m.1 hmp
  have hW := w1 m.1 hmp
  have hs2 := nPt_lt w7
  have q0 : ∀ a st ks us, wsM A m v = (false, a, st, ks, us) → us.length ≤ 600 → ks.length ≤ 1 → ∀ h' s2 s3, Rf r h0 (stK D st m.2.2.2.2.1 (m.2.2.2.2.2.2.2.2.length + us.length) s3) h' → KpM D s s2 → s2.1 22 = s.1 22 → s2.2.2 58 D = ks.length → Seg (s2.2.2 59) (8 * D) ks → CpF s2 s3 (1200 * D + m.2.2.2.2.2.2.2.2.length) us.length us → Q (some (.int (nI (m.2.2.2.2.2.2.2.2.length + us.length)))) h' := by
    intro a st ks us e9 hul hkl h' s2 s3 hR' hK h22 h58 h59 hF
    have hi := hI.wrs (st := st) (pn := m.2.2.2.2.1) hB hD hm hK h22 h58 h59 hF (by omega)
    rw [sp_writes, e9, if_neg (show ¬ (false = true) by decide)] at q
    exact q h' _ hR' hi (McB_set hB (show ks.length ≤ 8 by omega) (by show (m.2.2.2.2.2.2.2.2 ++ us).length ≤ 1200; rw [List.length_append]; omega))
  have q1 : ∀ a st us, wsM A m v = (true, a, st, [], us) → us.length ≤ 600 → ∀ h' s2 s3, Rf r h0 (stR D st (m.2.2.2.2.2.2.2.2.length + us.length) (m.2.2.2.2.2.2.1 - (if v.isSome = true then 1 else 0) - m.2.2.2.2.2.1.length + a) s3) h' → KpM D s s2 → CpF s2 s3 (1200 * D + m.2.2.2.2.2.2.2.2.length) us.length us → Q (some (.int (-10))) h' := by
    intro a st us e9 hul h' s2 s3 hR' hK hF
    have hi := hI.wrr (st := st) (a := m.2.2.2.2.2.2.1 - (if v.isSome = true then 1 else 0) - m.2.2.2.2.2.1.length + a) hB hD hm hK hF (by omega)
    rw [sp_writes, e9, if_pos rfl] at q
    exact q h' _ hR' hi (McB_set hB (Nat.zero_le _) (by show (m.2.2.2.2.2.2.2.2 ++ us).length ≤ 1200; rw [List.length_append]; omega))
  clear q
  unfold wsM at q0 q1
  have hbp : ∀ x st y, x < 1114112 → wp1 A.fbs (pgK A.pgs m.1) (pgE A.pgs m.1) (pgH A.pgs m.1) m.2.2.1 A.sgn.2 x st = some y → y.1.length ≤ 300 := fun x st y hx he => Nat.le_trans (wp1_len hW w8 hN hs2 hx he) (by decide)
  have hbl : ∀ x st y, wl1 (pgK A.pgs m.1) (pgE A.pgs m.1) (pgH A.pgs m.1) m.2.2.1 A.sgn.2 x st = some y → y.1.length ≤ 300 := fun x st y he => Nat.le_trans (wl1_len hW hs2 he) (by decide)
  have hbg : ∀ st, (ghW (pgK A.pgs m.1) (pgH A.pgs m.1) st).1.length ≤ 300 := fun st => Nat.le_trans ghW_len (by decide)
  have hG := w3 m.1 hmp hcl
  rcases hks with hk0 | ⟨k0, hk0, hk1⟩
  · rw [hk0] at a7 a8 q0 q1 hfk
    cases v with
    | none => exact r_wE0 (k0 := 0) (u := 0) hR hD (by omega) a2 a4 a5 a6 a7 a8 a9 a11 g1 (w2 m.1 hmp) g3 hW hG hst hru hI.2.2.2.2.1.2 hs2 hI.2.2.2.2.2.1 w8 w9 hI.2.2.2.2.2.2.2.2.2.2 hqw hbp hbl hbg q0 q1
    | some u => exact r_wU0 (k0 := 0) hR hD (by omega) a2 a4 a5 a6 a7 a8 a9 a11 g1 (w2 m.1 hmp) g3 hW hG hst hru hI.2.2.2.2.1.2 hs2 hI.2.2.2.2.2.1 w8 w9 hI.2.2.2.2.2.2.2.2.2.2 hqw hbp hbl hbg hfk (hv u rfl) q0 q1
  · rw [hk0] at a7 a8 q0 q1 hfk
    cases v with
    | none => exact r_wE1 (u := 0) hR hD (by omega) a2 a4 a5 a6 a7 a8 a9 a11 g1 (w2 m.1 hmp) g3 hW hG hst hru hI.2.2.2.2.1.2 hs2 hI.2.2.2.2.2.1 w8 w9 hI.2.2.2.2.2.2.2.2.2.2 hqw hbp hbl hbg hfk hk1 q0 q1
    | some u => exact r_wU1 hR hD (by omega) a2 a4 a5 a6 a7 a8 a9 a11 g1 (w2 m.1 hmp) g3 hW hG hst hru hI.2.2.2.2.1.2 hs2 hI.2.2.2.2.2.1 w8 w9 hI.2.2.2.2.2.2.2.2.2.2 hqw hbp hbl hbg hfk (hv u rfl) hk1 q0 q1
