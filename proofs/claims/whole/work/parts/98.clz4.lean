/-! what every call keeps: pages -/
def AbI (A : Ab) : Prop := AbW A ∧ (∀ x, fbN A.fbs 40 x ≤ 16) ∧ AbM A ∧ FbU A.fbs ∧ A.fbs.length ≤ 40 ∧ A.res.1 < 3 ∧ (A.res.1 = 0 → A.res.2 = []) ∧ (A.res.1 = 1 → ∀ x, x ∈ A.res.2 → x < 65536) ∧ (A.res.1 = 2 → ∀ x, x ∈ A.res.2 → x < 256)
theorem AbI.tell {A : Ab} (h : AbI A) : AbI A.tell := h
theorem AbI.plc {A : Ab} {x : Nat} (h : AbI A) : AbI (A.wPlc x) := h
theorem AbI.brk {A : Ab} {x : Nat × Nat × Nat} (h : AbI A) : AbI (A.wBrk x) := h
theorem MW.pg {A B : Ab} {m : Mc} (h : MW A m) (h1 : m.1 < B.pgs.length) (h2 : pgC B.pgs m.1 = pgC A.pgs m.1) (h3 : pgK B.pgs m.1 = pgK A.pgs m.1) (h4 : pgH B.pgs m.1 = pgH A.pgs m.1) : MW B m := by
  unfold MW at h ⊢
  rw [h2, h3, h4]
  exact ⟨h1, h.2⟩
theorem AbI.add {A : Ab} {K : Nat} {c : Bool} {E : List En} {H : List Sh} (h : AbI A) (hW : TbW E H) (hK : K < 4) (hG : c = true → Gd K E H) : AbI (A.wPgs (A.pgs ++ [(K, c, E, H)])) := by
  obtain ⟨⟨a1, a2, a3, a4, a5, a6, a7, a8, a9⟩, b1, b2, b3⟩ := h
  have hlen : (A.pgs ++ [(K, c, E, H)]).length = A.pgs.length + 1 := by rw [List.length_append]; rfl
  have cs : ∀ P, P < (A.pgs ++ [(K, c, E, H)]).length → P < A.pgs.length ∨ P = A.pgs.length := fun P hP => by omega
  refine ⟨⟨fun P hP => ?_, fun P hP => ?_, fun P hP hc => ?_, a4, a5, a6, a7, a8, a9⟩, b1, fun i m hm => ?_, b3⟩
  · show TbW (pgE (A.pgs ++ [(K, c, E, H)]) P) (pgH (A.pgs ++ [(K, c, E, H)]) P)
    rcases cs P hP with h9 | h9
    · obtain ⟨g1, g2, g3, g4⟩ := (pg_app (x := (K, c, E, H))).1 h9
      rw [g3, g4]; exact a1 P h9
    · obtain ⟨g1, g2, g3, g4⟩ := (pg_app (x := (K, c, E, H))).2 h9
      rw [g3, g4]; exact hW
  · show pgK (A.pgs ++ [(K, c, E, H)]) P < 4
    rcases cs P hP with h9 | h9
    · rw [((pg_app (x := (K, c, E, H))).1 h9).1]; exact a2 P h9
    · rw [((pg_app (x := (K, c, E, H))).2 h9).1]; exact hK
  · replace hc : pgC (A.pgs ++ [(K, c, E, H)]) P = true := hc
    show Gd (pgK (A.pgs ++ [(K, c, E, H)]) P) (pgE (A.pgs ++ [(K, c, E, H)]) P) (pgH (A.pgs ++ [(K, c, E, H)]) P)
    rcases cs P hP with h9 | h9
    · obtain ⟨g1, g2, g3, g4⟩ := (pg_app (x := (K, c, E, H))).1 h9
      rw [g2] at hc
      rw [g1, g3, g4]; exact a3 P h9 hc
    · obtain ⟨g1, g2, g3, g4⟩ := (pg_app (x := (K, c, E, H))).2 h9
      rw [g2] at hc
      rw [g1, g3, g4]; exact hG hc
  · have h9 := b2 i m hm
    obtain ⟨g1, g2, g3, g4⟩ := (pg_app (x := (K, c, E, H))).1 h9.1
    exact h9.pg (by show m.1 < (A.pgs ++ [(K, c, E, H)]).length; have := h9.1; omega) g2 g1 g4
theorem AbI.set {A : Ab} {P K : Nat} {c : Bool} {E : List En} {H : List Sh} (h : AbI A) (hP : P < A.pgs.length) (ho : pgC A.pgs P = false) (hW : TbW E H) (hK : K < 4) (hG : c = true → Gd K E H) : AbI (A.wPgs (A.pgs.set P (K, c, E, H))) := by
  obtain ⟨⟨a1, a2, a3, a4, a5, a6, a7, a8, a9⟩, b1, b2, b3⟩ := h
  have g := fun j => pg_set (l := A.pgs) (j := j) (x := (K, c, E, H)) hP
  have hl : ∀ j, j < (A.wPgs (A.pgs.set P (K, c, E, H))).pgs.length → j < A.pgs.length := fun j hj => by
    have h9 : j < (A.pgs.set P (K, c, E, H)).length := hj
    rw [List.length_set] at h9; exact h9
  refine ⟨⟨fun j hj => ?_, fun j hj => ?_, fun j hj hc => ?_, a4, a5, a6, a7, a8, a9⟩, b1, fun i m hm => ?_, b3⟩
  · show TbW (pgE (A.pgs.set P (K, c, E, H)) j) (pgH (A.pgs.set P (K, c, E, H)) j)
    rw [(g j).2.2.1, (g j).2.2.2]
    by_cases e : j = P
    · rw [if_pos e, if_pos e]; exact hW
    · rw [if_neg e, if_neg e]; exact a1 j (hl j hj)
  · show pgK (A.pgs.set P (K, c, E, H)) j < 4
    rw [(g j).1]
    by_cases e : j = P
    · rw [if_pos e]; exact hK
    · rw [if_neg e]; exact a2 j (hl j hj)
  · replace hc : pgC (A.pgs.set P (K, c, E, H)) j = true := hc
    show Gd (pgK (A.pgs.set P (K, c, E, H)) j) (pgE (A.pgs.set P (K, c, E, H)) j) (pgH (A.pgs.set P (K, c, E, H)) j)
    rw [(g j).2.1] at hc
    rw [(g j).1, (g j).2.2.1, (g j).2.2.2]
    by_cases e : j = P
    · rw [if_pos e] at hc
      rw [if_pos e, if_pos e, if_pos e]; exact hG hc
    · rw [if_neg e] at hc
      rw [if_neg e, if_neg e, if_neg e]; exact a3 j (hl j hj) hc
  · have h9 := b2 i m hm
    have e : m.1 ≠ P := fun e => by
      have h8 := h9.2.1
      rw [e, ho] at h8; cases h8
    refine h9.pg ?_ ?_ ?_ ?_
    · show m.1 < (A.pgs.set P (K, c, E, H)).length
      rw [List.length_set]; exact h9.1
    · show pgC (A.pgs.set P (K, c, E, H)) m.1 = _
      rw [(g _).2.1, if_neg e]
    · show pgK (A.pgs.set P (K, c, E, H)) m.1 = _
      rw [(g _).1, if_neg e]
    · show pgH (A.pgs.set P (K, c, E, H)) m.1 = _
      rw [(g _).2.2.2, if_neg e]
def gE (e : En) : Prop := e.1 < 4 ∧ 1 ≤ e.2.2.1 ∧ e.2.2.1 ≤ 3 ∧ e.2.1 < 256 ^ e.2.2.1 ∧ nPt e.2.2.2.1 = true
def gS9 (s : Sh) : Prop := s.1 < 4 ∧ s.2.1 < 256 ∧ s.2.2.1 < 4 ∧ s.1 ≠ s.2.2.1
theorem all_getD {α : Type} {l : List α} {d : α} {P : α → Prop} : (∀ k, k < l.length → P (l.getD k d)) ↔ ∀ x, x ∈ l → P x := by
  constructor
  · intro h x hx
    obtain ⟨k, hk, e⟩ := List.getElem_of_mem hx
    have := h k hk
    rw [List.getD_eq_getElem?_getD, List.getElem?_eq_getElem hk, Option.getD_some, e] at this
    exact this
  · intro h k hk
    rw [List.getD_eq_getElem?_getD, List.getElem?_eq_getElem hk, Option.getD_some]
    exact h _ (List.getElem_mem hk)
theorem TbW_iff {E : List En} {H : List Sh} : TbW E H ↔ E.length ≤ 100 ∧ H.length ≤ 10 ∧ (∀ e, e ∈ E → gE e) ∧ ∀ s, s ∈ H → gS9 s := by
  rw [← all_getD (l := E) (d := (0, 0, 0, 0, false)), ← all_getD (l := H) (d := (0, 0, 0, false))]
  exact Iff.rfl
theorem TbW.aE {E : List En} {H : List Sh} {e : En} (h : TbW E H) (hl : E.length < 100) (he : gE e) : TbW (E ++ [e]) H := by
  rw [TbW_iff] at h ⊢
  refine ⟨by rw [List.length_append, List.length_singleton]; omega, h.2.1, fun x hx => ?_, h.2.2.2⟩
  rcases List.mem_append.mp hx with h1 | h1
  · exact h.2.2.1 x h1
  · rw [List.mem_singleton] at h1; subst h1; exact he
theorem TbW.sE {E : List En} {H : List Sh} {e : En} {k : Nat} (h : TbW E H) (he : gE e) : TbW (E.set k e) H := by
  rw [TbW_iff] at h ⊢
  refine ⟨by rw [List.length_set]; exact h.1, h.2.1, fun x hx => ?_, h.2.2.2⟩
  rcases List.mem_or_eq_of_mem_set hx with h1 | h1
  · exact h.2.2.1 x h1
  · subst h1; exact he
theorem TbW.rE {E : List En} {H : List Sh} {k : Nat} (h : TbW E H) : TbW (E.eraseIdx k) H := by
  rw [TbW_iff] at h ⊢
  refine ⟨Nat.le_trans (List.length_eraseIdx_le _ _) h.1, h.2.1, fun x hx => h.2.2.1 x (List.mem_of_mem_eraseIdx hx), h.2.2.2⟩
theorem TbW.aS {E : List En} {H : List Sh} {e : Sh} (h : TbW E H) (hl : H.length < 10) (he : gS9 e) : TbW E (H ++ [e]) := by
  rw [TbW_iff] at h ⊢
  refine ⟨h.1, by rw [List.length_append, List.length_singleton]; omega, h.2.2.1, fun x hx => ?_⟩
  rcases List.mem_append.mp hx with h1 | h1
  · exact h.2.2.2 x h1
  · rw [List.mem_singleton] at h1; subst h1; exact he
theorem TbW.rS {E : List En} {H : List Sh} {k : Nat} (h : TbW E H) : TbW E (H.eraseIdx k) := by
  rw [TbW_iff] at h ⊢
  refine ⟨h.1, Nat.le_trans (List.length_eraseIdx_le _ _) h.2.1, h.2.2.1, fun x hx => h.2.2.2 x (List.mem_of_mem_eraseIdx hx)⟩
theorem TbW_nil : TbW [] [] := TbW_iff.mpr ⟨by decide, by decide, fun e he => (by cases he), fun e he => (by cases he)⟩
theorem I_page {A : Ab} {k : Int32} (h : AbI A) : AbI (sp_page A k).2 := by
  unfold sp_page
  split
  · rename_i h1
    split
    · exact h.tell
    · refine h.add TbW_nil (by omega) (fun hc hK => ?_)
      have := of_decide_eq_true hc
      omega
  · exact h.tell
theorem I_derive {A : Ab} {k : Int32} (h : AbI A) : AbI (sp_derive A k).2 := by
  unfold sp_derive
  split
  · rename_i h1
    split
    · split
      · split
        · exact h.tell
        · exact h.add (h.1.1 _ (by omega)) (by decide) (fun hc => by cases hc)
      · exact h.tell
    · exact h.tell
  · exact h.tell
theorem I_entry {A : Ab} {p st bt n c : Int32} (h : AbI A) (hl : ∀ P, P < A.pgs.length → (pgE A.pgs P).length ≤ 100) : AbI (sp_entry A p st bt n c).2 := by
  unfold sp_entry
  split
  · rename_i h1
    obtain ⟨hp, hk, hc⟩ := fxA_0 h1
    have hP : p.toInt.toNat < A.pgs.length := by omega
    have hW := h.1.1 _ hP
    split
    · rename_i h2
      obtain ⟨a, b, c9, ha, hb, hc0, hc1, hbc, e1, e2, e3, ha', hb', hc'⟩ := jText_n h2.1
      obtain ⟨t, ht, ht1, ht2⟩ := jPoint_n h2.2
      have he : gE (st.toInt.toNat, bt.toInt.toNat, n.toInt.toNat, (ptOf c).toInt.toNat, decide (0 ≤ c.toInt)) := by
        rw [ha', hb', hc', ht2]; exact ⟨ha, hc0, hc1, hbc, ht⟩
      split
      · exact h.set hP hc (hW.sE he) (by decide) (fun hc => by cases hc)
      · split
        · exact h.tell
        · rename_i h3
          exact h.set hP hc (hW.aE (by have := hl _ hP; omega) he) (by decide) (fun hc => by cases hc)
    · exact h.tell
  · exact h.tell
theorem I_shift {A : Ab} {p st b to : Int32} {k : Bool} (h : AbI A) : AbI (sp_shift A p st b to k).2 := by
  unfold sp_shift
  split
  · rename_i h1
    obtain ⟨hp, hk, hc⟩ := fxA_0 h1
    have hP : p.toInt.toNat < A.pgs.length := by omega
    have hW := h.1.1 _ hP
    split
    · rename_i h2
      obtain ⟨a, ha, e1, ha'⟩ := jState_n h2.1
      obtain ⟨c9, hc9, e2, hc'⟩ := jState_n h2.2.1
      obtain ⟨b9, hb, e3, hb'⟩ := jByte_ix h2.2.2.2
      split
      · split
        · exact h.tell
        · rename_i h3
          refine h.set hP hc (hW.aS (by have := hW.2.1; omega) ?_) (by decide) (fun hc => by cases hc)
          rw [ha', hb', hc']
          refine ⟨ha, hb, hc9, fun e => h2.2.2.1 ?_⟩
          rw [e1, e2, show a = c9 from e]
      · exact h.tell
    · exact h.tell
  · exact h.tell
theorem I_drop {A : Ab} {p st bt n : Int32} (h : AbI A) : AbI (sp_drop A p st bt n).2 := by
  unfold sp_drop
  split
  · rename_i h1
    obtain ⟨hp, hk, hc⟩ := fxA_0 h1
    have hP : p.toInt.toNat < A.pgs.length := by omega
    have hW := h.1.1 _ hP
    split
    · split
      · exact h.set hP hc hW.rE (by decide) (fun hc => by cases hc)
      · split
        · split
          · exact h.set hP hc hW.rS (by decide) (fun hc => by cases hc)
          · exact h.tell
        · exact h.tell
    · exact h.tell
  · exact h.tell
theorem I_close {A : Ab} {p : Int32} (h : AbI A) : AbI (sp_close A p).2 := by
  unfold sp_close
  split
  · rename_i h1
    obtain ⟨hp, hk, hc⟩ := fxA_0 h1
    have hP : p.toInt.toNat < A.pgs.length := by omega
    have hW := h.1.1 _ hP
    split
    · rename_i h2
      exact h.set hP hc hW (by decide) (fun _ => (gd_of hW h2).2)
    · exact h.brk.tell
  · exact h.tell
theorem tiE_W {bs : List Nat} (hb : ∀ j, bs.getD j 0 < 256) : ∀ (k i : Nat) (E : List En) (H : List Sh) (E' : List En) (x : Nat), TbW E H → E.length + k ≤ 100 → tiE bs k E i = some (E', x) → TbW E' H
  | 0, i, E, H, E', x, hW, hl, h => by rw [tiE] at h; cases h; exact hW
  | k + 1, i, E, H, E', x, hW, hl, h => by
    rcases he : teE E bs i with _ | e
    · rw [tiE, he] at h; cases h
    · rw [tiE, he] at h
      exact tiE_W hb k _ _ _ _ _ (hW.addE hb (by omega) he).1 (by rw [List.length_append, List.length_singleton]; omega) h
theorem tiS_W {bs : List Nat} (hb : ∀ j, bs.getD j 0 < 256) : ∀ (k i : Nat) (E : List En) (H : List Sh) (H' : List Sh) (x : Nat), TbW E H → H.length + k ≤ 10 → tiS bs k H i = some (H', x) → TbW E H'
  | 0, i, E, H, E', x, hW, hl, h => by rw [tiS] at h; cases h; exact hW
  | k + 1, i, E, H, E', x, hW, hl, h => by
    rcases he : tsS H bs i with _ | e
    · rw [tiS, he] at h; cases h
    · rw [tiS, he] at h
      exact tiS_W hb k _ _ _ _ _ (hW.addS hb (by omega) he) (by rw [List.length_append, List.length_singleton]; omega) h
theorem tiA_W {bs : List Nat} {E : List En} {H : List Sh} (hb : ∀ j, bs.getD j 0 < 256) (h : tiA bs = some (E, H)) : TbW E H ∧ gdA E H = none := by
  unfold tiA at h
  split at h
  · rename_i h1
    split at h
    · cases h
    · rename_i x hx
      split at h
      · rename_i h2
        split at h
        · cases h
        · rename_i y hy
          split at h
          · rename_i h3
            cases h
            have w1 := tiE_W hb _ _ _ _ _ _ TbW_nil (by rw [List.length_nil]; omega) (show tiE bs (bs.getD 0 0) [] 1 = some (x.1, x.2) from hx)
            exact ⟨tiS_W hb _ _ _ _ _ _ w1 (by rw [List.length_nil]; omega) (show tiS bs (bs.getD x.2 0) [] (x.2 + 1) = some (y.1, y.2) from hy), Option.isNone_iff_eq_none.mp h3.2⟩
          · cases h
      · cases h
  · cases h
theorem I_receive {A : Ab} (h : AbI A) : AbI (sp_receive A).2 := by
  unfold sp_receive
  split
  · exact h.tell
  · split
    · split
      · exact h.tell
      · rename_i x hx
        have hw := tiA_W (fun j => by rw [getD_take9]; split; exact h.1.2.2.2.1 j; decide) (show tiA _ = some (x.1, x.2) from hx)
        exact h.add hw.1 (by decide) (fun _ => (gd_of hw.1 hw.2).2)
    · exact h.tell
