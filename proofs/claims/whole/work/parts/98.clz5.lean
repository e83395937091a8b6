/-! what every call keeps: rows, results, fallbacks -/
theorem getD_mem {l : List Nat} {n : Nat} (h : ∀ j, l.getD j 0 < n) : ∀ x, x ∈ l → x < n := fun x hx => by
  obtain ⟨k, hk, e⟩ := List.getElem_of_mem hx
  have := h k
  rw [List.getD_eq_getElem?_getD, List.getElem?_eq_getElem hk, Option.getD_some, e] at this
  exact this
theorem bAdd_v {w : Int64} {m : Nat} : ∀ (k : Nat) (l : List Nat), (∀ x, x ∈ l → x < 2 ^ m) → ∀ x, x ∈ bAdd w m k l → x < 2 ^ m
  | 0, l, h => h
  | k + 1, l, h => bAdd_v k _ (fun x hx => by
    rcases List.mem_append.mp hx with h1 | h1
    · exact h x h1
    · rw [List.mem_singleton] at h1; subst h1; exact Nat.mod_lt _ (Nat.two_pow_pos m))
theorem AbI.bys {A : Ab} {l : List Nat} (h : AbI A) (hl : ∀ x, x ∈ l → x < 256) : AbI (A.wBys l) := by
  obtain ⟨⟨a1, a2, a3, a4, a5, a6, a7, a8, a9⟩, b⟩ := h
  exact ⟨⟨a1, a2, a3, getD_all hl (by decide), a5, a6, a7, a8, a9⟩, b⟩
theorem AbI.uns {A : Ab} {l : List Nat} (h : AbI A) (hl : ∀ x, x ∈ l → x < 65536) : AbI (A.wUns l) := by
  obtain ⟨⟨a1, a2, a3, a4, a5, a6, a7, a8, a9⟩, b⟩ := h
  exact ⟨⟨a1, a2, a3, a4, getD_all hl (by decide), a6, a7, a8, a9⟩, b⟩
theorem AbI.rs1 {A : Ab} {l : List Nat} (h : AbI A) (hl : ∀ x, x ∈ l → x < 65536) : AbI (A.wRes (1, l)) := by
  obtain ⟨a, b1, b2, b3, b4, _⟩ := h
  exact ⟨a, b1, b2, b3, b4, by show (1 : Nat) < 3; decide, fun h9 => absurd h9 (by show ¬ (1 : Nat) = 0; decide), fun _ => hl, fun h9 => absurd h9 (by show ¬ (1 : Nat) = 2; decide)⟩
theorem AbI.rs2 {A : Ab} {l : List Nat} (h : AbI A) (hl : ∀ x, x ∈ l → x < 256) : AbI (A.wRes (2, l)) := by
  obtain ⟨a, b1, b2, b3, b4, _⟩ := h
  exact ⟨a, b1, b2, b3, b4, by show (2 : Nat) < 3; decide, fun h9 => absurd h9 (by show ¬ (2 : Nat) = 0; decide), fun h9 => absurd h9 (by show ¬ (2 : Nat) = 1; decide), fun _ => hl⟩
theorem I_bytesIn {A : Ab} {w : Int64} {n : Int32} (h : AbI A) : AbI (sp_bytesIn A w n).2 := by
  unfold sp_bytesIn
  split
  · split
    · exact h.bys (bAdd_v (m := 8) _ _ (getD_mem h.1.2.2.2.1))
    · exact h.tell
  · exact h.tell
theorem I_unitsIn {A : Ab} {w : Int64} {n : Int32} (h : AbI A) : AbI (sp_unitsIn A w n).2 := by
  unfold sp_unitsIn
  split
  · split
    · exact h.uns (bAdd_v (m := 16) _ _ (getD_mem h.1.2.2.2.2.1))
    · exact h.tell
  · exact h.tell
theorem I_fill {A : Ab} {w : Int32} (h : AbI A) : AbI (sp_fill A w).2 := by
  unfold sp_fill
  split
  · split
    · exact h.bys (fun x hx => by cases hx)
    · split
      · exact h.uns (fun x hx => by cases hx)
      · split
        · split
          · rename_i e
            split
            · exact h.bys (h.2.2.2.2.2.2.2.2 e)
            · exact h.tell
          · exact h.tell
        · split
          · rename_i e
            split
            · exact h.uns (h.2.2.2.2.2.2.2.1 e)
            · exact h.tell
          · exact h.tell
  · exact h.tell
theorem I_decode {A : Ab} {p ru : Int32} (h : AbI A) : AbI (sp_decode A p ru).2 := by
  unfold sp_decode
  split
  · rename_i h1
    split
    · split
      · split
        · exact h.plc.tell
        · exact h.rs1 (rdPg_ub (h.1.1 _ (by omega)) h.1.2.2.2.1 (nPt_lt h.1.2.2.2.2.2.1))
      · exact h.tell
    · exact h.tell
  · exact h.tell
theorem faX_v {g : Nat → Nat → List Nat × Nat} {l : List Nat} (hg : ∀ p st x, x ∈ (g p st).1 → x < 256) : ∀ (m k st x : Nat), x ∈ (faX g l m k st).1 → x < 256
  | 0, k, st, x, h => by cases h
  | m + 1, k, st, x, h => by
    rw [faX] at h
    rcases List.mem_append.mp h with h1 | h1
    · exact hg _ _ x h1
    · exact faX_v hg m _ _ x h1
theorem fa_v {F : List Fb} {K : Nat} {E : List En} {H : List Sh} (hW : TbW E H) : ∀ (n pt st x : Nat), x ∈ (fa F K E H n pt st).1 → x < 256
  | 0, pt, st, x, h => by
    rw [fa] at h
    split at h
    · exact pb_v hW x h
    · cases h
  | n + 1, pt, st, x, h => by
    rw [fa] at h
    split at h
    · exact pb_v hW x h
    · split at h
      · cases h
      · exact faX_v (fa_v hW n) _ _ _ x h
theorem sg_v {K sg st : Nat} {E : List En} {H : List Sh} (hW : TbW E H) : ∀ x, x ∈ (sgW K E H sg st).1 → x < 256 := by
  unfold sgW
  split
  · exact pb_v hW
  · intro x hx; cases hx
theorem wr1_v {F : List Fb} {K rule sg a st : Nat} {us : List Nat} {E : List En} {H : List Sh} (hW : TbW E H) {y : List Nat × Nat} (h : wr1 F K E H rule sg us a st = some y) : ∀ x, x ∈ y.1 → x < 256 := by
  unfold wr1 at h
  split at h
  · unfold wl1 at h
    split at h
    · cases h; exact sg_v hW
    · split at h
      · cases h; intro x hx; cases hx
      · split at h
        · rename_i h3
          cases h
          intro x hx
          rw [List.mem_singleton] at hx
          omega
        · cases h
  · unfold wp1 at h
    split at h
    · cases h; exact pb_v hW
    · split at h
      · cases h; exact sg_v hW
      · split at h
        · cases h; intro x hx; cases hx
        · split at h
          · cases h; exact fa_v hW _ _ _
          · cases h
theorem wrA_v {F : List Fb} {K : Nat} {E : List En} {H : List Sh} {rule sg m : Nat} {us : List Nat} (hW : TbW E H) : ∀ (k a st : Nat) (l : List Nat), (∀ x, x ∈ l → x < 256) → ∀ x, x ∈ (wrA F K E H rule sg us m k a st l).2.2 → x < 256
  | 0, a, st, l, h, x, hx => by rw [wrA] at hx; cases hx
  | k + 1, a, st, l, h, x, hx => by
    by_cases h1 : us.length ≤ a
    · rw [wrA, if_pos h1] at hx
      split at hx
      · rcases List.mem_append.mp hx with h2 | h2
        · exact h x h2
        · exact gh_v hW x h2
      · cases hx
    · rcases hy : wr1 F K E H rule sg us a st with _ | y
      · rw [wrA_n h1 hy] at hx; cases hx
      · by_cases h2 : l.length + y.1.length ≤ m
        · rw [wrA_g h1 hy h2] at hx
          refine wrA_v hW k _ _ _ (fun z hz => ?_) x hx
          rcases List.mem_append.mp hz with h3 | h3
          · exact h z h3
          · exact wr1_v hW hy z h3
        · rw [wrA_f h1 hy (by omega)] at hx; cases hx
theorem I_enR {A : Ab} {x : Nat × Nat × List Nat} (h : AbI A) (hx : ∀ b, b ∈ x.2.2 → b < 256) : AbI (enR A x).2 := by
  unfold enR
  split
  · exact h.rs2 hx
  · split
    · exact h.plc.tell
    · exact h.tell
theorem I_encode {A : Ab} {p ru : Int32} (h : AbI A) : AbI (sp_encode A p ru).2 := by
  unfold sp_encode
  split
  · rename_i h1
    split
    · split
      · exact I_enR h (wrA_v (h.1.1 _ (by omega)) _ _ _ _ (fun x hx => by cases hx))
      · exact h.tell
    · exact h.tell
  · exact h.tell
theorem I_transcode {A : Ab} {p ru q by' : Int32} (h : AbI A) : AbI (sp_transcode A p ru q by').2 := by
  unfold sp_transcode
  split
  · rename_i h1
    split
    · split
      · split
        · exact h.plc.tell
        · exact I_enR h (wrA_v (h.1.1 _ (by omega)) _ _ _ _ (fun x hx => by cases hx))
      · exact h.tell
    · exact h.tell
  · exact h.tell
theorem I_result {A : Ab} {i : Int32} (h : AbI A) : AbI (sp_result A i).2 := by
  unfold sp_result
  split
  · exact h
  · exact h.tell
theorem I_sign {A : Ab} {w x : Int32} (h : AbI A) : AbI (sp_sign A w x).2 := by
  unfold sp_sign
  obtain ⟨⟨a1, a2, a3, a4, a5, a6, a7, a8, a9⟩, b⟩ := id h
  split
  · rename_i h1
    obtain ⟨t, ht, ht1, ht2⟩ := jPoint_n h1.2
    split
    · exact ⟨⟨a1, a2, a3, a4, a5, by show nPt x.toInt.toNat = true; rw [ht2]; exact ht, a7, a8, a9⟩, b⟩
    · exact ⟨⟨a1, a2, a3, a4, a5, a6, by show nPt x.toInt.toNat = true; rw [ht2]; exact ht, a8, a9⟩, b⟩
  · exact h.tell
theorem I_send {A : Ab} {p : Int32} (h : AbI A) : AbI (sp_send A p).2 := by
  unfold sp_send
  split
  · rename_i h1
    split
    · split
      · refine h.rs2 (fun x hx => ?_)
        have hW := h.1.1 p.toInt.toNat (by omega)
        have hs : sndS (pgE A.pgs p.toInt.toNat) (pgH A.pgs p.toInt.toNat) < 65521 := Nat.mod_lt _ (by decide)
        unfold sndL at hx
        rcases List.mem_append.mp hx with h2 | h2
        · rcases List.mem_append.mp h2 with h3 | h3
          · exact getD_mem (sndM_b hW) x h3
          · rw [List.mem_singleton] at h3; omega
        · rw [List.mem_singleton] at h2; omega
      · exact h.tell
    · exact h.tell
  · exact h.tell
theorem I_size {A : Ab} {p w : Int32} (h : AbI A) : AbI (sp_size A p w).2 := by
  unfold sp_size
  split
  · exact h
  · exact h.tell
theorem I_code {A : Ab} {p x : Int32} (h : AbI A) : AbI (sp_code A p x).2 := by
  unfold sp_code
  split
  · split
    · split
      · split
        · exact h
        · exact h.tell
      · exact h.tell
    · exact h.tell
  · exact h.tell
theorem I_told {A : Ab} {w : Int32} (h : AbI A) : AbI (sp_told A w).2 := by
  unfold sp_told
  split
  · exact h
  · exact h.tell
theorem I_machine {A : Ab} {d w : Int32} (h : AbI A) : AbI (sp_machine A d w).2 := by
  unfold sp_machine
  split
  · split
    · exact h.tell
    · split
      · exact h
      · exact h.tell
  · exact h.tell
theorem I_coverage {A : Ab} {p f t : Int32} (h : AbI A) : AbI (sp_coverage A p f t).2 := by
  unfold sp_coverage
  split
  · split
    · split
      · exact h
      · exact h.tell
    · exact h.tell
  · exact h.tell
theorem I_differ {A : Ab} {p q f : Int32} (h : AbI A) : AbI (sp_differ A p q f).2 := by
  unfold sp_differ
  split
  · split
    · split
      · split
        · exact h
        · exact h.tell
      · exact h.tell
    · exact h.tell
  · exact h.tell
theorem I_misread {A : Ab} {p q : Int32} (h : AbI A) : AbI (sp_misread A p q).2 := by
  unfold sp_misread
  split
  · split
    · exact h
    · exact h.tell
  · exact h.tell
theorem I_faults {A : Ab} {p : Int32} (h : AbI A) : AbI (sp_faults A p).2 := by
  unfold sp_faults
  split
  · split
    · exact h
    · exact h.tell
  · exact h.tell
theorem I_detect {A : Ab} (h : AbI A) : AbI (sp_detect A).2 := by
  unfold sp_detect
  split
  · exact h
  · exact h.tell
theorem I_lnF {A : Ab} {P w : Nat} (h : AbI A) : ∀ (m s : Nat) (b : Option Nat), AbI (lnF A P w m s b).2
  | 0, s, b => h
  | m + 1, s, b => by
    rw [lnF]
    split
    · split
      · exact I_lnF h m _ _
      · refine AbI.tell (A := if (wrPg A P 0 A.uns 1000000 s).1 = 1 then A.wPlc (wrPg A P 0 A.uns 1000000 s).2.1 else A) ?_
        split
        · exact h.plc
        · exact h
    · exact I_lnF h m _ _
theorem I_lengths {A : Ab} {p w : Int32} (h : AbI A) : AbI (sp_lengths A p w).2 := by
  unfold sp_lengths
  split
  · split
    · split
      · exact I_lnF h _ _ _
      · exact h.tell
    · exact h.tell
  · exact h.tell
theorem rem_sub {F : List Fb} {f x g' : Nat} (hU : FbU F) (hf : f < F.length) (h : fbI (fbR9 F f) x = some g') : ∃ g, fbI F x = some g ∧ fbL F g = fbL (fbR9 F f) g' := by
  have h1 := fbI_b h
  rw [fb_rlen] at h1
  have h2 := fbI_p h
  have h3 := fb_rem hf h1
  unfold fbP at h2
  rw [h3] at h2
  by_cases e : g' = f
  · rw [if_pos e] at h2 h3
    refine ⟨F.length - 1, ?_, by unfold fbL; rw [h3]⟩
    have := hU (F.length - 1) (by omega)
    unfold fbP at this
    rw [h2] at this; exact this
  · rw [if_neg e] at h2 h3
    refine ⟨g', ?_, by unfold fbL; rw [h3]⟩
    have := hU g' (by omega)
    unfold fbP at this
    rw [h2] at this; exact this
theorem Fdp_rem {F : List Fb} {f : Nat} (hU : FbU F) (hf : f < F.length) : ∀ (n x : Nat), Fdp F n x → Fdp (fbR9 F f) n x
  | 0, x, h => by
    rcases e : fbI (fbR9 F f) x with _ | g'
    · exact e
    · obtain ⟨g, h1, _⟩ := rem_sub hU hf e
      have h2 : fbI F x = none := h
      rw [h2] at h1; cases h1
  | n + 1, x, h => fun g' hg y hy => by
    obtain ⟨g, h1, h2⟩ := rem_sub hU hf hg
    rw [← h2] at hy
    exact Fdp_rem hU hf n y (h g h1 y hy)
theorem sumN_le1 {f g : Nat → Nat} : ∀ {l : List Nat}, (∀ x, x ∈ l → f x ≤ g x) → sumN f l ≤ sumN g l := fun {l} h => by
  have := sumN_le (f := f) (g := g) (c := 1) (l := l) (fun x hx => by have := h x hx; omega)
  omega
theorem fbN_rem {F : List Fb} {f : Nat} (hU : FbU F) (hF : FbW F) (hf : f < F.length) : ∀ (n x : Nat), fbN (fbR9 F f) n x ≤ fbN F n x
  | 0, x => Nat.le_refl _
  | n + 1, x => by
    rcases e : fbI (fbR9 F f) x with _ | g'
    · rw [fbN_no e]; exact fbN_pos hF _ _
    · obtain ⟨g, h1, h2⟩ := rem_sub hU hf e
      rw [fbN_s e, fbN_s h1, h2]
      exact sumN_le1 (fun y _ => fbN_rem hU hF hf n y)
theorem FbW_rem {F : List Fb} {f : Nat} (hF : FbW F) (hf : f < F.length) : FbW (fbR9 F f) := by
  intro k hk
  rw [fb_rlen] at hk
  have h3 := fb_rem hf hk
  unfold fbP fbL
  rw [h3]
  split
  · exact hF (F.length - 1) (by omega)
  · exact hF k (by omega)
theorem AbI.fbs {A : Ab} {F : List Fb} (h : AbI A) (h1 : FbW F) (h2 : ∀ x, Fdp F 40 x) (h3 : ∀ x, fbN F 40 x ≤ 16) (h4 : FbU F) (h5 : F.length ≤ 40) : AbI (A.wFbs F) := by
  obtain ⟨⟨a1, a2, a3, a4, a5, a6, a7, a8, a9⟩, b1, b2, b3, b4, b5⟩ := h
  exact ⟨⟨a1, a2, a3, a4, a5, a6, a7, h1, h2⟩, h3, b2, h4, h5, b5⟩
theorem I_fallback {A : Ab} {p : Int32} (h : AbI A) : AbI (sp_fallback A p).2 := by
  obtain ⟨⟨a1, a2, a3, a4, a5, a6, a7, a8, a9⟩, b1, b2, b3, b4, b5⟩ := id h
  unfold sp_fallback
  split
  · rename_i h1
    obtain ⟨t, ht, ht1, ht2⟩ := jPoint_n h1
    split
    · exact h.tell
    · rename_i ps hps
      split
      · rename_i h4
        split
        · split
          · exact h
          · rename_i f hf
            have hl := fbI_b hf
            exact h.fbs (FbW_rem a8 hl) (fun x => Fdp_rem b3 hl 40 x (a9 x)) (fun x => Nat.le_trans (fbN_rem b3 a8 hl 40 x) (b1 x)) (FbU.rem b3 hl) (by rw [fb_rlen]; omega)
        · split
          · exact h.tell
          · split
            · split
              · rename_i h5 h6 h7 h8
                have hk := fbS9_ok (pt := p.toInt.toNat) (ps := ps) b4 b3 a8 (by rw [ht2]; exact ht) (by omega) h4 (ptA_pt a5 _ _ _ _ (fun x hx => by cases hx) hps) h6
                exact AbI.uns (h.fbs hk.2.2 (okD_Fdp h7) (okL_N h7 h8) hk.1 hk.2.1) (fun x hx => by cases hx)
              · exact h.tell
            · exact h.tell
      · exact h.tell
  · exact h.tell
