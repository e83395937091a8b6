/-! what every call keeps: machines -/
theorem AbM.set {A : Ab} {D : Nat} {m : Mc} (h : AbM A) (hm : MW A m) : AbM (A.wMcs (setM A.mcs D m)) := by
  intro i m' h1
  replace h1 : setM A.mcs D m i = some m' := h1
  unfold setM at h1
  split at h1
  · cases h1; exact hm
  · exact h i m' h1
theorem AbI.mcs {A : Ab} {D : Nat} {m : Mc} (h : AbI A) (hm : MW A m) : AbI (A.wMcs (setM A.mcs D m)) := by
  obtain ⟨a, b1, b2, b3⟩ := h
  exact ⟨a, b1, b2.set hm, b3⟩
theorem I_begin {A : Ab} {d p ru : Int32} {wr : Bool} (h : AbI A) : AbI (sp_begin A d p wr ru).2 := by
  unfold sp_begin
  split
  · rename_i h1
    split
    · rename_i h2
      by_cases h3 : 0 ≤ ru.toInt ∧ ru.toInt ≤ (if wr = true then 4 else 3)
      · rw [if_pos h3]
        have hm : MW A (p.toInt.toNat, wr, ru.toInt.toNat, 0, 4, [], 0, 0, []) := by
          refine ⟨by show p.toInt.toNat < _; omega, h2, ?_, Nat.le_refl _, Nat.zero_le _, ⟨Nat.le_refl _, Nat.zero_le _⟩, fun _ => ⟨SOk0 _ _, Or.inl rfl⟩, fun hw => ⟨?_, by show 0 < 4; decide, fun j => ?_, Nat.zero_le _⟩⟩
          · show ru.toInt.toNat < 5
            split at h3 <;> omega
          · show ru.toInt.toNat < 4
            replace hw : wr = false := hw
            rw [hw, if_neg (by decide)] at h3
            omega
          · show ([] : List Nat).getD j 0 < 256
            rw [List.getD_nil]; decide
        exact h.mcs hm
      · rw [if_neg h3]; exact h.tell
    · exact h.tell
  · exact h.tell
theorem I_take {A : Ab} {d : Int32} (h : AbI A) : AbI (sp_take A d).2 := by
  unfold sp_take
  split
  · split
    · exact h.tell
    · rename_i m hm
      have hw := h.2.2.1 _ m hm
      split
      · exact h.tell
      · rename_i v l hl
        obtain ⟨a1, a2, a3, a4, a5, a6, a7, a8⟩ := hw
        rw [hl, List.length_cons] at a5
        exact h.mcs ⟨a1, a2, a3, a4, by show l.length ≤ 1200; omega, a6, a7, a8⟩
  · exact h.tell
theorem rdK_b {K rule rs : Nat} {E : List En} {H : List Sh} {last : Bool} (hW : TbW E H) : ∀ (m sr pn : Nat) (ks us : List Nat), (∀ j, ks.getD j 0 < 256) → sr < 4 → pn ≤ 4 → (rdK K E H rule rs last m sr pn ks us).2.1 < 4 ∧ (rdK K E H rule rs last m sr pn ks us).2.2.1 ≤ 4 ∧ (∀ j, (rdK K E H rule rs last m sr pn ks us).2.2.2.1.getD j 0 < 256) ∧ (rdK K E H rule rs last m sr pn ks us).2.2.2.1.length ≤ ks.length ∧ (rdK K E H rule rs last m sr pn ks us).2.2.2.2.length ≤ us.length + 2 * ks.length
  | 0, sr, pn, ks, us, hb, h1, h2 => ⟨h1, h2, hb, Nat.le_refl _, Nat.le_add_right _ _⟩
  | m + 1, sr, pn, ks, us, hb, h1, h2 => by
    rw [rdK]
    split
    · exact ⟨h1, h2, hb, Nat.le_refl _, Nat.le_add_right _ _⟩
    · rename_i h3
      obtain ⟨b1, b2, b3, b4, b5, b6, b7⟩ := rd1_b (K := K) (rule := rule) (sg := rs) (last := last) hW hb (by omega) h1 h2
      split
      · exact ⟨b2, b3, hb, Nat.le_refl _, Nat.le_add_right _ _⟩
      · rename_i h4
        have := rdK_b (K := K) (rule := rule) (rs := rs) (last := last) hW m (rd1 K E H rule rs last sr pn ks).2.1 (rd1 K E H rule rs last sr pn ks).2.2.1 (ks.drop (rd1 K E H rule rs last sr pn ks).1) (us ++ (rd1 K E H rule rs last sr pn ks).2.2.2.1) (fun j => by rw [getD_drop9]; exact hb _) b2 b3
        refine ⟨this.1, this.2.1, this.2.2.1, ?_, ?_⟩
        · have h5 := this.2.2.2.1
          rw [List.length_drop] at h5
          omega
        · have h5 := this.2.2.2.2
          rw [List.length_drop, List.length_append] at h5
          omega
/-- a reading machine before its bytes are read: one more byte may be kept -/
def MR (A : Ab) (m : Mc) : Prop := m.1 < A.pgs.length ∧ pgC A.pgs m.1 = true ∧ m.2.2.1 < 4 ∧ m.2.2.2.2.2.1.length ≤ m.2.2.2.2.2.2.1 ∧ m.2.2.2.2.2.2.2.2.length ≤ 300 ∧ (m.2.2.2.2.1 ≤ 4 ∧ m.2.2.2.2.2.2.2.1 ≤ 2) ∧ m.2.1 = false ∧ m.2.2.2.1 < 4 ∧ (∀ j, m.2.2.2.2.2.1.getD j 0 < 256) ∧ m.2.2.2.2.2.1.length ≤ 8
theorem I_reads {A : Ab} {D : Nat} {m : Mc} {last : Bool} (h : AbI A) (hm : MR A m) : AbI (sp_reads A D m last).2 := by
  obtain ⟨a1, a2, a3, a4, a5, a6, a7, a8, a9, a10⟩ := hm
  have hb := rdK_b (K := pgK A.pgs m.1) (rule := m.2.2.1) (rs := A.sgn.1) (last := last) (h.1.1 m.1 a1) (m.2.2.2.2.2.1.length + 1) m.2.2.2.1 m.2.2.2.2.1 m.2.2.2.2.2.1 [] a9 a8 a6.1
  replace hb : (rdX A m last).2.1 < 4 ∧ (rdX A m last).2.2.1 ≤ 4 ∧ (∀ j, (rdX A m last).2.2.2.1.getD j 0 < 256) ∧ (rdX A m last).2.2.2.1.length ≤ m.2.2.2.2.2.1.length ∧ (rdX A m last).2.2.2.2.length ≤ ([] : List Nat).length + 2 * m.2.2.2.2.2.1.length := hb
  rw [List.length_nil] at hb
  unfold sp_reads
  split
  · refine AbI.tell (A := (A.wPlc _).wMcs _) (AbI.mcs (A := A.wPlc _) h.plc ⟨a1, a2, by show m.2.2.1 < 5; omega, Nat.zero_le _, ?_, ⟨Nat.le_refl _, Nat.le_refl _⟩, fun hw => ?_, fun _ => ⟨a3, hb.1, fun j => ?_, Nat.zero_le _⟩⟩)
    · show (m.2.2.2.2.2.2.2.2 ++ (rdX A m last).2.2.2.2).length ≤ 1200
      rw [List.length_append]; omega
    · replace hw : m.2.1 = true := hw
      rw [a7] at hw; cases hw
    · show ([] : List Nat).getD j 0 < 256
      rw [List.getD_nil]; decide
  · rename_i hx
    have he := rdK_end (K := pgK A.pgs m.1) (rule := m.2.2.1) (rs := A.sgn.1) (last := last) (h.1.1 m.1 a1) (m.2.2.2.2.2.1.length + 1) m.2.2.2.1 m.2.2.2.2.1 m.2.2.2.2.2.1 [] (by omega) a9 a8 a6.1 (rdX A m last).2.1 (rdX A m last).2.2.1 (rdX A m last).2.2.2.1 (rdX A m last).2.2.2.2 (by
      rcases hz : rdX A m last with ⟨z1, z2⟩
      rw [hz] at hx
      unfold rdX at hz
      rw [hz]
      cases z1
      · rfl
      · exact absurd rfl hx)
    have hk7 : (rdX A m last).2.2.2.1.length ≤ 7 := by
      cases last
      · have := he.2.2.2.2.2.2 rfl; omega
      · rw [he.2.2.2.2.2.1 rfl]; exact Nat.zero_le _
    refine h.mcs ⟨a1, a2, by show m.2.2.1 < 5; omega, ?_, ?_, ⟨hb.2.1, a6.2⟩, fun hw => ?_, fun _ => ⟨a3, hb.1, hb.2.2.1, hk7⟩⟩
    · show (rdX A m last).2.2.2.1.length ≤ m.2.2.2.2.2.2.1
      omega
    · show (m.2.2.2.2.2.2.2.2 ++ (rdX A m last).2.2.2.2).length ≤ 1200
      rw [List.length_append]; omega
    · replace hw : m.2.1 = true := hw
      rw [a7] at hw; cases hw
theorem gh_ok9 {K st : Nat} {E : List En} {H : List Sh} (hG : Gd K E H) (hs : SOk K H st) : SOk K H (ghW K H st).2 := by
  unfold ghW
  split
  · rename_i hK
    obtain ⟨l, hl, h0⟩ := (hG hK).2 st (hs.2 hK)
    subst hK
    rw [hl]
    show SOk 0 H (gS H l st)
    rw [h0]; exact SOk0 _ _
  · exact hs
theorem wsL_ok {F : List Fb} {K rule sg a : Nat} {v : Option Nat} {y : List Nat × Nat} {E : List En} {H : List Sh} (hW : TbW E H) (hG : Gd K E H) (hF : FbW F) (hN : ∀ x, fbN F 40 x ≤ 16) (hsg : sg < 1114112) (hv : ∀ u, v = some u → u < 65536) (hy : SOk K H y.2) (hl : y.1.length ≤ 160) : SOk K H (wsL F K E H rule sg a v y).2.2.1 ∧ ((wsL F K E H rule sg a v y).2.2.2.1 = [] ∨ ∃ k0, (wsL F K E H rule sg a v y).2.2.2.1 = [k0] ∧ 55296 ≤ k0 ∧ k0 ≤ 56319) ∧ (wsL F K E H rule sg a v y).2.2.2.2.length ≤ 320 := by
  unfold wsL
  split
  · refine ⟨gh_ok9 hG hy, Or.inl rfl, ?_⟩
    show (y.1 ++ (ghW K H y.2).1).length ≤ 320
    have := ghW_len (K := K) (st := y.2) (H := H)
    rw [List.length_append]; omega
  · rename_i u
    have hu := hv u rfl
    split
    · rename_i h1
      exact ⟨hy, Or.inr ⟨u, rfl, h1.1, h1.2⟩, by show y.1.length ≤ 320; omega⟩
    · split
      · exact ⟨hy, Or.inl rfl, by show y.1.length ≤ 320; omega⟩
      · rename_i z hz
        have hz2 : SOk K H z.2 ∧ z.1.length ≤ 160 := by
          split at hz
          · exact ⟨wl1_ok hG hy z hz, by have := wl1_len hW hsg hz; omega⟩
          · exact ⟨wp1_ok hG hy z hz, wp1_len hW hF hN hsg (by omega) hz⟩
        refine ⟨hz2.1, Or.inl rfl, ?_⟩
        show (y.1 ++ z.1).length ≤ 320
        rw [List.length_append]; omega
theorem wsX_ok {F : List Fb} {K rule sg st : Nat} {ks : List Nat} {v : Option Nat} {E : List En} {H : List Sh} (hW : TbW E H) (hG : Gd K E H) (hF : FbW F) (hN : ∀ x, fbN F 40 x ≤ 16) (hsg : sg < 1114112) (hv : ∀ u, v = some u → u < 65536) (hs : SOk K H st) (hks : ks = [] ∨ ∃ k0, ks = [k0] ∧ 55296 ≤ k0 ∧ k0 ≤ 56319) : SOk K H (wsX F K E H rule sg st ks v).2.2.1 ∧ ((wsX F K E H rule sg st ks v).2.2.2.1 = [] ∨ ∃ k0, (wsX F K E H rule sg st ks v).2.2.2.1 = [k0] ∧ 55296 ≤ k0 ∧ k0 ≤ 56319) ∧ (wsX F K E H rule sg st ks v).2.2.2.2.length ≤ 320 := by
  rcases hks with rfl | ⟨k0, rfl, hk1, hk2⟩
  · exact wsL_ok (y := ([], st)) hW hG hF hN hsg hv hs (Nat.zero_le _)
  · unfold wsX
    simp only
    split
    · rename_i h1
      split
      · exact ⟨hs, Or.inl rfl, Nat.zero_le _⟩
      · rename_i y hy
        have hv9 : v.getD 0 < 65536 := by
          cases v with
          | none => exact absurd rfl h1.2
          | some u => exact hv u rfl
        have hv8 : 56320 ≤ v.getD 0 ∧ v.getD 0 ≤ 57343 := by
          cases v with
          | none => exact absurd rfl h1.2
          | some u => exact of_decide_eq_true h1.1
        refine ⟨wp1_ok hG hs y hy, Or.inl rfl, ?_⟩
        have := wp1_len hW hF hN hsg (by omega) hy
        show y.1.length ≤ 320
        omega
    · split
      · exact ⟨hs, Or.inl rfl, Nat.zero_le _⟩
      · rename_i y hy
        exact wsL_ok hW hG hF hN hsg hv (wl1_ok hG hs y hy) (by have := wl1_len hW hsg hy; omega)
theorem I_writes {A : Ab} {D : Nat} {m : Mc} {v : Option Nat} (h : AbI A) (hm : MW A m) (ht : m.2.1 = true) (hq : m.2.2.2.2.2.2.2.2.length ≤ 300) (hv : ∀ u, v = some u → u < 65536) (hf : 1 ≤ m.2.2.2.2.2.2.1 ∨ v = none) : AbI (sp_writes A D m v).2 := by
  obtain ⟨a1, a2, a3, a4, a5, a6, a7, a8⟩ := hm
  obtain ⟨s1, s2⟩ := a7 ht
  have hw := wsX_ok (F := A.fbs) (K := pgK A.pgs m.1) (rule := m.2.2.1) (sg := A.sgn.2) (v := v) (h.1.1 _ a1) (h.1.2.2.1 _ a1 a2) h.1.2.2.2.2.2.2.2.1 h.2.1 (nPt_lt h.1.2.2.2.2.2.2.1) hv s1 s2
  replace hw : SOk (pgK A.pgs m.1) (pgH A.pgs m.1) (wsM A m v).2.2.1 ∧ ((wsM A m v).2.2.2.1 = [] ∨ ∃ k0, (wsM A m v).2.2.2.1 = [k0] ∧ 55296 ≤ k0 ∧ k0 ≤ 56319) ∧ (wsM A m v).2.2.2.2.length ≤ 320 := hw
  unfold sp_writes
  split
  · refine AbI.tell (A := (A.wPlc _).wMcs _) (AbI.mcs (A := A.wPlc _) h.plc ⟨a1, a2, a3, Nat.zero_le _, ?_, ⟨Nat.le_refl _, Nat.le_refl _⟩, fun _ => ⟨hw.1, Or.inl rfl⟩, fun h9 => ?_⟩)
    · show (m.2.2.2.2.2.2.2.2 ++ (wsM A m v).2.2.2.2).length ≤ 1200
      rw [List.length_append]; omega
    · replace h9 : m.2.1 = false := h9
      rw [ht] at h9; cases h9
  · refine h.mcs ⟨a1, a2, a3, ?_, ?_, a6, fun _ => ⟨hw.1, hw.2.1⟩, fun h9 => ?_⟩
    · show (wsM A m v).2.2.2.1.length ≤ m.2.2.2.2.2.2.1
      rcases hw.2.1 with h9 | ⟨k0, h9, _⟩
      · rw [h9]; exact Nat.zero_le _
      · rcases hf with h8 | h8
        · rw [h9]; exact h8
        · exfalso
          have hn : (wsM A m none).2.2.2.1 = [] := by
            unfold wsM wsX
            rcases s2 with e | ⟨k1, e, _⟩
            · rw [e]; rfl
            · rw [e]
              simp only
              rw [if_neg (fun h7 => h7.2 rfl)]
              split
              · rfl
              · rfl
          rw [h8, hn] at h9; cases h9
    · show (m.2.2.2.2.2.2.2.2 ++ (wsM A m v).2.2.2.2).length ≤ 1200
      rw [List.length_append]; omega
    · replace h9 : m.2.1 = false := h9
      rw [ht] at h9; cases h9
theorem I_feed {A : Ab} {d v : Int32} (h : AbI A) : AbI (sp_feed A d v).2 := by
  unfold sp_feed
  split
  · split
    · exact h.tell
    · rename_i m hm
      have hw := h.2.2.1 _ m hm
      obtain ⟨a1, a2, a3, a4, a5, a6, a7, a8⟩ := id hw
      split
      · by_cases hv : 0 ≤ v.toInt ∧ v.toInt ≤ (if m.2.1 = true then 65535 else 255)
        · rw [if_pos hv]
          split
          · rename_i hq
            split
            · rename_i ht
              have hw1 : MW A (mFd m) := ⟨a1, a2, a3, by show m.2.2.2.2.2.1.length ≤ m.2.2.2.2.2.2.1 + 1; omega, a5, a6, a7, a8⟩
              rw [if_pos ht] at hv
              exact I_writes (h.mcs hw1) hw1 ht hq (fun u hu => by cases hu; omega) (Or.inl (by show 1 ≤ m.2.2.2.2.2.2.1 + 1; omega))
            · rename_i ht
              have ht : m.2.1 = false := by cases hb : m.2.1; rfl; exact absurd hb ht
              rw [ht, if_neg (by decide)] at hv
              obtain ⟨c1, c2, c3, c4⟩ := a8 ht
              have hkb : ∀ j, (m.2.2.2.2.2.1 ++ [v.toInt.toNat]).getD j 0 < 256 := getD_all (fun x hx => by
                rcases List.mem_append.mp hx with h9 | h9
                · exact getD_mem c3 x h9
                · rw [List.mem_singleton] at h9; omega) (by decide)
              have hl : (m.2.2.2.2.2.1 ++ [v.toInt.toNat]).length = m.2.2.2.2.2.1.length + 1 := by rw [List.length_append]; rfl
              have hr1 : MR A (mFk m v.toInt.toNat) := ⟨a1, a2, c1, by show (m.2.2.2.2.2.1 ++ [v.toInt.toNat]).length ≤ m.2.2.2.2.2.2.1 + 1; omega, hq, a6, ht, c2, hkb, by show (m.2.2.2.2.2.1 ++ [v.toInt.toNat]).length ≤ 8; omega⟩
              -- the machine with one byte more stands in the way for one step only
              have h9 := I_reads (D := d.toInt.toNat) (last := false) (A := A) h hr1
              unfold sp_reads at h9 ⊢
              have hx : rdX (A.wMcs (setM A.mcs d.toInt.toNat (mFk m v.toInt.toNat))) (mFk m v.toInt.toNat) false = rdX A (mFk m v.toInt.toNat) false := rfl
              rw [hx]
              have hss : ∀ y, setM (A.wMcs (setM A.mcs d.toInt.toNat (mFk m v.toInt.toNat))).mcs d.toInt.toNat y = setM A.mcs d.toInt.toNat y := fun y => by
                funext i
                show (if i = _ then some y else (if i = _ then _ else A.mcs i)) = (if i = _ then some y else A.mcs i)
                by_cases e : i = d.toInt.toNat
                · rw [if_pos e, if_pos e]
                · rw [if_neg e, if_neg e, if_neg e]
              rw [hss, hss]
              split at h9
              · rename_i e; rw [if_pos e]; exact h9
              · rename_i e; rw [if_neg e]; exact h9
          · exact h.tell
        · rw [if_neg hv]; exact h.tell
      · exact h.tell
  · exact h.tell
theorem I_edA {x : Int32 × Ab} {D : Nat} (h : AbI x.2) : AbI (edA x D).2 := by
  unfold edA
  show AbI (match x.2.mcs D with | none => x.2 | some m => x.2.wMcs (setM x.2.mcs D (mEd m)))
  split
  · exact h
  · rename_i m hm
    obtain ⟨a1, a2, a3, a4, a5, a6, a7, a8⟩ := h.2.2.1 _ m hm
    refine h.mcs ⟨a1, a2, a3, Nat.zero_le _, a5, ⟨Nat.le_refl _, ?_⟩, fun ht => ⟨(a7 ht).1, Or.inl rfl⟩, fun ht => ⟨(a8 ht).1, (a8 ht).2.1, fun j => ?_, Nat.zero_le _⟩⟩
    · show (if m.2.2.2.2.2.2.2.1 = 0 then 1 else m.2.2.2.2.2.2.2.1) ≤ 2
      have := a6.2
      split <;> omega
    · show ([] : List Nat).getD j 0 < 256
      rw [List.getD_nil]; decide
theorem I_end {A : Ab} {d : Int32} (h : AbI A) : AbI (sp_end A d).2 := by
  unfold sp_end
  split
  · split
    · exact h.tell
    · rename_i m hm
      have hw := h.2.2.1 _ m hm
      obtain ⟨a1, a2, a3, a4, a5, a6, a7, a8⟩ := id hw
      split
      · split
        · rename_i hq
          split
          · rename_i ht
            exact I_edA (I_writes h hw ht hq (fun u hu => by cases hu) (Or.inr rfl))
          · rename_i ht
            have ht : m.2.1 = false := by cases hb : m.2.1; rfl; exact absurd hb ht
            obtain ⟨c1, c2, c3, c4⟩ := a8 ht
            exact I_edA (I_reads h ⟨a1, a2, c1, a4, hq, a6, ht, c2, c3, by omega⟩)
        · exact h.tell
      · exact h.tell
  · exact h.tell
theorem A0_I : AbI A0 := by
  refine ⟨⟨fun P hP => absurd hP (Nat.not_lt_zero P), fun P hP => absurd hP (Nat.not_lt_zero P), fun P hP => absurd hP (Nat.not_lt_zero P), fun j => ?_, fun j => ?_, rfl, rfl, fun k hk => absurd hk (Nat.not_lt_zero k), fun x => Fdp_no rfl 40⟩, fun x => ?_, fun i m hm => (by cases hm), fun k hk => absurd hk (Nat.not_lt_zero k), Nat.zero_le _, by show 0 < 3; decide, fun _ => rfl, fun h => ?_, fun h => ?_⟩
  · show ([] : List Nat).getD j 0 < 256
    rw [List.getD_nil]; decide
  · show ([] : List Nat).getD j 0 < 65536
    rw [List.getD_nil]; decide
  · rw [fbN_no rfl]; decide
  · intro x hx; cases hx
  · intro x hx; cases hx
