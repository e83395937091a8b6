/-! good tables: ways are found -/
theorem ldB_spec {H : List Sh} {s : Nat} {f : Nat → Option (List Nat)} (hV : ∀ k, k < H.length → shV H k < 256) (hU : ∀ i k, i < H.length → k < H.length → i ≠ k → shS H i = shS H k → shV H i ≠ shV H k) : ∀ (m b : Nat), b + m = 256 → (ldB H s f m b = none → ∀ k, k < H.length → shS H k = s → b ≤ shV H k → f k = none) ∧ (∀ l', ldB H s f m b = some l' → ∃ k l, l' = k :: l ∧ k < H.length ∧ shS H k = s ∧ b ≤ shV H k ∧ f k = some l ∧ ∀ k', k' < H.length → shS H k' = s → b ≤ shV H k' → f k' ≠ none → shV H k ≤ shV H k')
  | 0, b, hb => ⟨fun _ k hk _ h1 => by have := hV k hk; omega, fun l' h => by cases h⟩
  | m + 1, b, hb => by
    have ih := ldB_spec (f := f) (s := s) hV hU m (b + 1) (by omega)
    rcases hf : ffd (sQ H s b) H.length 0 with _ | k
    · have e : ldB H s f (m + 1) b = ldB H s f m (b + 1) := by rw [ldB, hf]
      have nb : ∀ k, k < H.length → shS H k = s → shV H k ≠ b := fun k hk hs hv => by
        have := ffd_nn hf k (by omega) (by omega)
        rw [sQ, decide_eq_true hs, decide_eq_true hv] at this
        cases this
      rw [e]
      refine ⟨fun h k hk hs hv => ih.1 h k hk hs (by have := nb k hk hs; omega), fun l' h => ?_⟩
      obtain ⟨k, l, h1, h2, h3, h4, h5, h6⟩ := ih.2 l' h
      exact ⟨k, l, h1, h2, h3, by omega, h5, fun k' h7 h8 h9 h10 => h6 k' h7 h8 (by have := nb k' h7 h8; omega) h10⟩
    · have hk := ffd_lt hf
      have hp := ffd_p hf
      rw [sQ, Bool.and_eq_true, decide_eq_true_eq, decide_eq_true_eq] at hp
      rcases hfk : f k with _ | l
      · have e : ldB H s f (m + 1) b = ldB H s f m (b + 1) := by rw [ldB, hf]; simp only [hfk]
        have nb : ∀ k', k' < H.length → shS H k' = s → f k' ≠ none → shV H k' ≠ b := fun k' hk' hs hn hv => by
          by_cases e : k' = k
          · subst e; exact hn hfk
          · exact hU k' k hk' (by omega) e (hs.trans hp.1.symm) (hv.trans hp.2.symm)
        rw [e]
        refine ⟨fun h k' hk' hs hv => ?_, fun l' h => ?_⟩
        · by_cases e9 : f k' = none
          · exact e9
          · exact ih.1 h k' hk' hs (by have := nb k' hk' hs e9; omega)
        · obtain ⟨k1, l, h1, h2, h3, h4, h5, h6⟩ := ih.2 l' h
          exact ⟨k1, l, h1, h2, h3, by omega, h5, fun k' h7 h8 h9 h10 => h6 k' h7 h8 (by have := nb k' h7 h8 h10; omega) h10⟩
      · have e : ldB H s f (m + 1) b = some (k :: l) := by rw [ldB, hf]; simp only [hfk]
        rw [e]
        refine ⟨fun h => (by cases h), fun l' h => ?_⟩
        cases h
        exact ⟨k, l, rfl, by omega, hp.1, by omega, hfk, fun k' _ _ h9 _ => by omega⟩
/-- there is a way of so many shifts -/
def Wy (H : List Sh) (to : Nat) (sg : Bool) : Nat → Nat → Prop
  | 0, s => s = to
  | n + 1, s => ∃ k, k < H.length ∧ shS H k = s ∧ ((n = 0 ∧ shG H k = to ∧ (shK H k = true ∨ sg = true)) ∨ (n ≠ 0 ∧ shK H k = true ∧ Wy H to sg n (shG H k)))
def ldF (H : List Sh) (to : Nat) (sg : Bool) (n k : Nat) : Option (List Nat) := if n = 0 then (if shG H k = to ∧ (shK H k = true ∨ sg = true) then some [] else none) else if shK H k = true then ldW H to sg n (shG H k) else none
theorem ldW_s {H : List Sh} {to n s : Nat} {sg : Bool} : ldW H to sg (n + 1) s = ldB H s (ldF H to sg n) 256 0 := rfl
theorem ldW_Wy {H : List Sh} {to : Nat} {sg : Bool} (hV : ∀ k, k < H.length → shV H k < 256) (hU : ∀ i k, i < H.length → k < H.length → i ≠ k → shS H i = shS H k → shV H i ≠ shV H k) : ∀ (n s : Nat), (ldW H to sg n s ≠ none ↔ Wy H to sg n s)
  | 0, s => by
    unfold ldW Wy
    by_cases e : s = to
    · rw [if_pos e]; exact ⟨fun _ => e, fun _ h => by cases h⟩
    · rw [if_neg e]; exact ⟨fun h => absurd rfl h, fun h => absurd h e⟩
  | n + 1, s => by
    have ih := ldW_Wy (to := to) (sg := sg) hV hU n
    have hF : ∀ k, (ldF H to sg n k ≠ none ↔ ((n = 0 ∧ shG H k = to ∧ (shK H k = true ∨ sg = true)) ∨ (n ≠ 0 ∧ shK H k = true ∧ Wy H to sg n (shG H k)))) := fun k => by
      unfold ldF
      by_cases e : n = 0
      · rw [if_pos e]
        by_cases e2 : shG H k = to ∧ (shK H k = true ∨ sg = true)
        · rw [if_pos e2]; exact ⟨fun _ => Or.inl ⟨e, e2⟩, fun _ h => by cases h⟩
        · rw [if_neg e2]; exact ⟨fun h => absurd rfl h, fun h => by rcases h with h | h; (exact absurd h.2 e2); exact absurd e h.1⟩
      · rw [if_neg e]
        by_cases e2 : shK H k = true
        · rw [if_pos e2, ih]; exact ⟨fun h => Or.inr ⟨e, e2, h⟩, fun h => by rcases h with h | h; (exact absurd h.1 e); exact h.2.2⟩
        · rw [if_neg e2]; exact ⟨fun h => absurd rfl h, fun h => by rcases h with h | h; (exact absurd h.1 e); exact absurd h.2.1 e2⟩
    have sp := ldB_spec (f := ldF H to sg n) (s := s) hV hU 256 0 (by omega)
    rw [ldW_s]
    constructor
    · intro h
      rcases hl : ldB H s (ldF H to sg n) 256 0 with _ | l'
      · exact absurd hl h
      · obtain ⟨k, l, _, h2, h3, _, h5, _⟩ := sp.2 l' hl
        exact ⟨k, h2, h3, (hF k).mp (by rw [h5]; intro h9; cases h9)⟩
    · rintro ⟨k, h1, h2, h3⟩ hn
      exact (hF k).mpr h3 (sp.1 hn k h1 h2 (Nat.zero_le _))
theorem gw_sp {H : List Sh} {to s : Nat} {sg : Bool} : ∀ (m n : Nat), (gw H to sg s m n = none → ∀ j, n ≤ j → j < n + m → ldW H to sg j s = none) ∧ (∀ l, gw H to sg s m n = some l → n ≤ l.length ∧ l.length < n + m ∧ ldW H to sg l.length s = some l ∧ ∀ j, n ≤ j → j < l.length → ldW H to sg j s = none)
  | 0, n => ⟨fun _ j h1 h2 => by omega, fun l h => by cases h⟩
  | m + 1, n => by
    have ih := gw_sp (H := H) (to := to) (s := s) (sg := sg) m (n + 1)
    rcases hl : ldW H to sg n s with _ | l
    · have e : gw H to sg s (m + 1) n = gw H to sg s m (n + 1) := by rw [gw, hl]
      rw [e]
      refine ⟨fun h j h1 h2 => ?_, fun l h => ?_⟩
      · by_cases ej : j = n
        · subst ej; exact hl
        · exact ih.1 h j (by omega) (by omega)
      · obtain ⟨a1, a2, a3, a4⟩ := ih.2 l h
        refine ⟨by omega, by omega, a3, fun j h1 h2 => ?_⟩
        by_cases ej : j = n
        · subst ej; exact hl
        · exact a4 j (by omega) h2
    · have e : gw H to sg s (m + 1) n = some l := by rw [gw, hl]
      have hln := ldW_len n s l hl
      rw [e]
      refine ⟨fun h => (by cases h), fun l2 h => ?_⟩
      cases h
      rw [hln]
      exact ⟨Nat.le_refl _, by omega, hl, fun j h1 h2 => by omega⟩
theorem gP_ex {H : List Sh} {to s n : Nat} {sg : Bool} (hn : n < 7) (h : ldW H to sg n s ≠ none) : ∃ l, gP H to sg s = some l := by
  rcases hl : gP H to sg s with _ | l
  · exact absurd ((gw_sp 7 0).1 hl n (by omega) (by omega)) h
  · exact ⟨l, rfl⟩
theorem Pt_Wy {H : List Sh} {t : Nat} {sg : Bool} : ∀ {n s : Nat}, Pt H n s t → Wy H t sg n s
  | 0, _, h => h
  | n + 1, s, ⟨k, h1, h2, h3, h4⟩ => by
    refine ⟨k, h1, h2, ?_⟩
    cases n with
    | zero => exact Or.inl ⟨rfl, h4, Or.inl h3⟩
    | succ n => exact Or.inr ⟨by omega, h3, Pt_Wy h4⟩
theorem Pt_Wy1 {H : List Sh} {t u k : Nat} (hk : k < H.length) (hs : shS H k = u) (hg : shG H k = t) : ∀ {n s : Nat}, Pt H n s u → Wy H t true (n + 1) s
  | 0, s, h => ⟨k, hk, by rw [hs]; exact h.symm, Or.inl ⟨rfl, hg, Or.inr rfl⟩⟩
  | n + 1, s, ⟨k0, h1, h2, h3, h4⟩ => ⟨k0, h1, h2, Or.inr ⟨by omega, h3, Pt_Wy1 hk hs hg h4⟩⟩
/-- where a way ends: each step from the state ahead -/
theorem ldW_st {H : List Sh} {to : Nat} {sg : Bool} {P : Nat → Prop} (hV : ∀ k, k < H.length → shV H k < 256) (hU : ∀ i k, i < H.length → k < H.length → i ≠ k → shS H i = shS H k → shV H i ≠ shV H k) (hP : ∀ k, k < H.length → shK H k = true → P (shS H k) → P (shG H k)) : ∀ (n s : Nat) (l : List Nat), ldW H to sg n s = some l → P s → P (gS H l s) ∧ (sg = false → gS H l s = to)
  | 0, s, l, h, hp => by
    unfold ldW at h
    split at h
    · rename_i e; cases h; exact ⟨hp, fun _ => e⟩
    · cases h
  | n + 1, s, l', h, hp => by
    rw [ldW_s] at h
    obtain ⟨k, l, h1, h2, h3, _, h5, _⟩ := (ldB_spec hV hU 256 0 (by omega)).2 l' h
    subst h1
    unfold ldF at h5
    show P (gS H l (if shK H k = true then shG H k else s)) ∧ _
    by_cases e : n = 0
    · rw [if_pos e] at h5
      split at h5
      · rename_i h9
        cases h5
        by_cases hk : shK H k = true
        · refine ⟨?_, fun _ => ?_⟩
          · rw [if_pos hk]; exact hP k h2 hk (by rw [h3]; exact hp)
          · show (if shK H k = true then shG H k else s) = to
            rw [if_pos hk]; exact h9.1
        · refine ⟨?_, fun hsg => ?_⟩
          · rw [if_neg hk]; exact hp
          · rcases h9.2 with h8 | h8
            · exact absurd h8 hk
            · rw [hsg] at h8; cases h8
      · cases h5
    · rw [if_neg e] at h5
      split at h5
      · rename_i hk
        rw [if_pos hk]
        have := ldW_st hV hU hP n (shG H k) l h5 (hP k h2 hk (by rw [h3]; exact hp))
        refine ⟨this.1, fun hsg => ?_⟩
        show gS H l (if shK H k = true then shG H k else s) = to
        rw [if_pos hk]; exact this.2 hsg
      · cases h5
theorem gd_of {E : List En} {H : List Sh} (hW : TbW E H) (h : gdA E H = none) : NoC E H ∧ Gd 0 E H := by
  unfold gdA at h
  rcases h1 : gd1 E H (E.length + H.length) 0 with _ | x1
  case some => rw [h1] at h; cases h
  rw [h1] at h
  rcases h2 : gd2 E E.length 0 none with _ | x2
  case some => rw [h2] at h; cases h
  rw [h2] at h
  rcases h3 : ffd (gd3P H) 4 0 with _ | x3
  case some => rw [h3] at h; cases h
  rw [h3] at h
  rcases h4 : ffd (gd4P E H) E.length 0 with _ | x4
  case some => rw [h4] at h; cases h
  have hN := noc_of hW h1
  refine ⟨hN, fun _ => ?_⟩
  have hG : ∀ k, k < H.length → shS H k < 4 ∧ shG H k < 4 := fun k hk => ⟨(hW.2.2.2 k hk).1, (hW.2.2.2 k hk).2.2.1⟩
  have hV : ∀ k, k < H.length → shV H k < 256 := fun k hk => (hW.2.2.2 k hk).2.1
  have hU := hN.2.2
  have hC : Cl (shS H) (shG H) (shK H) H.length (rchd H) := by
    unfold rchd
    rw [rcK_34 (by decide) (by decide) (fun k hk => (hG k hk).1) (fun k hk => (hG k hk).2)]
    exact rcK_cl (by decide) (by decide) (fun k hk => (hG k hk).1) (fun k hk => (hG k hk).2)
  have hRs : ∀ k, k < H.length → shK H k = true → Rs H (shS H k) → Rs H (shG H k) := fun k hk hs hr => ⟨(hG k hk).2, hC k hk hs hr.2⟩
  -- from each reached state to each reached one
  have all : ∀ s t, Rs H s → Rs H t → ∃ m, m ≤ 3 ∧ Pt H m s t := fun s t hs ht => by
    have hh : hmS H s = true := by
      have := ffd_nn h3 s (by omega) (by have := hs.1; omega)
      rw [gd3P, hs.2, Bool.true_and] at this
      simpa using this
    obtain ⟨m1, p1⟩ := rch_Pt hG hs.1 (by decide) hh
    obtain ⟨m2, p2⟩ := rch_Pt hG (show 0 < 4 by decide) ht.1 ht.2
    exact Pt.short hG _ s t hs.1 (p1.cat p2)
  refine ⟨fun st pt ts n v hs hf => ?_, fun st hs => ?_⟩
  · obtain ⟨j, hj, he⟩ : ∃ j, ffd (pf2 E pt) E.length 0 = some j ∧ ts = enS E j := by
      rw [fnd, if_pos rfl] at hf
      rcases hx : ffd (pf2 E pt) E.length 0 with _ | j
      · rw [hx] at hf; cases hf
      · rw [hx] at hf; cases hf; exact ⟨j, rfl, rfl⟩
    have hjl := ffd_lt hj
    have hjp := (pf2_iff.mp (ffd_p hj)).2
    have hts := (hW.2.2.1 j (by omega)).1
    have hw : ∃ n, n < 7 ∧ Wy H ts true n st := by
      have h9 := ffd_nn h4 j (by omega) (by omega)
      rw [gd4P, hjp, Bool.true_and, ← he] at h9
      cases hr : (rchd H).testBit ts with
      | true =>
        obtain ⟨m, hm, hp⟩ := all st ts hs ⟨by omega, hr⟩
        exact ⟨m, by omega, Pt_Wy hp⟩
      | false =>
        rw [hr] at h9
        have h8 : anyB (sg4 E H j) H.length = true := by simpa using h9
        have anyE : ∀ n, anyB (sg4 E H j) n = true → ∃ k, k < n ∧ sg4 E H j k = true := by
          intro n
          induction n with
          | zero => intro h; cases h
          | succ n ih =>
            intro h
            rw [anyB, Bool.or_eq_true] at h
            rcases h with h | h
            · obtain ⟨k, h1, h2⟩ := ih h; exact ⟨k, by omega, h2⟩
            · exact ⟨n, by omega, h⟩
        obtain ⟨k, hk, hs4⟩ := anyE _ h8
        rw [sg4, Bool.and_eq_true, Bool.and_eq_true, decide_eq_true_eq] at hs4
        obtain ⟨m, hm, hp⟩ := all st (shS H k) hs ⟨(hG k hk).1, hs4.1.2⟩
        exact ⟨m + 1, by omega, Pt_Wy1 hk rfl (by rw [he]; exact hs4.2) hp⟩
    obtain ⟨m, hm, hwy⟩ := hw
    obtain ⟨l, hl⟩ := gP_ex hm ((ldW_Wy hV hU m st).mpr hwy)
    refine ⟨l, hl, ?_⟩
    obtain ⟨_, _, a3, _⟩ := (gw_sp 7 0).2 l hl
    exact (ldW_st hV hU hRs _ _ _ a3 hs).1
  · obtain ⟨m, hm, hp⟩ := all st 0 hs (Rs0 H)
    obtain ⟨l, hl⟩ := gP_ex (sg := false) (show m < 7 by omega) ((ldW_Wy hV hU m st).mpr (Pt_Wy hp))
    obtain ⟨_, _, a3, _⟩ := (gw_sp 7 0).2 l hl
    exact ⟨l, hl, (ldW_st (P := fun _ => True) hV hU (fun _ _ _ _ => trivial) _ _ _ a3 trivial).2 rfl⟩
