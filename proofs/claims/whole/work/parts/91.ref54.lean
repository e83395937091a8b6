/-! the reference: takeShift, takeIn, receive -/
set_option maxRecDepth 100000 in
theorem r_takeShift {d r : Nat} {h h0 : mH} {s : rS} {P i : Nat} {bs : List Nat} {E : List En} {H : List Sh} {Q : mP} (hR : Rf r h0 s h) (hb1 : bs.length ≤ 1000) (hb : ∀ j, bs.getD j 0 < 256) (hby : ∀ j, j < bs.length → s.2.2 15 j = bs.getD j 0) (hi : i ≤ 5000) (h67 : s.1 67 = i) (h68 : s.1 68 = bs.length) (hT : TbR s P E H) (hW : TbW E H) (hH : H.length < 10)  (q0 : tsS H bs i = none → ∀ h' s', Rf r h0 s' h' → Tk P s s' → Q (some (.int (nI 0))) h') (q1 : ∀ e, tsS H bs i = some e → ∀ h' s', Rf r h0 s' h' → Tk P s s' → TbR s' P E (H ++ [e]) → s'.1 67 = i + 4 → s'.1 68 = bs.length → Q (some (.int (nI 1))) h') : mWP (d + 3) 258 [.ref r, .int (nI P)] h Q := by
  have hT4 := hT.2.2.1
  have hT0 := hT.1
  have hb1b := hb (i + 1)
  refine z_in [some (.ref r), some (.int (nI P)), none, none, none, none, none] (by rfl) rfl rfl rfl ?_
  refine z_aload 1 rfl rfl rfl ?_
  refine z_cv0 4 rfl rfl hR.1 rfl (Nat.le_refl _) (Nat.le_refl _) ?_
  refine r_next hR h67 h68 (by omega) hb1 (fun j hj => hby j hj) (fun h hR => ?_)
  refine z_istore 5 rfl rfl rfl rfl ?_
  refine z_aload 6 rfl rfl rfl ?_
  refine z_cv0 9 rfl rfl hR.1 rfl (Nat.le_refl _) (Nat.le_refl _) ?_
  refine r_next hR (gI_eq _ _ _) (Tk.h68 h68) (by omega) hb1 (fun j hj => hby j hj) (fun h hR => ?_)
  refine z_istore 10 rfl rfl rfl rfl ?_
  refine z_aload 11 rfl rfl rfl ?_
  refine z_cv0 14 rfl rfl hR.1 rfl (Nat.le_refl _) (Nat.le_refl _) ?_
  refine r_next hR (gI_eq _ _ _) (Tk.h68 (Tk.h68 h68)) (by omega) hb1 (fun j hj => hby j hj) (fun h hR => ?_)
  refine z_istore 16 rfl rfl rfl rfl ?_
  refine z_aload 17 rfl rfl rfl ?_
  refine z_cv0 20 rfl rfl hR.1 rfl (Nat.le_refl _) (Nat.le_refl _) ?_
  refine r_next hR (gI_eq _ _ _) (Tk.h68 (Tk.h68 (Tk.h68 h68))) (by omega) hb1 (fun j hj => hby j hj) (fun h hR => ?_)
  refine z_istore 22 rfl rfl rfl rfl ?_
  refine z_iload 23 rfl rfl rfl ?_
  refine z_push 24 (nI 0) rfl rfl rfl ?_
  refine z_push 25 (nI 3) rfl rfl rfl ?_
  refine z_cs3 28 rfl rfl rfl (Nat.le_refl _) (Nat.le_refl _) ?_
  refine r_in ?_
  rw [jIn_l (by omega) (by omega)]
  first | refine z_beq 31 rfl rfl (fun hc28 => ?_) (fun hc28 => ?_)
  · refine z_push 72 (nI 0) rfl rfl rfl ?_
    refine z_iretb rfl (Nat.le_refl _) (Nat.le_refl _) (by first | decide | exact bI_01 _) ?_
    exact q0 (by rw [tsS, if_neg (fun h9 => nxV_out (lo := 0) (hi := 3) hb hc28 ⟨by omega, by omega, h9.2.1⟩)]) h _ hR (Tk.n (Tk.n (Tk.n (Tk.n Tk.z))))
  · obtain ⟨hil0, _, hs3, e1⟩ := nxV_in (lo := 0) (hi := 3) hb hc28
    rw [e1]
    by_cases hbl : i + 1 < bs.length
    · rw [show nxV bs (i + 1) = nI (bs.getD (i + 1) 0) from if_pos hbl]
      refine z_iload 32 rfl rfl rfl ?_
      refine z_zlt 35 rfl rfl (by omega) (fun h9 => absurd h9 (by omega)) (fun _ => ?_)
      refine z_iload 37 rfl rfl rfl ?_
      refine z_push 38 (nI 0) rfl rfl rfl ?_
      refine z_push 39 (nI 3) rfl rfl rfl ?_
      refine z_cs3 42 rfl rfl rfl (Nat.le_refl _) (Nat.le_refl _) ?_
      refine r_in ?_
      rw [jIn_l (by omega) (by omega)]
      first | refine z_beq 45 rfl rfl (fun hc42 => ?_) (fun hc42 => ?_)
      · refine z_push 72 (nI 0) rfl rfl rfl ?_
        refine z_iretb rfl (Nat.le_refl _) (Nat.le_refl _) (by first | decide | exact bI_01 _) ?_
        exact q0 (by rw [tsS, if_neg (fun h9 => nxV_out (lo := 0) (hi := 3) hb hc42 ⟨by omega, by omega, h9.2.2.1⟩)]) h _ hR (Tk.n (Tk.n (Tk.n (Tk.n Tk.z))))
      · obtain ⟨hil2, _, hg3, e2⟩ := nxV_in (i := i + 1 + 1) (lo := 0) (hi := 3) hb hc42
        rw [e2]
        refine z_iload 46 rfl rfl rfl ?_
        refine z_iload 48 rfl rfl rfl ?_
        refine z_neq 51 rfl rfl (by omega) (by omega) (fun hc48 => ?_) (fun hc48 => ?_)
        · refine z_push 72 (nI 0) rfl rfl rfl ?_
          refine z_iretb rfl (Nat.le_refl _) (Nat.le_refl _) (by first | decide | exact bI_01 _) ?_
          exact q0 (by rw [tsS, if_neg (fun h9 => h9.2.2.2.1 hc48)]) h _ hR (Tk.n (Tk.n (Tk.n (Tk.n Tk.z))))
        · refine z_iload 53 rfl rfl rfl ?_
          refine z_push 54 (nI 0) rfl rfl rfl ?_
          refine z_push 55 (nI 1) rfl rfl rfl ?_
          refine z_cs3 58 rfl rfl rfl (Nat.le_refl _) (Nat.le_refl _) ?_
          refine r_in ?_
          rw [jIn_l (by omega) (by omega)]
          first | refine z_beq 61 rfl rfl (fun hc58 => ?_) (fun hc58 => ?_)
          · refine z_push 72 (nI 0) rfl rfl rfl ?_
            refine z_iretb rfl (Nat.le_refl _) (Nat.le_refl _) (by first | decide | exact bI_01 _) ?_
            exact q0 (by rw [tsS, if_neg (fun h9 => nxV_out (lo := 0) (hi := 1) hb hc58 ⟨by omega, by omega, h9.2.2.2.2.1⟩)]) h _ hR (Tk.n (Tk.n (Tk.n (Tk.n Tk.z))))
          · obtain ⟨hil3, _, hk3, e3⟩ := nxV_in (i := i + 1 + 1 + 1) (lo := 0) (hi := 1) hb hc58
            rw [e3]
            refine z_aload 62 rfl rfl rfl ?_
            refine z_iload 63 rfl rfl rfl ?_
            refine z_iload 64 rfl rfl rfl ?_
            refine z_iload 65 rfl rfl rfl ?_
            refine z_cv3 68 rfl rfl hR.1 rfl (Nat.le_refl _) (Nat.le_refl _) ?_
            refine r_shiftOf hR (show TbR (stI 67 (i + 1 + 1 + 1 + 1) (stI 67 (i + 1 + 1 + 1) (stI 67 (i + 1 + 1) (stI 67 (i + 1) s)))) P E H from hT) hW (by omega) (by omega) ?_
            rcases hfd : ffd (sQ H (bs.getD i 0) (bs.getD (i + 1) 0)) H.length 0 with _ | k9
            · simp only [oIb]
              refine z_jlt 71 rfl rfl (fun _ => ?_) (fun h9 => absurd h9 (by decide))
              refine z_push 75 (nI 10) rfl rfl rfl ?_
              refine z_iload 76 rfl rfl rfl ?_
              refine z_bop 77 _ rfl rfl (by first | with_reducible exact zb_2 _ _ | exact zd_2 _ _) ?_
              refine z_aload 78 rfl rfl rfl ?_
              refine y_ga 81 hR rfl rfl rfl ?_
              refine z_iload 82 rfl rfl rfl ?_
              refine y_al (f := 4) 83 _ hR rfl rfl rfl rfl (by omega) (by repeat (first | with_reducible exact hT4 | with_reducible exact gA_eq _ _ _ _ | (with_reducible apply gA_ne; decide) | with_reducible apply gA_I | with_reducible apply gA_O | (with_reducible apply gA_nj; omega) | with_reducible rfl)) ?_
              refine z_bop 84 _ rfl rfl (by first | with_reducible exact zb_0 _ _ | exact zd_0 _ _) ?_
              refine z_istore 86 rfl rfl rfl rfl ?_
              refine z_aload 87 rfl rfl rfl ?_
              refine y_ga 90 hR rfl rfl rfl ?_
              refine z_iload 92 rfl rfl rfl ?_
              refine z_iload 93 rfl rfl rfl ?_
              refine y_as (f := 10) 94 hR rfl rfl rfl rfl (by omega) ?_
              intro h hR
              refine z_aload 95 rfl rfl rfl ?_
              refine y_ga 98 hR rfl rfl rfl ?_
              refine z_iload 100 rfl rfl rfl ?_
              refine z_iload 101 rfl rfl rfl ?_
              refine y_as (f := 11) 102 hR rfl rfl rfl rfl (by omega) ?_
              intro h hR
              refine z_aload 103 rfl rfl rfl ?_
              refine y_ga 106 hR rfl rfl rfl ?_
              refine z_iload 108 rfl rfl rfl ?_
              refine z_iload 110 rfl rfl rfl ?_
              refine y_as (f := 12) 111 hR rfl rfl rfl rfl (by omega) ?_
              intro h hR
              refine z_aload 112 rfl rfl rfl ?_
              refine y_ga 115 hR rfl rfl rfl ?_
              refine z_iload 117 rfl rfl rfl ?_
              refine z_iload 119 rfl rfl rfl ?_
              refine z_push 120 (nI 1) rfl rfl rfl ?_
              refine z_nne 123 rfl rfl (by omega) (by omega) (fun hc120 => ?_) (fun hc120 => ?_)
              · refine z_push 128 (nI 0) rfl rfl rfl ?_
                refine y_bs (f := 13) 129 hR rfl rfl rfl rfl (by omega) (by decide) ?_
                intro h hR
                refine z_aload 130 rfl rfl rfl ?_
                refine y_ga 133 hR rfl rfl rfl ?_
                refine z_iload 134 rfl rfl rfl ?_
                refine z_dup2 135 rfl rfl ?_
                refine y_al (f := 4) 136 _ hR rfl rfl rfl rfl (by omega) (by repeat (first | with_reducible exact hT4 | with_reducible exact gA_eq _ _ _ _ | (with_reducible apply gA_ne; decide) | with_reducible apply gA_I | with_reducible apply gA_O | (with_reducible apply gA_nj; omega) | with_reducible rfl)) ?_
                refine z_push 137 (nI 1) rfl rfl rfl ?_
                refine z_bop 138 _ rfl rfl (by first | with_reducible exact zb_0 _ _ | exact zd_0 _ _) ?_
                refine y_as (f := 4) 139 hR rfl rfl rfl rfl (by omega) ?_
                intro h hR
                refine z_push 140 (nI 1) rfl rfl rfl ?_
                refine z_iretb rfl (Nat.le_refl _) (Nat.le_refl _) (by first | decide | exact bI_01 _) ?_
                have e9 : tsS H bs i = some ((bs.getD i 0), (bs.getD (i + 1) 0), (bs.getD (i + 2) 0), false) := by
                  rw [tsS, if_pos ⟨hil3, hs3, hg3, hc48, hk3, hfd⟩, show decide ((bs.getD (i + 3) 0) = 1) = false from decide_eq_false (by omega)]
                exact q1 _ e9 h _ hR (Tk.addS (k := H.length) (x := H.length + 1) (e := ((bs.getD i 0), (bs.getD (i + 1) 0), (bs.getD (i + 2) 0), false)) (Tk.n (Tk.n (Tk.n (Tk.n Tk.z)))) (by omega)) (TbR.addS (e := ((bs.getD i 0), (bs.getD (i + 1) 0), (bs.getD (i + 2) 0), false)) (show TbR (stI 67 (i + 1 + 1 + 1 + 1) (stI 67 (i + 1 + 1 + 1) (stI 67 (i + 1 + 1) (stI 67 (i + 1) s)))) P E H from hT)) (show (stI 67 (i + 1 + 1 + 1 + 1) (stI 67 (i + 1 + 1 + 1) (stI 67 (i + 1 + 1) (stI 67 (i + 1) s)))).1 67 = i + 4 from by rw [gI_eq]) (show (stI 67 (i + 1 + 1 + 1 + 1) (stI 67 (i + 1 + 1 + 1) (stI 67 (i + 1 + 1) (stI 67 (i + 1) s)))).1 68 = bs.length from Tk.h68 (Tk.h68 (Tk.h68 (Tk.h68 h68))))
              · refine z_push 124 (nI 1) rfl rfl rfl ?_
                refine z_goto rfl ?_
                refine y_bs (f := 13) 129 hR rfl rfl rfl rfl (by omega) (by decide) ?_
                intro h hR
                refine z_aload 130 rfl rfl rfl ?_
                refine y_ga 133 hR rfl rfl rfl ?_
                refine z_iload 134 rfl rfl rfl ?_
                refine z_dup2 135 rfl rfl ?_
                refine y_al (f := 4) 136 _ hR rfl rfl rfl rfl (by omega) (by repeat (first | with_reducible exact hT4 | with_reducible exact gA_eq _ _ _ _ | (with_reducible apply gA_ne; decide) | with_reducible apply gA_I | with_reducible apply gA_O | (with_reducible apply gA_nj; omega) | with_reducible rfl)) ?_
                refine z_push 137 (nI 1) rfl rfl rfl ?_
                refine z_bop 138 _ rfl rfl (by first | with_reducible exact zb_0 _ _ | exact zd_0 _ _) ?_
                refine y_as (f := 4) 139 hR rfl rfl rfl rfl (by omega) ?_
                intro h hR
                refine z_push 140 (nI 1) rfl rfl rfl ?_
                refine z_iretb rfl (Nat.le_refl _) (Nat.le_refl _) (by first | decide | exact bI_01 _) ?_
                have e9 : tsS H bs i = some ((bs.getD i 0), (bs.getD (i + 1) 0), (bs.getD (i + 2) 0), true) := by
                  rw [tsS, if_pos ⟨hil3, hs3, hg3, hc48, hk3, hfd⟩, show decide ((bs.getD (i + 3) 0) = 1) = true from decide_eq_true (by omega)]
                exact q1 _ e9 h _ hR (Tk.addS (k := H.length) (x := H.length + 1) (e := ((bs.getD i 0), (bs.getD (i + 1) 0), (bs.getD (i + 2) 0), true)) (Tk.n (Tk.n (Tk.n (Tk.n Tk.z)))) (by omega)) (TbR.addS (e := ((bs.getD i 0), (bs.getD (i + 1) 0), (bs.getD (i + 2) 0), true)) (show TbR (stI 67 (i + 1 + 1 + 1 + 1) (stI 67 (i + 1 + 1 + 1) (stI 67 (i + 1 + 1) (stI 67 (i + 1) s)))) P E H from hT)) (show (stI 67 (i + 1 + 1 + 1 + 1) (stI 67 (i + 1 + 1 + 1) (stI 67 (i + 1 + 1) (stI 67 (i + 1) s)))).1 67 = i + 4 from by rw [gI_eq]) (show (stI 67 (i + 1 + 1 + 1 + 1) (stI 67 (i + 1 + 1 + 1) (stI 67 (i + 1 + 1) (stI 67 (i + 1) s)))).1 68 = bs.length from Tk.h68 (Tk.h68 (Tk.h68 (Tk.h68 h68))))
            · simp only [oIb]
              have hf9 := ffd_lt hfd
              have hE9 := hW.2.1
              refine z_zlt 71 rfl rfl (by omega) (fun h9 => absurd h9 (by omega)) (fun _ => ?_)
              refine z_push 72 (nI 0) rfl rfl rfl ?_
              refine z_iretb rfl (Nat.le_refl _) (Nat.le_refl _) (by first | decide | exact bI_01 _) ?_
              exact q0 (by rw [tsS, if_neg (fun h9 => by have h8 := h9.2.2.2.2.2; rw [hfd] at h8; cases h8)]) h _ hR (Tk.n (Tk.n (Tk.n (Tk.n Tk.z))))
    · rw [show nxV bs (i + 1) = -1 from if_neg hbl]
      refine z_iload 32 rfl rfl rfl ?_
      refine z_jlt 35 rfl rfl (fun _ => ?_) (fun h9 => absurd h9 (by decide))
      refine z_push 72 (nI 0) rfl rfl rfl ?_
      refine z_iretb rfl (Nat.le_refl _) (Nat.le_refl _) (by first | decide | exact bI_01 _) ?_
      exact q0 (by rw [tsS, if_neg (fun h9 => absurd h9.1 (by omega))]) h _ hR (Tk.n (Tk.n (Tk.n (Tk.n Tk.z))))
def tiE (bs : List Nat) : Nat → List En → Nat → Option (List En × Nat)
  | 0, E, i => some (E, i)
  | k + 1, E, i => match teE E bs i with
    | none => none
    | some e => tiE bs k (E ++ [e]) (i + 6 + e.2.2.1)
def tiS (bs : List Nat) : Nat → List Sh → Nat → Option (List Sh × Nat)
  | 0, H, i => some (H, i)
  | k + 1, H, i => match tsS H bs i with
    | none => none
    | some e => tiS bs k (H ++ [e]) (i + 4)
/-- a page is taken from bytes -/
def tiA (bs : List Nat) : Option (List En × List Sh) :=
  if 0 < bs.length ∧ bs.getD 0 0 ≤ 100 then
    match tiE bs (bs.getD 0 0) [] 1 with
    | none => none
    | some x => if x.2 < bs.length ∧ bs.getD x.2 0 ≤ 10 then
        match tiS bs (bs.getD x.2 0) [] (x.2 + 1) with
        | none => none
        | some y => if y.2 = bs.length ∧ (gdA x.1 y.1).isNone = true then some (x.1, y.1) else none
      else none
  else none
theorem en_app {E : List En} {e : En} {k : Nat} : (E ++ [e]).getD k (0, 0, 0, 0, false) = if k < E.length then E.getD k (0, 0, 0, 0, false) else if k = E.length then e else (0, 0, 0, 0, false) := getD_app9 E k e _
theorem TbW.addE {E : List En} {H : List Sh} {bs : List Nat} {i : Nat} {e : En} (hb : ∀ j, bs.getD j 0 < 256) (h : TbW E H) (hl : E.length < 100) (he : teE E bs i = some e) : TbW (E ++ [e]) H ∧ 1 ≤ e.2.2.1 ∧ e.2.2.1 ≤ 3 := by
  have h9 : e.1 < 4 ∧ 1 ≤ e.2.2.1 ∧ e.2.2.1 ≤ 3 ∧ e.2.1 < 256 ^ e.2.2.1 ∧ nPt e.2.2.2.1 = true := by
    unfold teE at he
    split at he
    · rename_i h1
      split at he
      · rename_i h2
        cases he
        exact ⟨by show bs.getD i 0 < 4; omega, h1.2.2.1, h1.2.2.2, txF_b hb _, h2.2.2.1⟩
      · cases he
    · cases he
  refine ⟨⟨by rw [List.length_append]; exact hl, h.2.1, fun k hk => ?_, h.2.2.2⟩, h9.2.1, h9.2.2.1⟩
  rw [List.length_append] at hk
  have hk' : k < E.length + 1 := hk
  unfold enS enN enT enP
  rw [en_app]
  by_cases e1 : k < E.length
  · rw [if_pos e1]; exact h.2.2.1 k e1
  · rw [if_neg e1, if_pos (by omega)]; exact h9
theorem TbW.addS {E : List En} {H : List Sh} {bs : List Nat} {i : Nat} {e : Sh} (hb : ∀ j, bs.getD j 0 < 256) (h : TbW E H) (hl : H.length < 10) (he : tsS H bs i = some e) : TbW E (H ++ [e]) := by
  have h9 : e.1 < 4 ∧ e.2.1 < 256 ∧ e.2.2.1 < 4 ∧ e.1 ≠ e.2.2.1 := by
    unfold tsS at he
    split at he
    · rename_i h1
      cases he
      exact ⟨by show bs.getD i 0 < 4; omega, hb _, by show bs.getD (i + 2) 0 < 4; omega, h1.2.2.2.1⟩
    · cases he
  refine ⟨h.1, by rw [List.length_append]; exact hl, h.2.2.1, fun k hk => ?_⟩
  rw [List.length_append] at hk
  have hk' : k < H.length + 1 := hk
  unfold shS shV shG
  rw [getD_app9]
  by_cases e1 : k < H.length
  · rw [if_pos e1]; exact h.2.2.2 k e1
  · rw [if_neg e1, if_pos (by omega)]; exact h9
theorem Tk.good {P : Nat} {s s1 s2 : rS} (h : Tk P s s1) (hO : OnA fGd s1 s2) : Tk P s s2 := by
  have n : ∀ f, f ≠ 29 → f ≠ 30 → s2.2.2 f = s1.2.2 f := fun f h1 h2 => hO.2.2 f (by
    cases e1 : fGd f with
    | false => rfl
    | true =>
      simp only [fGd, Bool.or_eq_true] at e1
      rcases e1 with e | e
      · exact absurd (Nat.eq_of_beq_eq_true e) h1
      · exact absurd (Nat.eq_of_beq_eq_true e) h2)
  refine h.trans ⟨fun c _ _ => by rw [hO.1], fun f _ h2 h3 => n f h2 h3, n 1 (by decide) (by decide), n 2 (by decide) (by decide), fun p hp => ?_⟩
  unfold SameTb
  rw [n 3 (by decide) (by decide), n 4 (by decide) (by decide), n 5 (by decide) (by decide), n 6 (by decide) (by decide), n 7 (by decide) (by decide), n 8 (by decide) (by decide), n 9 (by decide) (by decide), n 10 (by decide) (by decide), n 11 (by decide) (by decide), n 12 (by decide) (by decide), n 13 (by decide) (by decide)]
  simp
theorem TbW0 : TbW [] [] := ⟨Nat.zero_le _, Nat.zero_le _, fun k hk => absurd hk (Nat.not_lt_zero k), fun k hk => absurd hk (Nat.not_lt_zero k)⟩
theorem Tk.b {P : Nat} {s s' : rS} {bs : List Nat} (h : Tk P s s') (hby : ∀ j, j < bs.length → s.2.2 15 j = bs.getD j 0) : ∀ j, j < bs.length → s'.2.2 15 j = bs.getD j 0 := fun j hj => by rw [h.2.1 15 (by decide) (by decide) (by decide)]; exact hby j hj
theorem Tk.z9 {P n : Nat} {s : rS} : Tk P s (stA 4 P 0 (stA 3 P 0 (stI 68 n (stI 67 0 s)))) := by
  refine ⟨fun c h1 h2 => gI_ne h2 (gI_ne h1 rfl), fun f h1 _ _ => ?_, ?_, ?_, fun p hp => ?_⟩
  · rw [gAf (by omega), gAf (by omega)]; rfl
  · rw [gAf (by omega), gAf (by omega)]; rfl
  · rw [gAf (by omega), gAf (by omega)]; rfl
  · unfold SameTb
    rw [gAf (show (3 : Nat) ≠ 4 by decide), gA_nj hp rfl, gA_nj hp rfl]
    simp only [gAf (show (4 : Nat) ≠ 3 by decide), gAf (show (5 : Nat) ≠ 3 by decide), gAf (show (6 : Nat) ≠ 3 by decide), gAf (show (7 : Nat) ≠ 3 by decide), gAf (show (8 : Nat) ≠ 3 by decide), gAf (show (9 : Nat) ≠ 3 by decide), gAf (show (10 : Nat) ≠ 3 by decide), gAf (show (11 : Nat) ≠ 3 by decide), gAf (show (12 : Nat) ≠ 3 by decide), gAf (show (13 : Nat) ≠ 3 by decide), gAf (show (5 : Nat) ≠ 4 by decide), gAf (show (6 : Nat) ≠ 4 by decide), gAf (show (7 : Nat) ≠ 4 by decide), gAf (show (8 : Nat) ≠ 4 by decide), gAf (show (9 : Nat) ≠ 4 by decide), gAf (show (10 : Nat) ≠ 4 by decide), gAf (show (11 : Nat) ≠ 4 by decide), gAf (show (12 : Nat) ≠ 4 by decide), gAf (show (13 : Nat) ≠ 4 by decide)]
    simp [stI]
theorem TbR.z9 {P n : Nat} {s : rS} (hP : P < 11) : TbR (stA 4 P 0 (stA 3 P 0 (stI 68 n (stI 67 0 s)))) P [] [] := ⟨hP, by rw [gAf (by decide), gA_eq]; rfl, by rw [gA_eq]; rfl, fun k hk => absurd hk (Nat.not_lt_zero k), fun k hk => absurd hk (Nat.not_lt_zero k)⟩
set_option maxRecDepth 100000 in
theorem r_takeIn {d r : Nat} {h h0 : mH} {s : rS} {P n : Nat} {bs : List Nat} {Q : mP} (hR : Rf r h0 s h) (hP : P < 11) (hb1 : bs.length ≤ 1000) (hb : ∀ j, bs.getD j 0 < 256) (hby : ∀ j, j < bs.length → s.2.2 15 j = bs.getD j 0) (h14 : s.1 14 = n) (hn : bs.length + 2 = n)  (q0 : tiA bs = none → ∀ h' s', Rf r h0 s' h' → Tk P s s' → Q (some (.int (nI 0))) h') (q1 : ∀ E H, tiA bs = some (E, H) → ∀ h' s', Rf r h0 s' h' → Tk P s s' → TbR s' P E H → Q (some (.int (nI 1))) h') : mWP (d + 4) 256 [.ref r, .int (nI P)] h Q := by
  refine z_in [some (.ref r), some (.int (nI P)), none, none, none] (by rfl) rfl rfl rfl ?_
  refine z_aload 1 rfl rfl rfl ?_
  refine z_push 2 (nI 0) rfl rfl rfl ?_
  refine y_pi 5 hR rfl rfl rfl rfl rfl (mFi rfl) ?_
  intro h hR
  refine z_aload 6 rfl rfl rfl ?_
  refine z_aload 7 rfl rfl rfl ?_
  refine y_gi 10 _ hR rfl rfl rfl rfl rfl (by repeat (first | with_reducible exact gI_eq _ _ _ | (with_reducible apply gI_ne; decide) | with_reducible apply gI_A | with_reducible apply gI_O | with_reducible exact h14 | with_reducible rfl)) ?_
  refine z_push 11 (nI 2) rfl rfl rfl ?_
  refine z_bop 12 _ rfl rfl (show mBop 1 (nI n) (nI 2) = nI bs.length from by rw [zb_1 (show 2 ≤ n by omega)]; congr 1; omega) ?_
  refine y_pi 15 hR rfl rfl rfl rfl rfl (mFi rfl) ?_
  intro h hR
  refine z_aload 16 rfl rfl rfl ?_
  refine y_ga 19 hR rfl rfl rfl ?_
  refine z_iload 20 rfl rfl rfl ?_
  refine z_push 21 (nI 0) rfl rfl rfl ?_
  refine y_as (f := 3) 22 hR rfl rfl rfl rfl (by omega) ?_
  intro h hR
  refine z_aload 23 rfl rfl rfl ?_
  refine y_ga 26 hR rfl rfl rfl ?_
  refine z_iload 27 rfl rfl rfl ?_
  refine z_push 28 (nI 0) rfl rfl rfl ?_
  refine y_as (f := 4) 29 hR rfl rfl rfl rfl (by omega) ?_
  intro h hR
  refine z_aload 30 rfl rfl rfl ?_
  refine z_cv0 33 rfl rfl hR.1 rfl (Nat.le_refl _) (Nat.le_refl _) ?_
  refine r_next hR (show (stI 68 bs.length (stI 67 0 s)).1 67 = 0 from gI_ne (by decide) (gI_eq _ _ _)) (show (stI 68 bs.length (stI 67 0 s)).1 68 = bs.length from gI_eq _ _ _) (by omega) hb1 (fun j hj => hby j hj) (fun h hR => ?_)
  refine z_istore 34 rfl rfl rfl rfl ?_
  refine z_iload 35 rfl rfl rfl ?_
  refine z_push 36 (nI 0) rfl rfl rfl ?_
  refine z_push 38 (nI 100) rfl rfl rfl ?_
  refine z_cs3 41 rfl rfl rfl (Nat.le_refl _) (Nat.le_refl _) ?_
  refine r_in ?_
  rw [jIn_l (by omega) (by omega)]
  first | refine z_bne 44 rfl rfl (fun hc41 => ?_) (fun hc41 => ?_)
  · obtain ⟨hl0, _, hn0, e0⟩ := nxV_in (i := 0) (lo := 0) (hi := 100) hb hc41
    rw [e0]
    have ens : ∀ m9 k E i s1 h o4, (bs.getD 0 0) < k + m9 → k ≤ (bs.getD 0 0) → E.length = k → i ≤ 1 + 9 * k → tiE bs (bs.getD 0 0) [] 1 = tiE bs ((bs.getD 0 0) - k) E i → Rf r h0 s1 h → Tk P s s1 → s1.1 67 = i → s1.1 68 = bs.length → TbR s1 P E [] → TbW E [] → mZ (d + 3) tk_256 0 0 Q 48 [some (.ref r), some (.int (nI P)), some (.int (nI (bs.getD 0 0))), some (.int (nI k)), o4] [] h 0 0 := by
      intro m9
      induction m9 with
      | zero => intro k E i s1 h o4 h1 h2; omega
      | succ m9 ih =>
        intro k E i s1 h o4 h1 h2 hEl hik hti hR hK h67 h68 hT hW
        refine z_iload 49 rfl rfl rfl ?_
        refine z_iload 50 rfl rfl rfl ?_
        refine z_nge 53 rfl rfl (by omega) (by omega) (fun hc50 => ?_) (fun hc50 => ?_)
        · refine z_aload 70 rfl rfl rfl ?_
          refine z_cv0 73 rfl rfl hR.1 rfl (Nat.le_refl _) (Nat.le_refl _) ?_
          obtain rfl : k = bs.getD 0 0 := by omega
          rw [Nat.sub_self] at hti
          have hte : tiE bs (bs.getD 0 0) [] 1 = some (E, i) := hti
          refine r_next hR h67 h68 (by omega) hb1 (hK.b hby) (fun h hR => ?_)
          refine z_istore 74 rfl rfl rfl rfl ?_
          refine z_iload 75 rfl rfl rfl ?_
          refine z_push 76 (nI 0) rfl rfl rfl ?_
          refine z_push 78 (nI 10) rfl rfl rfl ?_
          refine z_cs3 81 rfl rfl rfl (Nat.le_refl _) (Nat.le_refl _) ?_
          refine r_in ?_
          rw [jIn_l (by omega) (by omega)]
          first | refine z_bne 84 rfl rfl (fun hc81 => ?_) (fun hc81 => ?_)
          · obtain ⟨hl1, _, hn1, e1⟩ := nxV_in (i := i) (lo := 0) (hi := 10) hb hc81
            rw [e1]
            have shs : ∀ m9 k H i7 s1 h, (bs.getD i 0) < k + m9 → k ≤ (bs.getD i 0) → H.length = k → i7 = i + 1 + 4 * k → tiS bs (bs.getD i 0) [] (i + 1) = tiS bs ((bs.getD i 0) - k) H i7 → Rf r h0 s1 h → Tk P s s1 → s1.1 67 = i7 → s1.1 68 = bs.length → TbR s1 P E H → TbW E H → mZ (d + 3) tk_256 0 0 Q 89 [some (.ref r), some (.int (nI P)), some (.int (nI (bs.getD 0 0))), some (.int (nI (bs.getD i 0))), some (.int (nI k))] [] h 0 0 := by
              intro m9
              induction m9 with
              | zero => intro k H i7 s1 h h1 h2; omega
              | succ m9 ih =>
                intro k H i7 s1 h h1 h2 hHl hik hti hR hK h67 h68 hT hW
                refine z_iload 91 rfl rfl rfl ?_
                refine z_iload 92 rfl rfl rfl ?_
                refine z_nge 95 rfl rfl (by omega) (by omega) (fun hc92 => ?_) (fun hc92 => ?_)
                · refine z_aload 112 rfl rfl rfl ?_
                  refine y_gi 115 _ hR rfl rfl rfl rfl rfl (by repeat (first | with_reducible exact gI_eq _ _ _ | (with_reducible apply gI_ne; decide) | with_reducible apply gI_A | with_reducible apply gI_O | with_reducible exact h67 | with_reducible exact h68 | with_reducible rfl)) ?_
                  refine z_aload 116 rfl rfl rfl ?_
                  refine y_gi 119 _ hR rfl rfl rfl rfl rfl (by repeat (first | with_reducible exact gI_eq _ _ _ | (with_reducible apply gI_ne; decide) | with_reducible apply gI_A | with_reducible apply gI_O | with_reducible exact h67 | with_reducible exact h68 | with_reducible rfl)) ?_
                  refine z_nne 122 rfl rfl (by omega) (by omega) (fun hc119 => ?_) (fun hc119 => ?_)
                  · refine z_push 135 (nI 0) rfl rfl rfl ?_
                    refine z_iretb rfl (Nat.le_refl _) (Nat.le_refl _) (by first | decide | exact bI_01 _) ?_
                    obtain rfl : k = bs.getD i 0 := by omega
                    rw [Nat.sub_self] at hti
                    exact q0 (by rw [tiA, if_pos ⟨hl0, hn0⟩, hte]; show (if _ then _ else _) = _; rw [if_pos ⟨hl1, hn1⟩, hti]; exact if_neg (fun h9 => hc119 h9.1)) h _ hR hK
                  · refine z_aload 123 rfl rfl rfl ?_
                    refine z_iload 124 rfl rfl rfl ?_
                    refine z_cv1 127 rfl rfl hR.1 rfl (Nat.le_refl _) (Nat.le_refl _) ?_
                    obtain rfl : k = bs.getD i 0 := by omega
                    rw [Nat.sub_self] at hti
                    refine r_isGood hR hT hW (fun h s2 hR hO _ => ?_)
                    first | refine z_beq 130 rfl rfl (fun hc127 => ?_) (fun hc127 => ?_)
                    · refine z_push 135 (nI 0) rfl rfl rfl ?_
                      refine z_iretb rfl (Nat.le_refl _) (Nat.le_refl _) (by first | decide | exact bI_01 _) ?_
                      exact q0 (by rw [tiA, if_pos ⟨hl0, hn0⟩, hte]; show (if _ then _ else _) = _; rw [if_pos ⟨hl1, hn1⟩, hti]; exact if_neg (fun h9 => by have h8 := h9.2; rw [hc127] at h8; cases h8)) h _ hR (hK.good hO)
                    · refine z_push 131 (nI 1) rfl rfl rfl ?_
                      refine z_goto rfl ?_
                      refine z_iretb rfl (Nat.le_refl _) (Nat.le_refl _) (by first | decide | exact bI_01 _) ?_
                      exact q1 E H (by rw [tiA, if_pos ⟨hl0, hn0⟩, hte]; show (if _ then _ else _) = _; rw [if_pos ⟨hl1, hn1⟩, hti]; exact if_pos ⟨by omega, hc127⟩) h _ hR (hK.good hO) (hO.tb (by decide) hT)
                · refine z_aload 96 rfl rfl rfl ?_
                  refine z_iload 97 rfl rfl rfl ?_
                  refine z_cv1 100 rfl rfl hR.1 rfl (Nat.le_refl _) (Nat.le_refl _) ?_
                  refine r_takeShift hR hb1 hb (hK.b hby) (by omega) h67 h68 hT hW (by omega) (fun he h s2 hR hK2 => ?_) (fun e he h s2 hR hK2 hT2 g67 g68 => ?_)
                  · refine z_zne 103 rfl rfl (by omega) (fun h9 => absurd h9 (by omega)) (fun _ => ?_)
                    refine z_push 104 (nI 0) rfl rfl rfl ?_
                    refine z_iretb rfl (Nat.le_refl _) (Nat.le_refl _) (by first | decide | exact bI_01 _) ?_
                    exact q0 (by rw [tiA, if_pos ⟨hl0, hn0⟩, hte]; show (if _ then _ else _) = _; rw [if_pos ⟨hl1, hn1⟩, hti, show (bs.getD i 0) - k = (bs.getD i 0) - (k + 1) + 1 by omega, tiS, he]) h _ hR (hK.trans hK2)
                  · refine z_zne 103 rfl rfl (by omega) (fun _ => ?_) (fun h9 => absurd h9 (by omega))
                    refine z_iinc 108 _ rfl rfl rfl rfl (by first | with_reducible exact zi_1 _ | rfl) ?_
                    refine z_goto rfl ?_
                    refine ih (k + 1) (H ++ [e]) (i7 + 4) s2 h (by omega) (by omega) (by rw [List.length_append, hHl]; rfl) (by omega) ?_ hR (hK.trans hK2) g67 g68 hT2 (hW.addS hb (by omega) he)
                    rw [hti, show (bs.getD i 0) - k = (bs.getD i 0) - (k + 1) + 1 by omega, tiS, he]
            refine z_push 87 (nI 0) rfl rfl rfl ?_
            refine z_istore 89 rfl rfl rfl rfl ?_
            exact shs (bs.getD i 0 + 1) 0 [] (i + 1) _ h (by omega) (by omega) rfl (by omega) (by rw [Nat.sub_zero]) hR hK.n (gI_eq _ _ _) (Tk.h68 h68) hT hW
          · refine z_push 85 (nI 0) rfl rfl rfl ?_
            refine z_iretb rfl (Nat.le_refl _) (Nat.le_refl _) (by first | decide | exact bI_01 _) ?_
            exact q0 (by rw [tiA, if_pos ⟨hl0, hn0⟩, hte]; exact if_neg (fun h9 => nxV_out (i := i) (lo := 0) (hi := 10) hb hc81 ⟨h9.1, Nat.zero_le _, h9.2⟩)) h _ hR hK.n
        · refine z_aload 54 rfl rfl rfl ?_
          refine z_iload 55 rfl rfl rfl ?_
          refine z_cv1 58 rfl rfl hR.1 rfl (Nat.le_refl _) (Nat.le_refl _) ?_
          refine r_takeEntry hR hb1 hb (hK.b hby) (by omega) h67 h68 hT hW (by omega) (fun he h s2 hR hK2 => ?_) (fun e he h s2 hR hK2 hT2 g67 g68 => ?_)
          · refine z_zne 61 rfl rfl (by omega) (fun h9 => absurd h9 (by omega)) (fun _ => ?_)
            refine z_push 62 (nI 0) rfl rfl rfl ?_
            refine z_iretb rfl (Nat.le_refl _) (Nat.le_refl _) (by first | decide | exact bI_01 _) ?_
            exact q0 (by rw [tiA, if_pos ⟨hl0, hn0⟩, hti, show (bs.getD 0 0) - k = (bs.getD 0 0) - (k + 1) + 1 by omega, tiE, he]) h _ hR (hK.trans hK2)
          · obtain ⟨hW2, he1, he3⟩ := hW.addE hb (by omega) he
            refine z_zne 61 rfl rfl (by omega) (fun _ => ?_) (fun h9 => absurd h9 (by omega))
            refine z_iinc 66 _ rfl rfl rfl rfl (by first | with_reducible exact zi_1 _ | rfl) ?_
            refine z_goto rfl ?_
            refine ih (k + 1) (E ++ [e]) _ s2 h _ (by omega) (by omega) (by rw [List.length_append, hEl]; rfl) (by omega) ?_ hR (hK.trans hK2) g67 g68 hT2 hW2
            rw [hti, show (bs.getD 0 0) - k = (bs.getD 0 0) - (k + 1) + 1 by omega, tiE, he]
    refine z_push 47 (nI 0) rfl rfl rfl ?_
    refine z_istore 48 rfl rfl rfl rfl ?_
    exact ens (bs.getD 0 0 + 1) 0 [] 1 _ h _ (by omega) (by omega) rfl (by omega) (by rw [Nat.sub_zero]) hR Tk.z9.n (gI_eq _ _ _) (Tk.h68 (show (stI 68 bs.length (stI 67 0 s)).1 68 = bs.length from gI_eq _ _ _)) (TbR.z9 (n := bs.length) (s := s) hP) TbW0
  · refine z_push 45 (nI 0) rfl rfl rfl ?_
    refine z_iretb rfl (Nat.le_refl _) (Nat.le_refl _) (by first | decide | exact bI_01 _) ?_
    exact q0 (by rw [tiA, if_neg (fun h9 => nxV_out (i := 0) (lo := 0) (hi := 100) hb hc41 ⟨h9.1, Nat.zero_le _, h9.2⟩)]) h _ hR Tk.z9.n
