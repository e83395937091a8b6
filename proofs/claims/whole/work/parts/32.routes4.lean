/-! Routes.walk -/
theorem upd_ss (f : Nat → Int32) (k : Nat) (x y : Int32) : upd (upd f k x) k y = upd f k y := by
  funext j
  simp only [upd]
  split <;> rfl
/-- the walk: text, length and state behind it -/
def wkF (w s g v : Nat → Nat) (kf : Nat → Bool) (gl c : Nat) : Nat → Nat → Int32 → Nat → Int32 × Nat × Nat
  | 0, st, tx, ln => (tx, ln, st)
  | lf + 1, st, tx, ln => match lsF w s g v kf gl st (lf + 1) c 0 none with
    | none => (tx, ln, st)
    | some b => wkF w s g v kf gl c lf (if kf b = true then g b else st) ((tx <<< (nI 8 &&& 31)) ||| nI (v b)) (ln + 1)
def wkR (w s g v : Nat → Nat) (kf : Nat → Bool) (gl c fr : Nat) : Int32 × Nat × Nat := if w fr < 100 then wkF w s g v kf gl c (w fr) fr 0 0 else (0, 0, fr)
theorem lsF_in {w s g v : Nat → Nat} {kf : Nat → Bool} {gl st lf c : Nat} : ∀ (m i : Nat) {b : Option Nat}, i + m = c → (∀ j, b = some j → j < c) → ∀ j, lsF w s g v kf gl st lf m i b = some j → j < c
  | 0, _, _, _, hb => hb
  | m + 1, i, _, hi, hb => lsF_in m (i + 1) (by omega) (lsS_in hb (by omega))
set_option maxRecDepth 10000 in
theorem c_Ro_walk {d : Nat} {h : mH} {e sh n c gl fr : Nat} {T N A : Nat → Int32} {w : Nat → Nat} {s g v : Nat → Nat} {kf : Nat → Bool} {Q : mP} (hR : RoAt h e T N A (fun j => nI (w j))) (hE : ShAt h sh n (fun j => nI (s j)) (fun j => nI (v j)) (fun j => nI (g j)) (fun j => bI (kf j)) c) (hd : e + 5 ≤ sh ∨ sh + 5 ≤ e) (hn : n < 2 ^ 31) (hc : c ≤ n) (hs : ∀ j, j < c → s j < 4) (hg : ∀ j, j < c → g j < 4) (hv : ∀ j, j < c → v j < 256) (hw : ∀ j, j < 4 → w j ≤ 100) (hgl : gl < 5) (hfr : fr < 4) (q : ∀ h', RoAt h' e (upd T (gl * 4 + fr) (wkR w s g v kf gl c fr).1) (upd N (gl * 4 + fr) (nI (wkR w s g v kf gl c fr).2.1)) (upd A (gl * 4 + fr) (nI (wkR w s g v kf gl c fr).2.2)) (fun j => nI (w j)) → Fr e (e + 5) h h' → Q none h') : mWP (d + 3) 68 [.ref e, .ref sh, .int (nI gl), .int (nI fr)] h Q := by
  have loop : ∀ lf st tx ln h1 (o7 : Option Value), lf < 100 → st < 4 → RoAt h1 e (upd T (gl * 4 + fr) tx) (upd N (gl * 4 + fr) (nI ln)) A (fun j => nI (w j)) → Fr e (e + 5) h h1 → (∀ h2 (x : Int32 × Option Value), RoAt h2 e (upd T (gl * 4 + fr) (wkF w s g v kf gl c lf st tx ln).1) (upd N (gl * 4 + fr) (nI (wkF w s g v kf gl c lf st tx ln).2.1)) A (fun j => nI (w j)) → Fr e (e + 5) h h2 → mZ (d + 2) tk_68 0 0 Q 127 [some (.ref e), some (.ref sh), some (.int (nI gl)), some (.int (nI fr)), some (.int (nI (gl * 4 + fr))), some (.int (nI (wkF w s g v kf gl c lf st tx ln).2.2)), some (.int x.1), x.2] [] h2 0 0) → mZ (d + 2) tk_68 0 0 Q 34 [some (.ref e), some (.ref sh), some (.int (nI gl)), some (.int (nI fr)), some (.int (nI (gl * 4 + fr))), some (.int (nI st)), some (.int (nI lf)), o7] [] h1 0 0 := by
    intro lf
    induction lf with
    | zero =>
      intro st tx ln h1 o7 hlf hst hR1 hf1 K
      refine z_iload 36 rfl rfl rfl ?_
      refine z_zle 39 rfl rfl (by omega) (fun _ => ?_) (fun h9 => absurd h9 (by omega))
      exact K h1 (nI 0, o7) hR1 hf1
    | succ lf ih =>
      intro st tx ln h1 o7 hlf hst hR1 hf1 K
      have hE1 := hE.fr hf1 (by omega)
      obtain ⟨R0, R1, R2, R3, R4⟩ := id hR1
      obtain ⟨E0, E1, E2, E3, E4⟩ := id hE1
      refine z_iload 36 rfl rfl rfl ?_
      first | refine z_zle 39 rfl rfl (by omega) (fun hc36 => ?_) (fun hc36 => ?_)
      · exact absurd hc36 (by omega)
      · refine z_iload 41 rfl rfl rfl ?_
        refine z_push 43 (nI 100) rfl rfl rfl ?_
        refine z_nge 46 rfl rfl (by omega) (by omega) (fun hc43 => ?_) (fun hc43 => ?_)
        · exact absurd hc36 (by omega)
        · refine z_aload 47 rfl rfl rfl ?_
          refine z_aload 48 rfl rfl rfl ?_
          refine z_iload 49 rfl rfl rfl ?_
          refine z_iload 51 rfl rfl rfl ?_
          refine z_iload 53 rfl rfl rfl ?_
          refine z_cv 56 _ rfl rfl rfl rfl (by repeat (first | exact R0 | exact R1 | exact R2 | exact R3 | exact R4 | exact E0 | exact E1 | exact E2 | exact E3 | exact E4 | exact mg_eq _ _ _ | refine mg_ne (by omega) ?_)) rfl rfl (Nat.le_refl _) (Nat.le_refl _) ?_
          refine c_Ro_leastShift hR1 hE1 hn hc hs hg hv hw hgl hst (by omega) ?_
          rcases hls : lsF w s g v kf gl st (lf + 1) c 0 none with _ | bb
          · refine z_istore 58 rfl rfl rfl rfl ?_
            refine z_iload 60 rfl rfl rfl ?_
            refine z_jge 63 rfl rfl (fun h9 => absurd h9 (by decide)) (fun _ => ?_)
            refine z_goto rfl ?_
            have e9 : wkF w s g v kf gl c (lf + 1) st tx ln = (tx, ln, st) := by simp only [wkF, hls]
            rw [e9] at K
            exact K h1 (nI (lf + 1), some (.int (oI none))) hR1 hf1
          · have hbb := lsF_in (c := c) c 0 (by omega) (fun j hj => by cases hj) bb hls
            refine z_istore 58 rfl rfl rfl rfl ?_
            refine z_iload 60 rfl rfl rfl ?_
            first | refine z_zge 63 rfl rfl (by omega) (fun hc60 => ?_) (fun hc60 => ?_) | refine z_jge 63 rfl rfl (fun hc60 => ?_) (fun hc60 => ?_)
            · refine z_aload 67 rfl rfl rfl ?_
              refine z_get 70 rfl rfl (by repeat (first | exact R0 | exact R1 | exact R2 | exact R3 | exact R4 | exact E0 | exact E1 | exact E2 | exact E3 | exact E4 | exact mg_eq _ _ _ | refine mg_ne (by omega) ?_)) rfl ?_
              refine z_iload 72 rfl rfl rfl ?_
              refine z_aload 73 rfl rfl rfl ?_
              refine z_get 76 rfl rfl (by repeat (first | exact R0 | exact R1 | exact R2 | exact R3 | exact R4 | exact E0 | exact E1 | exact E2 | exact E3 | exact E4 | exact mg_eq _ _ _ | refine mg_ne (by omega) ?_)) rfl ?_
              refine z_iload 78 rfl rfl rfl ?_
              refine z_ald 79 rfl rfl (by repeat (first | exact R0 | exact R1 | exact R2 | exact R3 | exact R4 | exact E0 | exact E1 | exact E2 | exact E3 | exact E4 | exact mg_eq _ _ _ | refine mg_ne (by omega) ?_)) rfl (by omega) (by omega) ?_
              refine z_push 81 (nI 8) rfl rfl rfl ?_
              refine z_bop 82 _ rfl rfl (zd_6 _ _) ?_
              refine z_aload 83 rfl rfl rfl ?_
              refine z_get 86 rfl rfl (by repeat (first | exact R0 | exact R1 | exact R2 | exact R3 | exact R4 | exact E0 | exact E1 | exact E2 | exact E3 | exact E4 | exact mg_eq _ _ _ | refine mg_ne (by omega) ?_)) rfl ?_
              refine z_iload 88 rfl rfl rfl ?_
              refine z_ald 89 rfl rfl (by repeat (first | exact R0 | exact R1 | exact R2 | exact R3 | exact R4 | exact E0 | exact E1 | exact E2 | exact E3 | exact E4 | exact mg_eq _ _ _ | refine mg_ne (by omega) ?_)) rfl (by omega) (by omega) ?_
              refine z_bop 90 _ rfl rfl (zd_4 _ _) ?_
              refine z_ast 91 rfl rfl (by repeat (first | exact R0 | exact R1 | exact R2 | exact R3 | exact R4 | exact E0 | exact E1 | exact E2 | exact E3 | exact E4 | exact mg_eq _ _ _ | refine mg_ne (by omega) ?_)) rfl (by omega) (by omega) ?_
              refine z_aload 92 rfl rfl rfl ?_
              refine z_get 95 rfl rfl (by repeat (first | exact R0 | exact R1 | exact R2 | exact R3 | exact R4 | exact E0 | exact E1 | exact E2 | exact E3 | exact E4 | exact mg_eq _ _ _ | refine mg_ne (by omega) ?_)) rfl ?_
              refine z_iload 97 rfl rfl rfl ?_
              refine z_dup2 98 rfl rfl ?_
              refine z_ald 99 rfl rfl (by repeat (first | exact R0 | exact R1 | exact R2 | exact R3 | exact R4 | exact E0 | exact E1 | exact E2 | exact E3 | exact E4 | exact mg_eq _ _ _ | refine mg_ne (by omega) ?_)) rfl (by omega) (by omega) ?_
              refine z_push 100 (nI 1) rfl rfl rfl ?_
              refine z_bop 101 _ rfl rfl (by first | with_reducible exact zb_0 _ _ | exact zd_0 _ _) ?_
              refine z_ast 102 rfl rfl (by repeat (first | exact R0 | exact R1 | exact R2 | exact R3 | exact R4 | exact E0 | exact E1 | exact E2 | exact E3 | exact E4 | exact mg_eq _ _ _ | refine mg_ne (by omega) ?_)) rfl (by omega) (by omega) ?_
              refine z_aload 103 rfl rfl rfl ?_
              refine z_get 106 rfl rfl (by repeat (first | exact R0 | exact R1 | exact R2 | exact R3 | exact R4 | exact E0 | exact E1 | exact E2 | exact E3 | exact E4 | exact mg_eq _ _ _ | refine mg_ne (by omega) ?_)) rfl ?_
              refine z_iload 108 rfl rfl rfl ?_
              refine z_bld 109 rfl rfl (by repeat (first | exact R0 | exact R1 | exact R2 | exact R3 | exact R4 | exact E0 | exact E1 | exact E2 | exact E3 | exact E4 | exact mg_eq _ _ _ | refine mg_ne (by omega) ?_)) rfl (by omega) (by omega) ?_
              first | refine z_beq 112 rfl rfl (fun hc109 => ?_) (fun hc109 => ?_) | refine z_zeq 112 rfl rfl (by omega) (fun hc109 => ?_) (fun hc109 => ?_) | refine z_jeq 112 rfl rfl (fun hc109 => ?_) (fun hc109 => ?_)
              · refine z_iinc 124 _ rfl rfl rfl rfl (pk_m1 lf) ?_
                refine z_goto rfl ?_
                have e9 : wkF w s g v kf gl c (lf + 1) st tx ln = wkF w s g v kf gl c lf (if kf bb = true then g bb else st) ((tx <<< (nI 8 &&& 31)) ||| nI (v bb)) (ln + 1) := by simp only [wkF, hls]
                rw [e9] at K
                first | rw [if_pos hc109] at K | rw [if_neg (by rw [hc109]; decide)] at K
                refine ih _ _ _ _ _ (by omega) (by first | exact hst | exact hg bb hbb) ⟨mg_ne (by omega) (mg_ne (by omega) R0), ?_, ?_, mg_ne (by omega) (mg_ne (by omega) R3), mg_ne (by omega) (mg_ne (by omega) R4)⟩ (Fr.set (Fr.set hf1 (by omega) (by omega)) (by omega) (by omega)) K
                · rw [mg_ne (by omega) (mg_eq _ _ _), pk_us, upd_ss]
                · rw [mg_eq, pk_us, upd_ss, nI_add]
              · refine z_aload 113 rfl rfl rfl ?_
                refine z_get 116 rfl rfl (by repeat (first | exact R0 | exact R1 | exact R2 | exact R3 | exact R4 | exact E0 | exact E1 | exact E2 | exact E3 | exact E4 | exact mg_eq _ _ _ | refine mg_ne (by omega) ?_)) rfl ?_
                refine z_iload 118 rfl rfl rfl ?_
                refine z_ald 119 rfl rfl (by repeat (first | exact R0 | exact R1 | exact R2 | exact R3 | exact R4 | exact E0 | exact E1 | exact E2 | exact E3 | exact E4 | exact mg_eq _ _ _ | refine mg_ne (by omega) ?_)) rfl (by omega) (by omega) ?_
                refine z_istore 121 rfl rfl rfl rfl ?_
                refine z_iinc 124 _ rfl rfl rfl rfl (pk_m1 lf) ?_
                refine z_goto rfl ?_
                have e9 : wkF w s g v kf gl c (lf + 1) st tx ln = wkF w s g v kf gl c lf (if kf bb = true then g bb else st) ((tx <<< (nI 8 &&& 31)) ||| nI (v bb)) (ln + 1) := by simp only [wkF, hls]
                rw [e9] at K
                first | rw [if_pos hc109] at K | rw [if_neg (by rw [hc109]; decide)] at K
                refine ih _ _ _ _ _ (by omega) (by first | exact hst | exact hg bb hbb) ⟨mg_ne (by omega) (mg_ne (by omega) R0), ?_, ?_, mg_ne (by omega) (mg_ne (by omega) R3), mg_ne (by omega) (mg_ne (by omega) R4)⟩ (Fr.set (Fr.set hf1 (by omega) (by omega)) (by omega) (by omega)) K
                · rw [mg_ne (by omega) (mg_eq _ _ _), pk_us, upd_ss]
                · rw [mg_eq, pk_us, upd_ss, nI_add]
            · refine z_goto rfl ?_
              exact absurd hc60 (by omega)
  have fin : ∀ h2 (x : Int32 × Option Value) tx ln st, wkR w s g v kf gl c fr = (tx, ln, st) → RoAt h2 e (upd T (gl * 4 + fr) tx) (upd N (gl * 4 + fr) (nI ln)) A (fun j => nI (w j)) → Fr e (e + 5) h h2 → mZ (d + 2) tk_68 0 0 Q 127 [some (.ref e), some (.ref sh), some (.int (nI gl)), some (.int (nI fr)), some (.int (nI (gl * 4 + fr))), some (.int (nI st)), some (.int x.1), x.2] [] h2 0 0 := by
    intro h2 x tx ln st hx hR2 hf2
    obtain ⟨R0, R1, R2, R3, R4⟩ := hR2
    rw [hx] at q
    refine z_aload 128 rfl rfl rfl ?_
    refine z_get 131 rfl rfl (by repeat (first | exact R0 | exact R3 | exact mg_eq _ _ _ | refine mg_ne (by omega) ?_)) rfl ?_
    refine z_iload 133 rfl rfl rfl ?_
    refine z_iload 135 rfl rfl rfl ?_
    refine z_ast 136 rfl rfl (by repeat (first | exact R0 | exact R3 | exact mg_eq _ _ _ | refine mg_ne (by omega) ?_)) rfl (by omega) (by omega) ?_
    refine z_vret rfl (Nat.le_refl _) (Nat.le_refl _) ?_
    refine q _ ⟨mg_ne (by omega) R0, mg_ne (by omega) R1, mg_ne (by omega) R2, mg_eq _ _ _, mg_ne (by omega) R4⟩ (Fr.set hf2 (by omega) (by omega))
  obtain ⟨R0, R1, R2, R3, R4⟩ := id hR
  have hwf := hw fr hfr
  have start : ∀ h1 (o7 : Option Value), RoAt h1 e (upd T (gl * 4 + fr) 0) (upd N (gl * 4 + fr) (nI 0)) A (fun j => nI (w j)) → Fr e (e + 5) h h1 → mZ (d + 2) tk_68 0 0 Q 34 [some (.ref e), some (.ref sh), some (.int (nI gl)), some (.int (nI fr)), some (.int (nI (gl * 4 + fr))), some (.int (nI fr)), some (.int (nI (w fr))), o7] [] h1 0 0 := by
    intro h1 o7 hR1 hf1
    by_cases h100 : w fr < 100
    · refine loop (w fr) fr 0 0 h1 o7 h100 hfr hR1 hf1 (fun h2 x hR2 hf2 => ?_)
      exact fin h2 x _ _ _ (by rw [wkR, if_pos h100]) hR2 hf2
    · refine z_iload 36 rfl rfl rfl ?_
      refine z_zle 39 rfl rfl (by omega) (fun h9 => absurd h9 (by omega)) (fun _ => ?_)
      refine z_iload 41 rfl rfl rfl ?_
      refine z_push 43 (nI 100) rfl rfl rfl ?_
      refine z_nge 46 rfl rfl (by omega) (by omega) (fun _ => ?_) (fun h9 => absurd h9 (by omega))
      exact fin h1 (nI (w fr), o7) _ _ _ (by rw [wkR, if_neg h100]) hR1 hf1
  refine z_in [some (.ref e), some (.ref sh), some (.int (nI gl)), some (.int (nI fr)), none, none, none, none] (by rfl) rfl rfl rfl ?_
  refine z_iload 1 rfl rfl rfl ?_
  refine z_iload 2 rfl rfl rfl ?_
  refine z_cs 5 _ rfl rfl rfl rfl rfl rfl (Nat.le_refl _) (Nat.le_refl _) ?_
  refine c_Ro_slotOf ?_
  refine z_istore 7 rfl rfl rfl rfl ?_
  refine z_aload 8 rfl rfl rfl ?_
  refine z_get 11 rfl rfl (by repeat (first | exact R0 | exact R1 | exact R2 | exact R4 | exact mg_eq _ _ _ | refine mg_ne (by omega) ?_)) rfl ?_
  refine z_iload 13 rfl rfl rfl ?_
  refine z_push 14 (nI 0) rfl rfl rfl ?_
  refine z_ast 15 rfl rfl (by repeat (first | exact R0 | exact R1 | exact R2 | exact R4 | exact mg_eq _ _ _ | refine mg_ne (by omega) ?_)) rfl (by omega) (by omega) ?_
  refine z_aload 16 rfl rfl rfl ?_
  refine z_get 19 rfl rfl (by repeat (first | exact R0 | exact R1 | exact R2 | exact R4 | exact mg_eq _ _ _ | refine mg_ne (by omega) ?_)) rfl ?_
  refine z_iload 21 rfl rfl rfl ?_
  refine z_push 22 (nI 0) rfl rfl rfl ?_
  refine z_ast 23 rfl rfl (by repeat (first | exact R0 | exact R1 | exact R2 | exact R4 | exact mg_eq _ _ _ | refine mg_ne (by omega) ?_)) rfl (by omega) (by omega) ?_
  refine z_iload 24 rfl rfl rfl ?_
  refine z_istore 26 rfl rfl rfl rfl ?_
  refine z_aload 27 rfl rfl rfl ?_
  refine z_get 30 rfl rfl (by repeat (first | exact R0 | exact R1 | exact R2 | exact R4 | exact mg_eq _ _ _ | refine mg_ne (by omega) ?_)) rfl ?_
  refine z_iload 31 rfl rfl rfl ?_
  refine z_ald 32 rfl rfl (by repeat (first | exact R0 | exact R1 | exact R2 | exact R4 | exact mg_eq _ _ _ | refine mg_ne (by omega) ?_)) rfl (by omega) (by omega) ?_
  refine z_istore 34 rfl rfl rfl rfl ?_
  exact start _ _ ⟨mg_ne (by omega) (mg_ne (by omega) R0), mg_ne (by omega) (mg_eq _ _ _), mg_eq _ _ _, mg_ne (by omega) (mg_ne (by omega) R3), mg_ne (by omega) (mg_ne (by omega) R4)⟩ (Fr.set (Fr.set Fr.rfl (by omega) (by omega)) (by omega) (by omega))
