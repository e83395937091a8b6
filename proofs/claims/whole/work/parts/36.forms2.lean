/-! Forms: unitText, holdsPoint -/
theorem zo_a {u : Nat} (h : u < 2 ^ 32) : mBop 3 (nI u) (nI 255) = nI (u % 256) := pk_andN h 8 (by decide)
theorem zo_s {u : Nat} (h : u < 2 ^ 31) : mBop 7 (nI u) (nI 8) = nI (u / 256) := pk_shrN h (nI 8 &&& 31) 8 (by decide)
def uTx (k u : Nat) : Nat := if k = 1 then u else u % 256 * 256 + u / 256
def fsP (n : Nat) : Int := if n ≤ 1 then 0 else if n = 2 then 128 else if n = 3 then 2048 else 65536
theorem fsP_c (n : Nat) : (n ≤ 1 ∧ fsP n = 0) ∨ (n = 2 ∧ fsP n = 128) ∨ (n = 3 ∧ fsP n = 2048) ∨ (4 ≤ n ∧ fsP n = 65536) := by
  unfold fsP
  split
  · omega
  · split
    · omega
    · split <;> omega
def hldP (l m : Int32) (n : Nat) : Bool := decide (fsP n ≤ m.toInt ∧ l.toInt ≤ 1114111) && !(jHalf l && jHalf m)
theorem hld_t {l m : Int32} {n : Nat} (h1 : fsP n ≤ m.toInt) (h2 : l.toInt ≤ 1114111) (h3 : jHalf l = false ∨ jHalf m = false) : hldP l m n = true := by
  rw [hldP, decide_eq_true ⟨h1, h2⟩]
  rcases h3 with h | h <;> simp [h]
theorem hld_f1 {l m : Int32} {n : Nat} (h1 : m.toInt < fsP n) : hldP l m n = false := by rw [hldP, decide_eq_false (by omega)]; rfl
theorem hld_f2 {l m : Int32} {n : Nat} (h1 : 1114111 < l.toInt) : hldP l m n = false := by rw [hldP, decide_eq_false (by omega)]; rfl
theorem hld_f3 {l m : Int32} {n : Nat} (h1 : jHalf l = true) (h2 : jHalf m = true) : hldP l m n = false := by rw [hldP, h1, h2]; simp
set_option maxRecDepth 10000 in
theorem c_unitText {d : Nat} {h : mH} {k u : Nat} {Q : mP} (hk : k < 4) (hu : u < 65536) (q : Q (some (.int (nI (uTx k u)))) h) : mWP (d + 1) 9 [.int (nI k), .int (nI u)] h Q := by
  refine z_in [some (.int (nI k)), some (.int (nI u))] (by rfl) rfl rfl rfl ?_
  refine z_iload 1 rfl rfl rfl ?_
  refine z_push 2 (nI 1) rfl rfl rfl ?_
  first | refine z_nne 5 rfl rfl (by omega) (by omega) (fun hc2 => ?_) (fun hc2 => ?_) | refine z_kne 5 rfl rfl (by omega) (fun hc2 => ?_) (fun hc2 => ?_) | refine z_hne 5 rfl rfl (by omega) (fun hc2 => ?_) (fun hc2 => ?_) | refine z_cne 5 rfl rfl (fun hc2 => ?_) (fun hc2 => ?_)
  · refine z_iload 10 rfl rfl rfl ?_
    refine z_push 13 (nI 255) rfl rfl rfl ?_
    refine z_bop 14 _ rfl rfl (zo_a (by omega)) ?_
    refine z_push 16 (nI 8) rfl rfl rfl ?_
    refine z_bop 17 _ rfl rfl (zd_6 _ _) ?_
    refine z_iload 18 rfl rfl rfl ?_
    refine z_push 20 (nI 8) rfl rfl rfl ?_
    refine z_bop 21 _ rfl rfl (zo_s (by omega)) ?_
    refine z_bop 22 _ rfl rfl (zo_8 (by omega) (by omega)) ?_
    refine z_ireti rfl (Nat.le_refl _) (Nat.le_refl _) ?_
    first | exact zqo (by rw [uTx, if_pos hc2]) q | exact zqo (by rw [uTx, if_neg hc2]) q
  · refine z_iload 6 rfl rfl rfl ?_
    refine z_goto rfl ?_
    refine z_ireti rfl (Nat.le_refl _) (Nat.le_refl _) ?_
    first | exact zqo (by rw [uTx, if_pos hc2]) q | exact zqo (by rw [uTx, if_neg hc2]) q
set_option maxRecDepth 10000 in
theorem c_holdsPoint {d : Nat} {h : mH} {l m : Int32} {n : Nat} {Q : mP} (hn : n < 2 ^ 31) (q : Q (some (.int (bI (hldP l m n)))) h) : mWP (d + 2) 16 [.int l, .int m, .int (nI n)] h Q := by
  have hF := fsP_c n
  refine z_in [some (.int l), some (.int m), some (.int (nI n)), none] (by rfl) rfl rfl rfl ?_
  refine z_push 1 (nI 0) rfl rfl rfl ?_
  refine z_istore 2 rfl rfl rfl rfl ?_
  refine z_iload 3 rfl rfl rfl ?_
  refine z_push 4 (nI 1) rfl rfl rfl ?_
  first | refine z_nle 7 rfl rfl (by omega) (by omega) (fun hc4 => ?_) (fun hc4 => ?_) | refine z_kle 7 rfl rfl (by omega) (fun hc4 => ?_) (fun hc4 => ?_) | refine z_hle 7 rfl rfl (by omega) (fun hc4 => ?_) (fun hc4 => ?_) | refine z_tle 7 rfl rfl (fun hc4 => ?_) (fun hc4 => ?_)
  · refine z_iload 33 rfl rfl rfl ?_
    refine z_iload 34 rfl rfl rfl ?_
    first | refine z_nlt 37 rfl rfl (by omega) (by omega) (fun hc34 => ?_) (fun hc34 => ?_) | refine z_klt 37 rfl rfl (by omega) (fun hc34 => ?_) (fun hc34 => ?_) | refine z_hlt 37 rfl rfl (by omega) (fun hc34 => ?_) (fun hc34 => ?_) | refine z_tlt 37 rfl rfl (fun hc34 => ?_) (fun hc34 => ?_)
    · refine z_push 62 (nI 0) rfl rfl rfl ?_
      refine z_iretb rfl (Nat.le_refl _) (Nat.le_refl _) (by first | decide | exact bI_01 _) ?_
      first
      | (refine zqo ?_ q; rw [hld_f1 (by omega)]; rfl)
      | (refine zqo ?_ q; rw [hld_f2 (by omega)]; rfl)
      | (refine zqo ?_ q; rw [hld_t (by omega) (by omega) (Or.inl hc47)]; rfl)
      | (refine zqo ?_ q; rw [hld_t (by omega) (by omega) (Or.inr hc54)]; rfl)
      | (refine zqo ?_ q; rw [hld_f3 hc47 hc54]; rfl)
    · refine z_iload 38 rfl rfl rfl ?_
      refine z_push 40 (nI 1114111) rfl rfl rfl ?_
      first | refine z_ngt 43 rfl rfl (by omega) (by omega) (fun hc40 => ?_) (fun hc40 => ?_) | refine z_kgt 43 rfl rfl (by omega) (fun hc40 => ?_) (fun hc40 => ?_) | refine z_hgt 43 rfl rfl (by omega) (fun hc40 => ?_) (fun hc40 => ?_) | refine z_tgt 43 rfl rfl (fun hc40 => ?_) (fun hc40 => ?_)
      · refine z_push 62 (nI 0) rfl rfl rfl ?_
        refine z_iretb rfl (Nat.le_refl _) (Nat.le_refl _) (by first | decide | exact bI_01 _) ?_
        first
        | (refine zqo ?_ q; rw [hld_f1 (by omega)]; rfl)
        | (refine zqo ?_ q; rw [hld_f2 (by omega)]; rfl)
        | (refine zqo ?_ q; rw [hld_t (by omega) (by omega) (Or.inl hc47)]; rfl)
        | (refine zqo ?_ q; rw [hld_t (by omega) (by omega) (Or.inr hc54)]; rfl)
        | (refine zqo ?_ q; rw [hld_f3 hc47 hc54]; rfl)
      · refine z_iload 44 rfl rfl rfl ?_
        refine z_cs 47 _ rfl rfl rfl rfl rfl rfl (Nat.le_refl _) (Nat.le_refl _) ?_
        refine c_isHalf ?_
        first | refine z_beq 50 rfl rfl (fun hc47 => ?_) (fun hc47 => ?_) | refine z_zeq 50 rfl rfl (by omega) (fun hc47 => ?_) (fun hc47 => ?_) | refine z_jeq 50 rfl rfl (fun hc47 => ?_) (fun hc47 => ?_)
        · refine z_push 58 (nI 1) rfl rfl rfl ?_
          refine z_goto rfl ?_
          refine z_iretb rfl (Nat.le_refl _) (Nat.le_refl _) (by first | decide | exact bI_01 _) ?_
          first
          | (refine zqo ?_ q; rw [hld_f1 (by omega)]; rfl)
          | (refine zqo ?_ q; rw [hld_f2 (by omega)]; rfl)
          | (refine zqo ?_ q; rw [hld_t (by omega) (by omega) (Or.inl hc47)]; rfl)
          | (refine zqo ?_ q; rw [hld_t (by omega) (by omega) (Or.inr hc54)]; rfl)
          | (refine zqo ?_ q; rw [hld_f3 hc47 hc54]; rfl)
        · refine z_iload 51 rfl rfl rfl ?_
          refine z_cs 54 _ rfl rfl rfl rfl rfl rfl (Nat.le_refl _) (Nat.le_refl _) ?_
          refine c_isHalf ?_
          first | refine z_bne 57 rfl rfl (fun hc54 => ?_) (fun hc54 => ?_) | refine z_zne 57 rfl rfl (by omega) (fun hc54 => ?_) (fun hc54 => ?_) | refine z_jne 57 rfl rfl (fun hc54 => ?_) (fun hc54 => ?_)
          · refine z_push 62 (nI 0) rfl rfl rfl ?_
            refine z_iretb rfl (Nat.le_refl _) (Nat.le_refl _) (by first | decide | exact bI_01 _) ?_
            first
            | (refine zqo ?_ q; rw [hld_f1 (by omega)]; rfl)
            | (refine zqo ?_ q; rw [hld_f2 (by omega)]; rfl)
            | (refine zqo ?_ q; rw [hld_t (by omega) (by omega) (Or.inl hc47)]; rfl)
            | (refine zqo ?_ q; rw [hld_t (by omega) (by omega) (Or.inr hc54)]; rfl)
            | (refine zqo ?_ q; rw [hld_f3 hc47 hc54]; rfl)
          · refine z_push 58 (nI 1) rfl rfl rfl ?_
            refine z_goto rfl ?_
            refine z_iretb rfl (Nat.le_refl _) (Nat.le_refl _) (by first | decide | exact bI_01 _) ?_
            first
            | (refine zqo ?_ q; rw [hld_f1 (by omega)]; rfl)
            | (refine zqo ?_ q; rw [hld_f2 (by omega)]; rfl)
            | (refine zqo ?_ q; rw [hld_t (by omega) (by omega) (Or.inl hc47)]; rfl)
            | (refine zqo ?_ q; rw [hld_t (by omega) (by omega) (Or.inr hc54)]; rfl)
            | (refine zqo ?_ q; rw [hld_f3 hc47 hc54]; rfl)
  · refine z_iload 8 rfl rfl rfl ?_
    refine z_push 9 (nI 2) rfl rfl rfl ?_
    first | refine z_nne 12 rfl rfl (by omega) (by omega) (fun hc9 => ?_) (fun hc9 => ?_) | refine z_kne 12 rfl rfl (by omega) (fun hc9 => ?_) (fun hc9 => ?_) | refine z_hne 12 rfl rfl (by omega) (fun hc9 => ?_) (fun hc9 => ?_) | refine z_cne 12 rfl rfl (fun hc9 => ?_) (fun hc9 => ?_)
    · refine z_iload 19 rfl rfl rfl ?_
      refine z_push 20 (nI 3) rfl rfl rfl ?_
      first | refine z_nne 23 rfl rfl (by omega) (by omega) (fun hc20 => ?_) (fun hc20 => ?_) | refine z_kne 23 rfl rfl (by omega) (fun hc20 => ?_) (fun hc20 => ?_) | refine z_hne 23 rfl rfl (by omega) (fun hc20 => ?_) (fun hc20 => ?_) | refine z_cne 23 rfl rfl (fun hc20 => ?_) (fun hc20 => ?_)
      · refine z_push 31 (nI 65536) rfl rfl rfl ?_
        refine z_istore 32 rfl rfl rfl rfl ?_
        refine z_iload 33 rfl rfl rfl ?_
        refine z_iload 34 rfl rfl rfl ?_
        first | refine z_nlt 37 rfl rfl (by omega) (by omega) (fun hc34 => ?_) (fun hc34 => ?_) | refine z_klt 37 rfl rfl (by omega) (fun hc34 => ?_) (fun hc34 => ?_) | refine z_hlt 37 rfl rfl (by omega) (fun hc34 => ?_) (fun hc34 => ?_) | refine z_tlt 37 rfl rfl (fun hc34 => ?_) (fun hc34 => ?_)
        · refine z_push 62 (nI 0) rfl rfl rfl ?_
          refine z_iretb rfl (Nat.le_refl _) (Nat.le_refl _) (by first | decide | exact bI_01 _) ?_
          first
          | (refine zqo ?_ q; rw [hld_f1 (by omega)]; rfl)
          | (refine zqo ?_ q; rw [hld_f2 (by omega)]; rfl)
          | (refine zqo ?_ q; rw [hld_t (by omega) (by omega) (Or.inl hc47)]; rfl)
          | (refine zqo ?_ q; rw [hld_t (by omega) (by omega) (Or.inr hc54)]; rfl)
          | (refine zqo ?_ q; rw [hld_f3 hc47 hc54]; rfl)
        · refine z_iload 38 rfl rfl rfl ?_
          refine z_push 40 (nI 1114111) rfl rfl rfl ?_
          first | refine z_ngt 43 rfl rfl (by omega) (by omega) (fun hc40 => ?_) (fun hc40 => ?_) | refine z_kgt 43 rfl rfl (by omega) (fun hc40 => ?_) (fun hc40 => ?_) | refine z_hgt 43 rfl rfl (by omega) (fun hc40 => ?_) (fun hc40 => ?_) | refine z_tgt 43 rfl rfl (fun hc40 => ?_) (fun hc40 => ?_)
          · refine z_push 62 (nI 0) rfl rfl rfl ?_
            refine z_iretb rfl (Nat.le_refl _) (Nat.le_refl _) (by first | decide | exact bI_01 _) ?_
            first
            | (refine zqo ?_ q; rw [hld_f1 (by omega)]; rfl)
            | (refine zqo ?_ q; rw [hld_f2 (by omega)]; rfl)
            | (refine zqo ?_ q; rw [hld_t (by omega) (by omega) (Or.inl hc47)]; rfl)
            | (refine zqo ?_ q; rw [hld_t (by omega) (by omega) (Or.inr hc54)]; rfl)
            | (refine zqo ?_ q; rw [hld_f3 hc47 hc54]; rfl)
          · refine z_iload 44 rfl rfl rfl ?_
            refine z_cs 47 _ rfl rfl rfl rfl rfl rfl (Nat.le_refl _) (Nat.le_refl _) ?_
            refine c_isHalf ?_
            first | refine z_beq 50 rfl rfl (fun hc47 => ?_) (fun hc47 => ?_) | refine z_zeq 50 rfl rfl (by omega) (fun hc47 => ?_) (fun hc47 => ?_) | refine z_jeq 50 rfl rfl (fun hc47 => ?_) (fun hc47 => ?_)
            · refine z_push 58 (nI 1) rfl rfl rfl ?_
              refine z_goto rfl ?_
              refine z_iretb rfl (Nat.le_refl _) (Nat.le_refl _) (by first | decide | exact bI_01 _) ?_
              first
              | (refine zqo ?_ q; rw [hld_f1 (by omega)]; rfl)
              | (refine zqo ?_ q; rw [hld_f2 (by omega)]; rfl)
              | (refine zqo ?_ q; rw [hld_t (by omega) (by omega) (Or.inl hc47)]; rfl)
              | (refine zqo ?_ q; rw [hld_t (by omega) (by omega) (Or.inr hc54)]; rfl)
              | (refine zqo ?_ q; rw [hld_f3 hc47 hc54]; rfl)
            · refine z_iload 51 rfl rfl rfl ?_
              refine z_cs 54 _ rfl rfl rfl rfl rfl rfl (Nat.le_refl _) (Nat.le_refl _) ?_
              refine c_isHalf ?_
              first | refine z_bne 57 rfl rfl (fun hc54 => ?_) (fun hc54 => ?_) | refine z_zne 57 rfl rfl (by omega) (fun hc54 => ?_) (fun hc54 => ?_) | refine z_jne 57 rfl rfl (fun hc54 => ?_) (fun hc54 => ?_)
              · refine z_push 62 (nI 0) rfl rfl rfl ?_
                refine z_iretb rfl (Nat.le_refl _) (Nat.le_refl _) (by first | decide | exact bI_01 _) ?_
                first
                | (refine zqo ?_ q; rw [hld_f1 (by omega)]; rfl)
                | (refine zqo ?_ q; rw [hld_f2 (by omega)]; rfl)
                | (refine zqo ?_ q; rw [hld_t (by omega) (by omega) (Or.inl hc47)]; rfl)
                | (refine zqo ?_ q; rw [hld_t (by omega) (by omega) (Or.inr hc54)]; rfl)
                | (refine zqo ?_ q; rw [hld_f3 hc47 hc54]; rfl)
              · refine z_push 58 (nI 1) rfl rfl rfl ?_
                refine z_goto rfl ?_
                refine z_iretb rfl (Nat.le_refl _) (Nat.le_refl _) (by first | decide | exact bI_01 _) ?_
                first
                | (refine zqo ?_ q; rw [hld_f1 (by omega)]; rfl)
                | (refine zqo ?_ q; rw [hld_f2 (by omega)]; rfl)
                | (refine zqo ?_ q; rw [hld_t (by omega) (by omega) (Or.inl hc47)]; rfl)
                | (refine zqo ?_ q; rw [hld_t (by omega) (by omega) (Or.inr hc54)]; rfl)
                | (refine zqo ?_ q; rw [hld_f3 hc47 hc54]; rfl)
      · refine z_push 26 (nI 2048) rfl rfl rfl ?_
        refine z_goto rfl ?_
        refine z_istore 32 rfl rfl rfl rfl ?_
        refine z_iload 33 rfl rfl rfl ?_
        refine z_iload 34 rfl rfl rfl ?_
        first | refine z_nlt 37 rfl rfl (by omega) (by omega) (fun hc34 => ?_) (fun hc34 => ?_) | refine z_klt 37 rfl rfl (by omega) (fun hc34 => ?_) (fun hc34 => ?_) | refine z_hlt 37 rfl rfl (by omega) (fun hc34 => ?_) (fun hc34 => ?_) | refine z_tlt 37 rfl rfl (fun hc34 => ?_) (fun hc34 => ?_)
        · refine z_push 62 (nI 0) rfl rfl rfl ?_
          refine z_iretb rfl (Nat.le_refl _) (Nat.le_refl _) (by first | decide | exact bI_01 _) ?_
          first
          | (refine zqo ?_ q; rw [hld_f1 (by omega)]; rfl)
          | (refine zqo ?_ q; rw [hld_f2 (by omega)]; rfl)
          | (refine zqo ?_ q; rw [hld_t (by omega) (by omega) (Or.inl hc47)]; rfl)
          | (refine zqo ?_ q; rw [hld_t (by omega) (by omega) (Or.inr hc54)]; rfl)
          | (refine zqo ?_ q; rw [hld_f3 hc47 hc54]; rfl)
        · refine z_iload 38 rfl rfl rfl ?_
          refine z_push 40 (nI 1114111) rfl rfl rfl ?_
          first | refine z_ngt 43 rfl rfl (by omega) (by omega) (fun hc40 => ?_) (fun hc40 => ?_) | refine z_kgt 43 rfl rfl (by omega) (fun hc40 => ?_) (fun hc40 => ?_) | refine z_hgt 43 rfl rfl (by omega) (fun hc40 => ?_) (fun hc40 => ?_) | refine z_tgt 43 rfl rfl (fun hc40 => ?_) (fun hc40 => ?_)
          · refine z_push 62 (nI 0) rfl rfl rfl ?_
            refine z_iretb rfl (Nat.le_refl _) (Nat.le_refl _) (by first | decide | exact bI_01 _) ?_
            first
            | (refine zqo ?_ q; rw [hld_f1 (by omega)]; rfl)
            | (refine zqo ?_ q; rw [hld_f2 (by omega)]; rfl)
            | (refine zqo ?_ q; rw [hld_t (by omega) (by omega) (Or.inl hc47)]; rfl)
            | (refine zqo ?_ q; rw [hld_t (by omega) (by omega) (Or.inr hc54)]; rfl)
            | (refine zqo ?_ q; rw [hld_f3 hc47 hc54]; rfl)
          · refine z_iload 44 rfl rfl rfl ?_
            refine z_cs 47 _ rfl rfl rfl rfl rfl rfl (Nat.le_refl _) (Nat.le_refl _) ?_
            refine c_isHalf ?_
            first | refine z_beq 50 rfl rfl (fun hc47 => ?_) (fun hc47 => ?_) | refine z_zeq 50 rfl rfl (by omega) (fun hc47 => ?_) (fun hc47 => ?_) | refine z_jeq 50 rfl rfl (fun hc47 => ?_) (fun hc47 => ?_)
            · refine z_push 58 (nI 1) rfl rfl rfl ?_
              refine z_goto rfl ?_
              refine z_iretb rfl (Nat.le_refl _) (Nat.le_refl _) (by first | decide | exact bI_01 _) ?_
              first
              | (refine zqo ?_ q; rw [hld_f1 (by omega)]; rfl)
              | (refine zqo ?_ q; rw [hld_f2 (by omega)]; rfl)
              | (refine zqo ?_ q; rw [hld_t (by omega) (by omega) (Or.inl hc47)]; rfl)
              | (refine zqo ?_ q; rw [hld_t (by omega) (by omega) (Or.inr hc54)]; rfl)
              | (refine zqo ?_ q; rw [hld_f3 hc47 hc54]; rfl)
            · refine z_iload 51 rfl rfl rfl ?_
              refine z_cs 54 _ rfl rfl rfl rfl rfl rfl (Nat.le_refl _) (Nat.le_refl _) ?_
              refine c_isHalf ?_
              first | refine z_bne 57 rfl rfl (fun hc54 => ?_) (fun hc54 => ?_) | refine z_zne 57 rfl rfl (by omega) (fun hc54 => ?_) (fun hc54 => ?_) | refine z_jne 57 rfl rfl (fun hc54 => ?_) (fun hc54 => ?_)
              · refine z_push 62 (nI 0) rfl rfl rfl ?_
                refine z_iretb rfl (Nat.le_refl _) (Nat.le_refl _) (by first | decide | exact bI_01 _) ?_
                first
                | (refine zqo ?_ q; rw [hld_f1 (by omega)]; rfl)
                | (refine zqo ?_ q; rw [hld_f2 (by omega)]; rfl)
                | (refine zqo ?_ q; rw [hld_t (by omega) (by omega) (Or.inl hc47)]; rfl)
                | (refine zqo ?_ q; rw [hld_t (by omega) (by omega) (Or.inr hc54)]; rfl)
                | (refine zqo ?_ q; rw [hld_f3 hc47 hc54]; rfl)
              · refine z_push 58 (nI 1) rfl rfl rfl ?_
                refine z_goto rfl ?_
                refine z_iretb rfl (Nat.le_refl _) (Nat.le_refl _) (by first | decide | exact bI_01 _) ?_
                first
                | (refine zqo ?_ q; rw [hld_f1 (by omega)]; rfl)
                | (refine zqo ?_ q; rw [hld_f2 (by omega)]; rfl)
                | (refine zqo ?_ q; rw [hld_t (by omega) (by omega) (Or.inl hc47)]; rfl)
                | (refine zqo ?_ q; rw [hld_t (by omega) (by omega) (Or.inr hc54)]; rfl)
                | (refine zqo ?_ q; rw [hld_f3 hc47 hc54]; rfl)
    · refine z_push 15 (nI 128) rfl rfl rfl ?_
      refine z_goto rfl ?_
      refine z_istore 32 rfl rfl rfl rfl ?_
      refine z_iload 33 rfl rfl rfl ?_
      refine z_iload 34 rfl rfl rfl ?_
      first | refine z_nlt 37 rfl rfl (by omega) (by omega) (fun hc34 => ?_) (fun hc34 => ?_) | refine z_klt 37 rfl rfl (by omega) (fun hc34 => ?_) (fun hc34 => ?_) | refine z_hlt 37 rfl rfl (by omega) (fun hc34 => ?_) (fun hc34 => ?_) | refine z_tlt 37 rfl rfl (fun hc34 => ?_) (fun hc34 => ?_)
      · refine z_push 62 (nI 0) rfl rfl rfl ?_
        refine z_iretb rfl (Nat.le_refl _) (Nat.le_refl _) (by first | decide | exact bI_01 _) ?_
        first
        | (refine zqo ?_ q; rw [hld_f1 (by omega)]; rfl)
        | (refine zqo ?_ q; rw [hld_f2 (by omega)]; rfl)
        | (refine zqo ?_ q; rw [hld_t (by omega) (by omega) (Or.inl hc47)]; rfl)
        | (refine zqo ?_ q; rw [hld_t (by omega) (by omega) (Or.inr hc54)]; rfl)
        | (refine zqo ?_ q; rw [hld_f3 hc47 hc54]; rfl)
      · refine z_iload 38 rfl rfl rfl ?_
        refine z_push 40 (nI 1114111) rfl rfl rfl ?_
        first | refine z_ngt 43 rfl rfl (by omega) (by omega) (fun hc40 => ?_) (fun hc40 => ?_) | refine z_kgt 43 rfl rfl (by omega) (fun hc40 => ?_) (fun hc40 => ?_) | refine z_hgt 43 rfl rfl (by omega) (fun hc40 => ?_) (fun hc40 => ?_) | refine z_tgt 43 rfl rfl (fun hc40 => ?_) (fun hc40 => ?_)
        · refine z_push 62 (nI 0) rfl rfl rfl ?_
          refine z_iretb rfl (Nat.le_refl _) (Nat.le_refl _) (by first | decide | exact bI_01 _) ?_
          first
          | (refine zqo ?_ q; rw [hld_f1 (by omega)]; rfl)
          | (refine zqo ?_ q; rw [hld_f2 (by omega)]; rfl)
          | (refine zqo ?_ q; rw [hld_t (by omega) (by omega) (Or.inl hc47)]; rfl)
          | (refine zqo ?_ q; rw [hld_t (by omega) (by omega) (Or.inr hc54)]; rfl)
          | (refine zqo ?_ q; rw [hld_f3 hc47 hc54]; rfl)
        · refine z_iload 44 rfl rfl rfl ?_
          refine z_cs 47 _ rfl rfl rfl rfl rfl rfl (Nat.le_refl _) (Nat.le_refl _) ?_
          refine c_isHalf ?_
          first | refine z_beq 50 rfl rfl (fun hc47 => ?_) (fun hc47 => ?_) | refine z_zeq 50 rfl rfl (by omega) (fun hc47 => ?_) (fun hc47 => ?_) | refine z_jeq 50 rfl rfl (fun hc47 => ?_) (fun hc47 => ?_)
          · refine z_push 58 (nI 1) rfl rfl rfl ?_
            refine z_goto rfl ?_
            refine z_iretb rfl (Nat.le_refl _) (Nat.le_refl _) (by first | decide | exact bI_01 _) ?_
            first
            | (refine zqo ?_ q; rw [hld_f1 (by omega)]; rfl)
            | (refine zqo ?_ q; rw [hld_f2 (by omega)]; rfl)
            | (refine zqo ?_ q; rw [hld_t (by omega) (by omega) (Or.inl hc47)]; rfl)
            | (refine zqo ?_ q; rw [hld_t (by omega) (by omega) (Or.inr hc54)]; rfl)
            | (refine zqo ?_ q; rw [hld_f3 hc47 hc54]; rfl)
          · refine z_iload 51 rfl rfl rfl ?_
            refine z_cs 54 _ rfl rfl rfl rfl rfl rfl (Nat.le_refl _) (Nat.le_refl _) ?_
            refine c_isHalf ?_
            first | refine z_bne 57 rfl rfl (fun hc54 => ?_) (fun hc54 => ?_) | refine z_zne 57 rfl rfl (by omega) (fun hc54 => ?_) (fun hc54 => ?_) | refine z_jne 57 rfl rfl (fun hc54 => ?_) (fun hc54 => ?_)
            · refine z_push 62 (nI 0) rfl rfl rfl ?_
              refine z_iretb rfl (Nat.le_refl _) (Nat.le_refl _) (by first | decide | exact bI_01 _) ?_
              first
              | (refine zqo ?_ q; rw [hld_f1 (by omega)]; rfl)
              | (refine zqo ?_ q; rw [hld_f2 (by omega)]; rfl)
              | (refine zqo ?_ q; rw [hld_t (by omega) (by omega) (Or.inl hc47)]; rfl)
              | (refine zqo ?_ q; rw [hld_t (by omega) (by omega) (Or.inr hc54)]; rfl)
              | (refine zqo ?_ q; rw [hld_f3 hc47 hc54]; rfl)
            · refine z_push 58 (nI 1) rfl rfl rfl ?_
              refine z_goto rfl ?_
              refine z_iretb rfl (Nat.le_refl _) (Nat.le_refl _) (by first | decide | exact bI_01 _) ?_
              first
              | (refine zqo ?_ q; rw [hld_f1 (by omega)]; rfl)
              | (refine zqo ?_ q; rw [hld_f2 (by omega)]; rfl)
              | (refine zqo ?_ q; rw [hld_t (by omega) (by omega) (Or.inl hc47)]; rfl)
              | (refine zqo ?_ q; rw [hld_t (by omega) (by omega) (Or.inr hc54)]; rfl)
              | (refine zqo ?_ q; rw [hld_f3 hc47 hc54]; rfl)
