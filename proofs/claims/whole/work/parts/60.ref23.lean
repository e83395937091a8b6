/-! the reference: writing points, lone halves, all units -/
def sgW (K : Nat) (E : List En) (H : List Sh) (sg st : Nat) : List Nat × Nat := match fnd K E sg with
  | some x => pbW K H st x.1 x.2.1 x.2.2
  | none => ([], st)
/-- a point is written: bytes and state; none: it is missing -/
def wp1 (F : List Fb) (K : Nat) (E : List En) (H : List Sh) (rule sg pt st : Nat) : Option (List Nat × Nat) := match fnd K E pt with
  | some x => some (pbW K H st x.1 x.2.1 x.2.2)
  | none => if rule = 1 then some (sgW K E H sg st) else if rule = 2 then some ([], st) else if rule = 4 ∧ flS F K E 40 pt = true then some (fa F K E H 40 pt st) else none
def wl1 (K : Nat) (E : List En) (H : List Sh) (rule sg u st : Nat) : Option (List Nat × Nat) := if rule = 1 then some (sgW K E H sg st) else if rule = 2 then some ([], st) else if rule = 3 ∧ (56320 ≤ u ∧ u ≤ 56575) then some ([u - 56320], st) else none
/-- what becomes of something that is written, or missing -/
def wM (r : Nat) (h0 : mH) (s : rS) (o : Nat) (c : Bool) (m : Nat) (l : List Nat) (x : Option (List Nat × Nat)) (Q : mP) : Prop := (∀ y, x = some y → wQ (wL o) r h0 s o c m l y.1 y.2 Q) ∧ (x = none → ∀ h' s', Rf r h0 s' h' → On (wL o) s s' → WOut s' o c m l → s'.1 34 = s.1 34 → Q (some (.int (-10))) h')
theorem sgW_ok {K sg st : Nat} {E : List En} {H : List Sh} (hG : Gd K E H) (hs : SOk K H st) : SOk K H (sgW K E H sg st).2 := by
  unfold sgW
  split
  · rename_i x hx; exact (pb_ok hG hs hx).2
  · exact hs
theorem wp1_ok {F : List Fb} {K rule sg pt st : Nat} {E : List En} {H : List Sh} (hG : Gd K E H) (hs : SOk K H st) : ∀ y, wp1 F K E H rule sg pt st = some y → SOk K H y.2 := by
  intro y hy
  unfold wp1 at hy
  split at hy
  · rename_i x hx; cases hy; exact (pb_ok hG hs hx).2
  · split at hy
    · cases hy; exact sgW_ok hG hs
    · split at hy
      · cases hy; exact hs
      · split at hy
        · cases hy; exact fa_ok hG _ _ _ hs
        · cases hy
theorem wl1_ok {K rule sg u st : Nat} {E : List En} {H : List Sh} (hG : Gd K E H) (hs : SOk K H st) : ∀ y, wl1 K E H rule sg u st = some y → SOk K H y.2 := by
  intro y hy
  unfold wl1 at hy
  split at hy
  · cases hy; exact sgW_ok hG hs
  · split at hy
    · cases hy; exact hs
    · split at hy
      · cases hy; exact hs
      · cases hy
set_option maxRecDepth 100000 in
theorem r_writePoint {d r : Nat} {h h0 : mH} {s : rS} {p K st o kk nn m rule sg : Nat} {c : Bool} {l0 : List Nat} {E : List En} {H : List Sh} {pt : Nat} {F : List Fb} {Q : mP} (hR : Rf r h0 s h) (hp11 : p < 11) (hk : s.2.2 1 p = K) (hK : K < 4) (hT : TbR s p E H) (hW : TbW E H) (hG : Gd K E H) (hs : SOk K H st) (h34 : s.1 34 = st) (hA : wO o kk nn m c) (hw : WOut s o c m l0) (hru : rule < 5) (hsg : s.2.2 21 1 = sg) (hsgb : sg < 1114112) (hFB : RFb s F) (hFW : FbW F) (hFd : ∀ x, Fdp F 40 x) (hpt : pt < 1114112)  (q : wM r h0 s o c m l0 (wp1 F K E H rule sg pt st) Q) : mWP (d + 53) 222 [.ref r, .int (nI p), .int (nI rule), .int (nI pt)] h Q := by
  refine z_in [some (.ref r), some (.int (nI p)), some (.int (nI rule)), some (.int (nI pt))] (by rfl) rfl rfl rfl ?_
  refine z_aload 1 rfl rfl rfl ?_
  refine z_iload 2 rfl rfl rfl ?_
  refine z_iload 3 rfl rfl rfl ?_
  refine z_cv2 6 rfl rfl hR.1 rfl (Nat.le_refl _) (Nat.le_refl _) ?_
  refine r_find hR hp11 hk hK hT hW hpt (fun h s1 hR hO hF1 => ?_)
  rcases hfn : fnd K E pt with _ | ⟨ts, nn9, vv⟩
  · simp only [Option.isSome]
    have hsg1 : s1.2.2 21 1 = sg := by rw [(hO.1 21 (by decide)).2]; exact hsg
    refine z_beq 9 rfl rfl (fun _ => ?_) (fun h9 => absurd h9 (by decide))
    refine z_iload 16 rfl rfl rfl ?_
    refine z_push 17 (nI 1) rfl rfl rfl ?_
    refine z_nne 20 rfl rfl (by omega) (by omega) (fun hc17 => ?_) (fun hc17 => ?_)
    · refine z_iload 45 rfl rfl rfl ?_
      refine z_push 46 (nI 2) rfl rfl rfl ?_
      refine z_nne 49 rfl rfl (by omega) (by omega) (fun hc46 => ?_) (fun hc46 => ?_)
      · refine z_iload 52 rfl rfl rfl ?_
        refine z_push 53 (nI 4) rfl rfl rfl ?_
        refine z_nne 56 rfl rfl (by omega) (by omega) (fun hc53 => ?_) (fun hc53 => ?_)
        · refine z_push 76 (-10) rfl rfl rfl ?_
          refine z_ireti rfl (Nat.le_refl _) (Nat.le_refl _) ?_
          have e9 : wp1 F K E H rule sg pt st = none := by rw [wp1, hfn]; simp only [if_neg hc17, if_neg hc46]; exact if_neg (fun h9 => hc53 h9.1)
          exact q.2 e9 h s1 hR (hO.mono (by simp [wL])) (hw.on (kk := kk) (nn := nn) hO (by decide) (by decide) (by decide) hA.n4.2) ((hO.1 34 (by decide)).1)
        · refine z_aload 57 rfl rfl rfl ?_
          refine z_iload 58 rfl rfl rfl ?_
          refine z_iload 59 rfl rfl rfl ?_
          refine z_cv2 62 rfl rfl hR.1 rfl (Nat.le_refl _) (Nat.le_refl _) ?_
          have hfn0 := hfn
          refine r_falls2 (n := 40) hp11 hK hW hFW (by decide) (by omega) hR (by rw [(hO.1 1 (by decide)).2]; exact hk) (hO.tb (by decide) hT) (hFB.k (hO.keep (by decide))) hpt (hFd pt) (fun h s4 hR hO4 => ?_)
          rcases hfl : flS F K E 40 pt with _ | _
          · 
            refine z_beq 65 rfl rfl (fun _ => ?_) (fun h9 => absurd h9 (by decide))
            refine z_push 76 (-10) rfl rfl rfl ?_
            refine z_ireti rfl (Nat.le_refl _) (Nat.le_refl _) ?_
            have e9 : wp1 F K E H rule sg pt st = none := by rw [wp1, hfn0]; simp only [if_neg hc17, if_neg hc46]; exact if_neg (fun h9 => by rw [hfl] at h9; exact absurd h9.2 (by decide))
            exact q.2 e9 h s4 hR ((hO.trans hO4).mono (by simp [wL])) (hw.on (kk := kk) (nn := nn) (hO.trans hO4) (by decide) (by decide) (by decide) hA.n4.2) (((hO.trans hO4).1 34 (by decide)).1)
          · 
            refine z_beq 65 rfl rfl (fun h9 => absurd h9 (by decide)) (fun _ => ?_)
            refine z_aload 66 rfl rfl rfl ?_
            refine z_iload 67 rfl rfl rfl ?_
            refine z_iload 68 rfl rfl rfl ?_
            refine z_cv2 71 rfl rfl hR.1 rfl (Nat.le_refl _) (Nat.le_refl _) ?_
            have hO5 := hO.trans hO4
            have hOw := hO5.mono (show ∀ x, x ∈ [31, 32, 33] → x ∈ wL o from by simp [wL])
            refine r_fall2 (n := 40) hp11 hK hW hG hFW hA (by decide) (by omega) hR (by rw [(hO5.1 1 (by decide)).2]; exact hk) (hO5.tb (by decide) hT) (hFB.k (hO5.keep (by decide))) hpt (hFd pt) hfl hs ((hO5.1 34 (by decide)).1.trans h34) (hw.on (kk := kk) (nn := nn) hO5 (by decide) (by decide) (by decide) hA.n4.2) ⟨fun hle h s2 hR hO2 hw2 g34 => ?_, fun hlt h s2 hR hO2 => ?_⟩
            · 
              refine z_goto rfl ?_
              refine z_ireti rfl (Nat.le_refl _) (Nat.le_refl _) ?_
              have e9 : wp1 F K E H rule sg pt st = some (fa F K E H 40 pt st) := by rw [wp1, hfn0]; simp only [if_neg hc17, if_neg hc46]; exact if_pos ⟨hc53, hfl⟩
              have q1 := q.1 _ e9
              exact q1.1 hle h s2 hR (hOw.trans hO2) hw2 g34
            · 
              refine z_goto rfl ?_
              refine z_ireti rfl (Nat.le_refl _) (Nat.le_refl _) ?_
              have e9 : wp1 F K E H rule sg pt st = some (fa F K E H 40 pt st) := by rw [wp1, hfn0]; simp only [if_neg hc17, if_neg hc46]; exact if_pos ⟨hc53, hfl⟩
              have q1 := q.1 _ e9
              exact q1.2 hlt h s2 hR (hOw.trans hO2)
      · refine z_push 50 (nI 0) rfl rfl rfl ?_
        refine z_ireti rfl (Nat.le_refl _) (Nat.le_refl _) ?_
        have e9 : wp1 F K E H rule sg pt st = some ([], st) := by rw [wp1, hfn]; simp only [if_neg hc17, if_pos hc46]
        have q1 := q.1 _ e9
        exact q1.1 (by have := hw.2.2.2.2.1; simpa using this) h s1 hR (hO.mono (by simp [wL])) (by rw [List.append_nil]; exact hw.on (kk := kk) (nn := nn) hO (by decide) (by decide) (by decide) hA.n4.2) ((hO.1 34 (by decide)).1.trans h34)
    · refine z_aload 21 rfl rfl rfl ?_
      refine z_iload 22 rfl rfl rfl ?_
      refine z_aload 23 rfl rfl rfl ?_
      refine y_ga 26 hR rfl rfl rfl ?_
      refine z_push 27 (nI 1) rfl rfl rfl ?_
      refine y_al (f := 21) 28 _ hR rfl rfl rfl rfl (by omega) (by repeat (first | with_reducible exact hsg1 | with_reducible exact gA_eq _ _ _ _ | (with_reducible apply gA_ne; decide) | with_reducible apply gA_I | with_reducible apply gA_O | (with_reducible apply gA_nj; omega) | with_reducible rfl)) ?_
      refine z_cv2 31 rfl rfl hR.1 rfl (Nat.le_refl _) (Nat.le_refl _) ?_
      have hfn0 := hfn
      clear hfn
      refine r_find hR hp11 (by rw [(hO.1 1 (by decide)).2]; exact hk) hK (hO.tb (by decide) hT) hW hsgb (fun h s3 hR hO3 hF3 => ?_)
      rcases hfn : fnd K E sg with _ | ⟨ts, nn9, vv⟩
      · simp only [Option.isSome]
        refine z_beq 34 rfl rfl (fun _ => ?_) (fun h9 => absurd h9 (by decide))
        refine z_push 43 (nI 0) rfl rfl rfl ?_
        refine z_ireti rfl (Nat.le_refl _) (Nat.le_refl _) ?_
        have e9 : wp1 F K E H rule sg pt st = some ([], st) := by rw [wp1, hfn0]; simp only [if_pos hc17, sgW, hfn]
        have q1 := q.1 _ e9
        exact q1.1 (by have := hw.2.2.2.2.1; simpa using this) h s3 hR ((hO.trans hO3).mono (by simp [wL])) (by rw [List.append_nil]; exact hw.on (kk := kk) (nn := nn) (hO.trans hO3) (by decide) (by decide) (by decide) hA.n4.2) (((hO.trans hO3).1 34 (by decide)).1.trans h34)
      · simp only [Option.isSome]
        refine z_beq 34 rfl rfl (fun h9 => absurd h9 (by decide)) (fun _ => ?_)
        refine z_aload 35 rfl rfl rfl ?_
        refine z_iload 36 rfl rfl rfl ?_
        refine z_cv1 39 rfl rfl hR.1 rfl (Nat.le_refl _) (Nat.le_refl _) ?_
        obtain ⟨hb1, hb2, hb3, hb4, hb5, hb6, hb7⟩ := fnd_b hW hsgb hfn
        obtain ⟨g31, gX⟩ := hF3 ts nn9 vv hfn
        refine r_putPoint hR (by rw [((hO.trans hO3).1 1 (by decide)).2]; exact hk) hK ((hO.trans hO3).tb (by decide) hT) hW hs.1 (((hO.trans hO3).1 34 (by decide)).1.trans h34) hA (hw.on (kk := kk) (nn := nn) (hO.trans hO3) (by decide) (by decide) (by decide) hA.n4.2) hb1 hb3 g31 gX (pb_ok hG hs hfn).1 ?_
        have hOw := (hO.trans hO3).mono (show ∀ x, x ∈ [31, 32, 33] → x ∈ wL o from by simp [wL])
        refine ⟨fun hle h s2 hR hO2 hw2 g34 => ?_, fun hlt h s2 hR hO2 => ?_⟩
        · 
          refine z_goto rfl ?_
          refine z_ireti rfl (Nat.le_refl _) (Nat.le_refl _) ?_
          have e9 : wp1 F K E H rule sg pt st = some (pbW K H st ts nn9 vv) := by rw [wp1, hfn0]; simp only [if_pos hc17, sgW, hfn]
          have q1 := q.1 _ e9
          exact q1.1 hle h s2 hR (hOw.trans hO2) hw2 g34
        · 
          refine z_goto rfl ?_
          refine z_ireti rfl (Nat.le_refl _) (Nat.le_refl _) ?_
          have e9 : wp1 F K E H rule sg pt st = some (pbW K H st ts nn9 vv) := by rw [wp1, hfn0]; simp only [if_pos hc17, sgW, hfn]
          have q1 := q.1 _ e9
          exact q1.2 hlt h s2 hR (hOw.trans hO2)
  · simp only [Option.isSome]
    refine z_beq 9 rfl rfl (fun h9 => absurd h9 (by decide)) (fun _ => ?_)
    refine z_aload 10 rfl rfl rfl ?_
    refine z_iload 11 rfl rfl rfl ?_
    refine z_cv1 14 rfl rfl hR.1 rfl (Nat.le_refl _) (Nat.le_refl _) ?_
    obtain ⟨hb1, hb2, hb3, hb4, hb5, hb6, hb7⟩ := fnd_b hW hpt hfn
    obtain ⟨g31, gX⟩ := hF1 ts nn9 vv hfn
    refine r_putPoint hR (by rw [(hO.1 1 (by decide)).2]; exact hk) hK (hO.tb (by decide) hT) hW hs.1 ((hO.1 34 (by decide)).1.trans h34) hA (hw.on (kk := kk) (nn := nn) hO (by decide) (by decide) (by decide) hA.n4.2) hb1 hb3 g31 gX (pb_ok hG hs hfn).1 ?_
    have hOw := hO.mono (show ∀ x, x ∈ [31, 32, 33] → x ∈ wL o from by simp [wL])
    refine ⟨fun hle h s2 hR hO2 hw2 g34 => ?_, fun hlt h s2 hR hO2 => ?_⟩
    · 
      refine z_ireti rfl (Nat.le_refl _) (Nat.le_refl _) ?_
      have e9 : wp1 F K E H rule sg pt st = some (pbW K H st ts nn9 vv) := by rw [wp1, hfn]
      have q1 := q.1 _ e9
      exact q1.1 hle h s2 hR (hOw.trans hO2) hw2 g34
    · 
      refine z_ireti rfl (Nat.le_refl _) (Nat.le_refl _) ?_
      have e9 : wp1 F K E H rule sg pt st = some (pbW K H st ts nn9 vv) := by rw [wp1, hfn]
      have q1 := q.1 _ e9
      exact q1.2 hlt h s2 hR (hOw.trans hO2)
set_option maxRecDepth 100000 in
theorem r_writeLone {d r : Nat} {h h0 : mH} {s : rS} {p K st o kk nn m rule sg : Nat} {c : Bool} {l0 : List Nat} {E : List En} {H : List Sh} {u : Nat} {Q : mP} (hR : Rf r h0 s h) (hp11 : p < 11) (hk : s.2.2 1 p = K) (hK : K < 4) (hT : TbR s p E H) (hW : TbW E H) (hG : Gd K E H) (hs : SOk K H st) (h34 : s.1 34 = st) (hA : wO o kk nn m c) (hw : WOut s o c m l0) (hru : rule < 5) (hsg : s.2.2 21 1 = sg) (hsgb : sg < 1114112) (hu : u < 65536)  (q : wM r h0 s o c m l0 (wl1 K E H rule sg u st) Q) : mWP (d + 53) 225 [.ref r, .int (nI p), .int (nI rule), .int (nI u)] h Q := by
  refine z_in [some (.ref r), some (.int (nI p)), some (.int (nI rule)), some (.int (nI u))] (by rfl) rfl rfl rfl ?_
  refine z_iload 1 rfl rfl rfl ?_
  refine z_push 2 (nI 1) rfl rfl rfl ?_
  refine z_nne 5 rfl rfl (by omega) (by omega) (fun hc2 => ?_) (fun hc2 => ?_)
  · refine z_iload 30 rfl rfl rfl ?_
    refine z_push 31 (nI 2) rfl rfl rfl ?_
    refine z_nne 34 rfl rfl (by omega) (by omega) (fun hc31 => ?_) (fun hc31 => ?_)
    · refine z_iload 37 rfl rfl rfl ?_
      refine z_push 38 (nI 3) rfl rfl rfl ?_
      refine z_nne 41 rfl rfl (by omega) (by omega) (fun hc38 => ?_) (fun hc38 => ?_)
      · refine z_push 66 (-10) rfl rfl rfl ?_
        refine z_ireti rfl (Nat.le_refl _) (Nat.le_refl _) ?_
        have e9 : wl1 K E H rule sg u st = none := by rw [wl1, if_neg hc2, if_neg hc31, if_neg (fun h9 => by first | exact hc38 h9.1 | exact hc50 h9.2)]
        exact q.2 e9 h s hR On.rfl hw rfl
      · refine z_iload 42 rfl rfl rfl ?_
        refine z_push 44 (nI 56320) rfl rfl rfl ?_
        refine z_push 47 (nI 56575) rfl rfl rfl ?_
        refine z_cs3 50 rfl rfl rfl (Nat.le_refl _) (Nat.le_refl _) ?_
        refine r_in ?_
        rw [jIn_n (by omega) (by omega) (by omega)]
        first | refine z_deq 53 rfl rfl (fun hc50 => ?_) (fun hc50 => ?_)
        · refine z_push 66 (-10) rfl rfl rfl ?_
          refine z_ireti rfl (Nat.le_refl _) (Nat.le_refl _) ?_
          have e9 : wl1 K E H rule sg u st = none := by rw [wl1, if_neg hc2, if_neg hc31, if_neg (fun h9 => by first | exact hc38 h9.1 | exact hc50 h9.2)]
          exact q.2 e9 h s hR On.rfl hw rfl
        · refine z_aload 54 rfl rfl rfl ?_
          refine z_iload 55 rfl rfl rfl ?_
          refine z_push 57 (nI 56320) rfl rfl rfl ?_
          refine z_bop 58 _ rfl rfl (by first | with_reducible exact zb_1 (by omega) | exact zd_1 _ _) ?_
          refine z_cv1 61 rfl rfl hR.1 rfl (Nat.le_refl _) (Nat.le_refl _) ?_
          refine r_putByte hR hw hA.1 hA.2.1 hA.2.2.1 hA.ne.1 hA.ne.2.1 (fun hlt h s2 hR hO2 hw2 => ?_) (fun hfull => ?_)
          · 
            refine z_goto rfl ?_
            refine z_ireti rfl (Nat.le_refl _) (Nat.le_refl _) ?_
            have e9 : wl1 K E H rule sg u st = some ([u - 56320], st) := by rw [wl1, if_neg hc2, if_neg hc31, if_pos ⟨hc38, hc50⟩]
            have q1 := q.1 _ e9
            exact q1.1 (by simp only [List.length_singleton]; omega) h s2 hR (hO2.mono (show ∀ x, x ∈ [37, o] → x ∈ wL o from by intro x hx; simp only [List.mem_cons, List.not_mem_nil, or_false] at hx; rcases hx with rfl | rfl <;> simp [wL])) hw2 ((hO2.1 34 (hA.n3 34 (by decide))).1.trans h34)
          · 
            refine z_goto rfl ?_
            refine z_ireti rfl (Nat.le_refl _) (Nat.le_refl _) ?_
            have e9 : wl1 K E H rule sg u st = some ([u - 56320], st) := by rw [wl1, if_neg hc2, if_neg hc31, if_pos ⟨hc38, hc50⟩]
            have q1 := q.1 _ e9
            exact q1.2 (by simp only [List.length_singleton]; omega) h s hR On.rfl
    · refine z_push 35 (nI 0) rfl rfl rfl ?_
      refine z_ireti rfl (Nat.le_refl _) (Nat.le_refl _) ?_
      have e9 : wl1 K E H rule sg u st = some ([], st) := by rw [wl1, if_neg hc2, if_pos hc31]
      have q1 := q.1 _ e9
      exact q1.1 (by have := hw.2.2.2.2.1; simpa using this) h s hR On.rfl (by rw [List.append_nil]; exact hw) h34
  · refine z_aload 6 rfl rfl rfl ?_
    refine z_iload 7 rfl rfl rfl ?_
    refine z_aload 8 rfl rfl rfl ?_
    refine y_ga 11 hR rfl rfl rfl ?_
    refine z_push 12 (nI 1) rfl rfl rfl ?_
    refine y_al (f := 21) 13 _ hR rfl rfl rfl rfl (by omega) (by repeat (first | with_reducible exact hsg | with_reducible exact gA_eq _ _ _ _ | (with_reducible apply gA_ne; decide) | with_reducible apply gA_I | with_reducible apply gA_O | (with_reducible apply gA_nj; omega) | with_reducible rfl)) ?_
    refine z_cv2 16 rfl rfl hR.1 rfl (Nat.le_refl _) (Nat.le_refl _) ?_
    refine r_find hR hp11 hk hK hT hW hsgb (fun h s1 hR hO hF1 => ?_)
    rcases hfn : fnd K E sg with _ | ⟨ts, nn9, vv⟩
    · simp only [Option.isSome]
      refine z_beq 19 rfl rfl (fun _ => ?_) (fun h9 => absurd h9 (by decide))
      refine z_push 28 (nI 0) rfl rfl rfl ?_
      refine z_ireti rfl (Nat.le_refl _) (Nat.le_refl _) ?_
      have e9 : wl1 K E H rule sg u st = some ([], st) := by rw [wl1, if_pos hc2, sgW, hfn]
      have q1 := q.1 _ e9
      exact q1.1 (by have := hw.2.2.2.2.1; simpa using this) h s1 hR (hO.mono (by simp [wL])) (by rw [List.append_nil]; exact hw.on (kk := kk) (nn := nn) hO (by decide) (by decide) (by decide) hA.n4.2) ((hO.1 34 (by decide)).1.trans h34)
    · simp only [Option.isSome]
      refine z_beq 19 rfl rfl (fun h9 => absurd h9 (by decide)) (fun _ => ?_)
      refine z_aload 20 rfl rfl rfl ?_
      refine z_iload 21 rfl rfl rfl ?_
      refine z_cv1 24 rfl rfl hR.1 rfl (Nat.le_refl _) (Nat.le_refl _) ?_
      obtain ⟨hb1, hb2, hb3, hb4, hb5, hb6, hb7⟩ := fnd_b hW hsgb hfn
      obtain ⟨g31, gX⟩ := hF1 ts nn9 vv hfn
      refine r_putPoint hR (by rw [(hO.1 1 (by decide)).2]; exact hk) hK (hO.tb (by decide) hT) hW hs.1 ((hO.1 34 (by decide)).1.trans h34) hA (hw.on (kk := kk) (nn := nn) hO (by decide) (by decide) (by decide) hA.n4.2) hb1 hb3 g31 gX (pb_ok hG hs hfn).1 ?_
      have hOw := hO.mono (show ∀ x, x ∈ [31, 32, 33] → x ∈ wL o from by simp [wL])
      refine ⟨fun hle h s2 hR hO2 hw2 g34 => ?_, fun hlt h s2 hR hO2 => ?_⟩
      · 
        refine z_goto rfl ?_
        refine z_ireti rfl (Nat.le_refl _) (Nat.le_refl _) ?_
        have e9 : wl1 K E H rule sg u st = some (pbW K H st ts nn9 vv) := by rw [wl1, if_pos hc2, sgW, hfn]
        have q1 := q.1 _ e9
        exact q1.1 hle h s2 hR (hOw.trans hO2) hw2 g34
      · 
        refine z_goto rfl ?_
        refine z_ireti rfl (Nat.le_refl _) (Nat.le_refl _) ?_
        have e9 : wl1 K E H rule sg u st = some (pbW K H st ts nn9 vv) := by rw [wl1, if_pos hc2, sgW, hfn]
        have q1 := q.1 _ e9
        exact q1.2 hlt h s2 hR (hOw.trans hO2)
