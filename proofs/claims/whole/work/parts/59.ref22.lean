/-! the reference: falls, fall -/
def Fdp (F : List Fb) : Nat → Nat → Prop
  | 0, pt => fbI F pt = none
  | n + 1, pt => ∀ f, fbI F pt = some f → ∀ x, x ∈ fbL F f → Fdp F n x
def flS (F : List Fb) (K : Nat) (E : List En) : Nat → Nat → Bool
  | 0, pt => (fnd K E pt).isSome
  | n + 1, pt => (fnd K E pt).isSome || (match fbI F pt with
    | none => false
    | some f => (fbL F f).all (flS F K E n))
def SOk (K : Nat) (H : List Sh) (st : Nat) : Prop := st < 4 ∧ (K = 0 → Rs H st)
theorem pb_ok {K st pt ts n v : Nat} {E : List En} {H : List Sh} (hG : Gd K E H) (hs : SOk K H st) (hf : fnd K E pt = some (ts, n, v)) : (K = 0 → ∃ l, gP H ts true st = some l) ∧ SOk K H (pbW K H st ts n v).2 := by
  by_cases hK : K = 0
  · subst hK
    obtain ⟨l, hl, hr⟩ := (hG rfl).1 st pt ts n v (hs.2 rfl) hf
    refine ⟨fun _ => ⟨l, hl⟩, ?_⟩
    rw [pbW, if_pos rfl, hl]
    exact ⟨hr.1, fun _ => hr⟩
  · refine ⟨fun h => absurd h hK, ?_⟩
    rw [pbW, if_neg hK]
    exact hs
/-- points written one behind the other -/
def faX (g : Nat → Nat → List Nat × Nat) (l : List Nat) : Nat → Nat → Nat → List Nat × Nat
  | 0, _, st => ([], st)
  | m + 1, k, st => ((g (l.getD k 0) st).1 ++ (faX g l m (k + 1) (g (l.getD k 0) st).2).1, (faX g l m (k + 1) (g (l.getD k 0) st).2).2)
def fa (F : List Fb) (K : Nat) (E : List En) (H : List Sh) : Nat → Nat → Nat → List Nat × Nat
  | 0, pt, st => match fnd K E pt with
    | some x => pbW K H st x.1 x.2.1 x.2.2
    | none => ([], st)
  | n + 1, pt, st => match fnd K E pt with
    | some x => pbW K H st x.1 x.2.1 x.2.2
    | none => match fbI F pt with
      | none => ([], st)
      | some f => faX (fa F K E H n) (fbL F f) (fbL F f).length 0 st
theorem faX_s {g : Nat → Nat → List Nat × Nat} {l : List Nat} {n k st : Nat} (h : k < n) : faX g l (n - k) k st = ((g (l.getD k 0) st).1 ++ (faX g l (n - (k + 1)) (k + 1) (g (l.getD k 0) st).2).1, (faX g l (n - (k + 1)) (k + 1) (g (l.getD k 0) st).2).2) := by
  rw [show n - k = n - (k + 1) + 1 by omega]; rfl
theorem getD_in {l : List Nat} {k : Nat} (h : k < l.length) : l.getD k 0 ∈ l := by
  rw [List.getD_eq_getElem?_getD, List.getElem?_eq_getElem h]
  exact List.getElem_mem h
theorem faX_ok {g : Nat → Nat → List Nat × Nat} {l : List Nat} {P : Nat → Prop} (hg : ∀ x st, x ∈ l → P st → P (g x st).2) : ∀ (m k st : Nat), k + m ≤ l.length → P st → P (faX g l m k st).2
  | 0, _, _, _, h => h
  | m + 1, k, st, hk, h => faX_ok hg m (k + 1) _ (by omega) (hg _ _ (getD_in (by omega)) h)
theorem fa_ok {F : List Fb} {K : Nat} {E : List En} {H : List Sh} (hG : Gd K E H) : ∀ (n pt st : Nat), SOk K H st → SOk K H (fa F K E H n pt st).2
  | 0, pt, st, hs => by
    unfold fa
    split
    · rename_i x hx; exact (pb_ok hG hs hx).2
    · exact hs
  | n + 1, pt, st, hs => by
    unfold fa
    split
    · rename_i x hx; exact (pb_ok hG hs hx).2
    · split
      · exact hs
      · exact faX_ok (fun x st _ h => fa_ok hG n x st h) _ _ _ (by omega) hs
theorem all_f {l : List Nat} {p : Nat → Bool} {k : Nat} (h : k < l.length) (hp : p (l.getD k 0) = false) : l.all p = false := by
  rw [List.all_eq_false]
  exact ⟨_, getD_in h, by rw [hp]; decide⟩
theorem all_t {l : List Nat} {p : Nat → Bool} (h : ∀ k, k < l.length → p (l.getD k 0) = true) : l.all p = true := by
  rw [List.all_eq_true]
  intro x hx
  obtain ⟨k, hk, rfl⟩ := List.getElem_of_mem hx
  have := h k hk
  rw [List.getD_eq_getElem?_getD, List.getElem?_eq_getElem hk] at this
  exact this
theorem lt_s9 {P : Nat → Prop} {k : Nat} (h : ∀ j, j < k → P j) (hk : P k) : ∀ j, j < k + 1 → P j := fun j hj => by
  by_cases h9 : j < k
  · exact h j h9
  · obtain rfl : j = k := by omega
    exact hk
theorem fbI_b {F : List Fb} {pt f : Nat} (h : fbI F pt = some f) : f < F.length := by
  have := ffd_lt h
  omega
set_option maxRecDepth 100000 in
theorem r_falls {r p K : Nat} {h0 : mH} {E : List En} {H : List Sh} {F : List Fb} (hp11 : p < 11) (hK : K < 4) (hW : TbW E H) (hFW : FbW F) : ∀ (n : Nat), n ≤ 40 → ∀ {d pt : Nat} {h : mH} {s : rS} {Q : mP}, Rf r h0 s h → s.2.2 1 p = K → TbR s p E H → RFb s F → pt < 1114112 → Fdp F n pt → (∀ h' s', Rf r h0 s' h' → On [31, 32, 33] s s' → Q (some (.int (bI (flS F K E n pt)))) h') → mWP (d + n + 3) 223 [.ref r, .int (nI p), .int (nI pt)] h Q := by
  intro n
  induction n with
  | zero =>
    intro hn d pt h s Q hR hk hT hFB hpt hFd q
    refine z_in [some (.ref r), some (.int (nI p)), some (.int (nI pt)), none, none, none] (by rfl) rfl rfl rfl ?_
    refine z_aload 1 rfl rfl rfl ?_
    refine z_iload 2 rfl rfl rfl ?_
    refine z_iload 3 rfl rfl rfl ?_
    refine z_cv2 6 rfl rfl hR.1 rfl (Nat.le_refl _) (Nat.le_refl _) ?_
    refine r_find hR hp11 hk hK hT hW hpt (fun h s1 hR hO hF1 => ?_)
    rcases hfn : fnd K E pt with _ | ⟨ts, nn9, vv⟩
    · simp only [Option.isSome]
      refine z_beq 9 rfl rfl (fun _ => ?_) (fun h9 => absurd h9 (by decide))
      refine z_aload 12 rfl rfl rfl ?_
      refine z_iload 13 rfl rfl rfl ?_
      refine z_cv1 16 rfl rfl hR.1 rfl (Nat.le_refl _) (Nat.le_refl _) ?_
      refine r_fallbackOf hR (hFB.k (hO.keep (by decide))) hFW (by omega) ?_
      rw [show fbI F pt = none from hFd]
      simp only [oI]
      · skip
        refine z_istore 17 rfl rfl rfl rfl ?_
        refine z_iload 18 rfl rfl rfl ?_
        refine z_jlt 21 rfl rfl (fun _ => ?_) (fun h9 => absurd h9 (by decide))
        refine z_push 26 (nI 0) rfl rfl rfl ?_
        refine z_istore 28 rfl rfl rfl rfl ?_
        refine z_push 29 (nI 0) rfl rfl rfl ?_
        refine z_istore 31 rfl rfl rfl rfl ?_
        refine z_iload 33 rfl rfl rfl ?_
        refine z_zeq 36 rfl rfl (by omega) (fun _ => ?_) (fun h9 => absurd h9 (by omega))
        refine z_iload 73 rfl rfl rfl ?_
        refine z_iretb rfl (Nat.le_refl _) (Nat.le_refl _) (by first | decide | exact bI_01 _) ?_
        have e9 : flS F K E 0 pt = false := by rw [flS, hfn]; rfl
        rw [e9] at q
        exact q h s1 hR hO
    · simp only [Option.isSome]
      refine z_beq 9 rfl rfl (fun h9 => absurd h9 (by decide)) (fun _ => ?_)
      refine z_push 10 (nI 1) rfl rfl rfl ?_
      refine z_iretb rfl (Nat.le_refl _) (Nat.le_refl _) (by first | decide | exact bI_01 _) ?_
      have e9 : flS F K E 0 pt = true := by rw [flS, hfn]; rfl
      rw [e9] at q
      exact q h s1 hR hO
  | succ n IH =>
    intro hn d pt h s Q hR hk hT hFB hpt hFd q
    refine z_in [some (.ref r), some (.int (nI p)), some (.int (nI pt)), none, none, none] (by rfl) rfl rfl rfl ?_
    refine z_aload 1 rfl rfl rfl ?_
    refine z_iload 2 rfl rfl rfl ?_
    refine z_iload 3 rfl rfl rfl ?_
    refine z_cv2 6 rfl rfl hR.1 rfl (Nat.le_refl _) (Nat.le_refl _) ?_
    refine r_find hR hp11 hk hK hT hW hpt (fun h s1 hR hO hF1 => ?_)
    rcases hfn : fnd K E pt with _ | ⟨ts, nn9, vv⟩
    · simp only [Option.isSome]
      refine z_beq 9 rfl rfl (fun _ => ?_) (fun h9 => absurd h9 (by decide))
      refine z_aload 12 rfl rfl rfl ?_
      refine z_iload 13 rfl rfl rfl ?_
      refine z_cv1 16 rfl rfl hR.1 rfl (Nat.le_refl _) (Nat.le_refl _) ?_
      refine r_fallbackOf hR (hFB.k (hO.keep (by decide))) hFW (by omega) ?_
      rcases hfb : fbI F pt with _ | f
      · simp only [oI]
        refine z_istore 17 rfl rfl rfl rfl ?_
        refine z_iload 18 rfl rfl rfl ?_
        refine z_jlt 21 rfl rfl (fun _ => ?_) (fun h9 => absurd h9 (by decide))
        refine z_push 26 (nI 0) rfl rfl rfl ?_
        refine z_istore 28 rfl rfl rfl rfl ?_
        refine z_push 29 (nI 0) rfl rfl rfl ?_
        refine z_istore 31 rfl rfl rfl rfl ?_
        refine z_iload 33 rfl rfl rfl ?_
        refine z_zeq 36 rfl rfl (by omega) (fun _ => ?_) (fun h9 => absurd h9 (by omega))
        refine z_iload 73 rfl rfl rfl ?_
        refine z_iretb rfl (Nat.le_refl _) (Nat.le_refl _) (by first | decide | exact bI_01 _) ?_
        have e9 : flS F K E (n + 1) pt = false := by rw [flS, hfn, hfb]; rfl
        rw [e9] at q
        exact q h s1 hR hO
      · simp only [oI]
        have hfl := fbI_b hfb
        have hfb1 := (hFB.2.2 f hfl)
        have hfw := hFW f hfl
        have hl40 := hFB.2.1
        have loop : ∀ m k s2 h, (fbL F f).length < k + m → k ≤ (fbL F f).length → Rf r h0 s2 h → On [31, 32, 33] s s2 → (∀ j, j < k → flS F K E n ((fbL F f).getD j 0) = true) → mZ (d + (n + 1) + 2) tk_223 0 0 Q 31 [some (.ref r), some (.int (nI p)), some (.int (nI pt)), some (.int (nI f)), some (.int (nI 1)), some (.int (nI k))] [] h 0 0 := by
          intro m
          induction m with
          | zero => intro k s2 h h1 h2; omega
          | succ m ih =>
            intro k s2 h h1 h2 hR hO2 hall
            have k27 : s2.2.2 27 f = (fbL F f).length := by rw [(hO2.1 27 (by decide)).2]; exact hfb1.2.1
            have k28 : ∀ j, j < (fbL F f).length → s2.2.2 28 (4 * f + j) = (fbL F f).getD j 0 := fun j hj => by rw [(hO2.1 28 (by decide)).2]; exact hfb1.2.2 j hj
            refine z_iload 33 rfl rfl rfl ?_
            refine z_zeq 36 rfl rfl (by omega) (fun h9 => absurd h9 (by omega)) (fun _ => ?_)
            refine z_iload 38 rfl rfl rfl ?_
            refine z_aload 39 rfl rfl rfl ?_
            refine y_ga 42 hR rfl rfl rfl ?_
            refine z_iload 43 rfl rfl rfl ?_
            refine y_al (f := 27) 44 _ hR rfl rfl rfl rfl (by omega) (by repeat (first | with_reducible exact k27 | with_reducible exact k28 k (by omega) | with_reducible exact gA_eq _ _ _ _ | (with_reducible apply gA_ne; decide) | with_reducible apply gA_I | with_reducible apply gA_O | (with_reducible apply gA_nj; omega) | with_reducible rfl)) ?_
            refine z_nge 47 rfl rfl (by omega) (by omega) (fun hc44 => ?_) (fun hc44 => ?_)
            · refine z_iload 73 rfl rfl rfl ?_
              refine z_iretb rfl (Nat.le_refl _) (Nat.le_refl _) (by first | decide | exact bI_01 _) ?_
              have e9 : flS F K E (n + 1) pt = true := by
                rw [flS, hfn, hfb]
                exact all_t (fun j hj => hall j (by omega))
              rw [e9] at q
              exact q h s2 hR hO2
            · refine z_aload 48 rfl rfl rfl ?_
              refine z_iload 49 rfl rfl rfl ?_
              refine z_aload 50 rfl rfl rfl ?_
              refine y_ga 53 hR rfl rfl rfl ?_
              refine z_push 54 (nI 4) rfl rfl rfl ?_
              refine z_iload 55 rfl rfl rfl ?_
              refine z_bop 56 _ rfl rfl (by first | with_reducible exact zb_2 _ _ | exact zd_2 _ _) ?_
              refine z_iload 58 rfl rfl rfl ?_
              refine z_bop 59 _ rfl rfl (by first | with_reducible exact zb_0 _ _ | exact zd_0 _ _) ?_
              refine y_al (f := 28) 60 _ hR rfl rfl rfl rfl (by omega) (by repeat (first | with_reducible exact k27 | with_reducible exact k28 k (by omega) | with_reducible exact gA_eq _ _ _ _ | (with_reducible apply gA_ne; decide) | with_reducible apply gA_I | with_reducible apply gA_O | (with_reducible apply gA_nj; omega) | with_reducible rfl)) ?_
              refine z_cv2 63 rfl rfl hR.1 rfl (Nat.le_refl _) (Nat.le_refl _) ?_
              have hin := getD_in (l := fbL F f) (k := k) (by omega)
              refine IH (by omega) (d := d) hR (by rw [(hO2.1 1 (by decide)).2]; exact hk) (hO2.tb (by decide) hT) (hFB.k (hO2.keep (by decide))) (nPt_lt (hfw.2.2.2 _ hin)) (hFd f hfb _ hin) (fun h s3 hR hO3 => ?_)
              rcases hfx : flS F K E n ((fbL F f).getD k 0) with _ | _
              · rw [show bI false = nI 0 from rfl]
                refine z_istore 65 rfl rfl rfl rfl ?_
                refine z_iinc 68 _ rfl rfl rfl rfl (by first | with_reducible exact zi_1 _ | rfl) ?_
                refine z_goto rfl ?_
                refine z_iload 33 rfl rfl rfl ?_
                refine z_zeq 36 rfl rfl (by omega) (fun _ => ?_) (fun h9 => absurd h9 (by omega))
                refine z_iload 73 rfl rfl rfl ?_
                refine z_iretb rfl (Nat.le_refl _) (Nat.le_refl _) (by first | decide | exact bI_01 _) ?_
                have e9 : flS F K E (n + 1) pt = false := by
                  rw [flS, hfn, hfb]
                  exact all_f (by omega) hfx
                rw [e9] at q
                exact q h s3 hR (hO2.trans hO3)
              · rw [show bI true = nI 1 from rfl]
                refine z_istore 65 rfl rfl rfl rfl ?_
                refine z_iinc 68 _ rfl rfl rfl rfl (by first | with_reducible exact zi_1 _ | rfl) ?_
                refine z_goto rfl ?_
                exact ih (k + 1) s3 h (by omega) (by omega) hR (hO2.trans hO3) (lt_s9 hall hfx)
        refine z_istore 17 rfl rfl rfl rfl ?_
        refine z_iload 18 rfl rfl rfl ?_
        refine z_zlt 21 rfl rfl (by omega) (fun h9 => absurd h9 (by omega)) (fun _ => ?_)
        refine z_push 22 (nI 1) rfl rfl rfl ?_
        refine z_goto rfl ?_
        refine z_istore 28 rfl rfl rfl rfl ?_
        refine z_push 29 (nI 0) rfl rfl rfl ?_
        refine z_istore 31 rfl rfl rfl rfl ?_
        exact loop ((fbL F f).length + 1) 0 s1 h (by omega) (by omega) hR hO (fun j hj => absurd hj (by omega))
    · simp only [Option.isSome]
      refine z_beq 9 rfl rfl (fun h9 => absurd h9 (by decide)) (fun _ => ?_)
      refine z_push 10 (nI 1) rfl rfl rfl ?_
      refine z_iretb rfl (Nat.le_refl _) (Nat.le_refl _) (by first | decide | exact bI_01 _) ?_
      have e9 : flS F K E (n + 1) pt = true := by rw [flS, hfn]; rfl
      rw [e9] at q
      exact q h s1 hR hO
theorem r_falls2 {r p K n D pt : Nat} {h h0 : mH} {s : rS} {E : List En} {H : List Sh} {F : List Fb} {Q : mP} (hp11 : p < 11) (hK : K < 4) (hW : TbW E H) (hFW : FbW F) (hn : n ≤ 40) (hD : n + 3 ≤ D) (hR : Rf r h0 s h) (hk : s.2.2 1 p = K) (hT : TbR s p E H) (hFB : RFb s F) (hpt : pt < 1114112) (hFd : Fdp F n pt) (q : ∀ h' s', Rf r h0 s' h' → On [31, 32, 33] s s' → Q (some (.int (bI (flS F K E n pt)))) h') : mWP D 223 [.ref r, .int (nI p), .int (nI pt)] h Q := by
  obtain ⟨d, rfl⟩ : ∃ d, D = d + n + 3 := ⟨D - n - 3, by omega⟩
  exact r_falls hp11 hK hW hFW n hn hR hk hT hFB hpt hFd q
set_option maxRecDepth 100000 in
theorem r_fall {r p K o kk nn m : Nat} {c : Bool} {h0 : mH} {E : List En} {H : List Sh} {F : List Fb} (hp11 : p < 11) (hK : K < 4) (hW : TbW E H) (hG : Gd K E H) (hFW : FbW F) (hA : wO o kk nn m c) : ∀ (n : Nat), n ≤ 40 → ∀ {d pt st : Nat} {l0 : List Nat} {h : mH} {s : rS} {Q : mP}, Rf r h0 s h → s.2.2 1 p = K → TbR s p E H → RFb s F → pt < 1114112 → Fdp F n pt → flS F K E n pt = true → SOk K H st → s.1 34 = st → WOut s o c m l0 → wQ (wL o) r h0 s o c m l0 (fa F K E H n pt st).1 (fa F K E H n pt st).2 Q → mWP (d + n + 12) 224 [.ref r, .int (nI p), .int (nI pt)] h Q := by
  intro n
  induction n with
  | zero =>
    intro hn d pt st l0 h s Q hR hk hT hFB hpt hFd hfls hs h34 hw q
    refine z_in [some (.ref r), some (.int (nI p)), some (.int (nI pt)), none, none, none] (by rfl) rfl rfl rfl ?_
    refine z_aload 1 rfl rfl rfl ?_
    refine z_iload 2 rfl rfl rfl ?_
    refine z_iload 3 rfl rfl rfl ?_
    refine z_cv2 6 rfl rfl hR.1 rfl (Nat.le_refl _) (Nat.le_refl _) ?_
    refine r_find hR hp11 hk hK hT hW hpt (fun h s1 hR hO hF1 => ?_)
    rcases hfn : fnd K E pt with _ | ⟨ts, nn9, vv⟩
    · simp only [Option.isSome]
      refine z_beq 9 rfl rfl (fun _ => ?_) (fun h9 => absurd h9 (by decide))
      exfalso
      rw [flS, hfn] at hfls
      cases hfls
    · simp only [Option.isSome]
      refine z_beq 9 rfl rfl (fun h9 => absurd h9 (by decide)) (fun _ => ?_)
      refine z_aload 10 rfl rfl rfl ?_
      refine z_iload 11 rfl rfl rfl ?_
      refine z_cv1 14 rfl rfl hR.1 rfl (Nat.le_refl _) (Nat.le_refl _) ?_
      obtain ⟨hb1, hb2, hb3, hb4, hb5, hb6, hb7⟩ := fnd_b hW hpt hfn
      obtain ⟨g31, gX⟩ := hF1 ts nn9 vv hfn
      have hw1 : WOut s1 o c m l0 := hw.on (kk := kk) (nn := nn) hO (by decide) (by decide) (by decide) hA.n4.2
      refine r_putPoint hR (by rw [(hO.1 1 (by decide)).2]; exact hk) hK (hO.tb (by decide) hT) hW hs.1 ((hO.1 34 (by decide)).1.trans h34) hA hw1 hb1 hb3 g31 gX (pb_ok hG hs hfn).1 ?_
      have e9 : fa F K E H 0 pt st = pbW K H st ts nn9 vv := by rw [fa, hfn]
      rw [e9] at q
      have hOw := hO.mono (show ∀ x, x ∈ [31, 32, 33] → x ∈ wL o from by simp [wL])
      refine ⟨fun hle h s2 hR hO2 hw2 g34 => ?_, fun hlt h s2 hR hO2 => ?_⟩
      · 
        refine z_ireti rfl (Nat.le_refl _) (Nat.le_refl _) ?_
        exact q.1 hle h s2 hR (hOw.trans hO2) hw2 g34
      · 
        refine z_ireti rfl (Nat.le_refl _) (Nat.le_refl _) ?_
        exact q.2 hlt h s2 hR (hOw.trans hO2)
  | succ n IH =>
    intro hn d pt st l0 h s Q hR hk hT hFB hpt hFd hfls hs h34 hw q
    refine z_in [some (.ref r), some (.int (nI p)), some (.int (nI pt)), none, none, none] (by rfl) rfl rfl rfl ?_
    refine z_aload 1 rfl rfl rfl ?_
    refine z_iload 2 rfl rfl rfl ?_
    refine z_iload 3 rfl rfl rfl ?_
    refine z_cv2 6 rfl rfl hR.1 rfl (Nat.le_refl _) (Nat.le_refl _) ?_
    refine r_find hR hp11 hk hK hT hW hpt (fun h s1 hR hO hF1 => ?_)
    rcases hfn : fnd K E pt with _ | ⟨ts, nn9, vv⟩
    · simp only [Option.isSome]
      refine z_beq 9 rfl rfl (fun _ => ?_) (fun h9 => absurd h9 (by decide))
      refine z_aload 16 rfl rfl rfl ?_
      refine z_iload 17 rfl rfl rfl ?_
      refine z_cv1 20 rfl rfl hR.1 rfl (Nat.le_refl _) (Nat.le_refl _) ?_
      refine r_fallbackOf hR (hFB.k (hO.keep (by decide))) hFW (by omega) ?_
      rcases hfb : fbI F pt with _ | f
      · exfalso
        rw [flS, hfn, hfb] at hfls
        cases hfls
      simp only [oI]
      have hfl := fbI_b hfb
      have hfb1 := (hFB.2.2 f hfl)
      have hfw := hFW f hfl
      have hl40 := hFB.2.1
      have hfa : fa F K E H (n + 1) pt st = faX (fa F K E H n) (fbL F f) (fbL F f).length 0 st := by rw [fa, hfn, hfb]
      have hal : ∀ x, x ∈ fbL F f → flS F K E n x = true := by
        rw [flS, hfn, hfb] at hfls
        exact List.all_eq_true.mp hfls
      have loop : ∀ m9 k l1 st1 s2 h, (fbL F f).length < k + m9 → k ≤ (fbL F f).length → Rf r h0 s2 h → On (wL o) s s2 → WOut s2 o c m l1 → s2.1 34 = st1 → SOk K H st1 → (l1.length + (faX (fa F K E H n) (fbL F f) ((fbL F f).length - k) k st1).1.length ≤ m → ∀ h' s', Rf r h0 s' h' → On (wL o) s s' → WOut s' o c m (l1 ++ (faX (fa F K E H n) (fbL F f) ((fbL F f).length - k) k st1).1) → s'.1 34 = (faX (fa F K E H n) (fbL F f) ((fbL F f).length - k) k st1).2 → Q (some (.int (nI 0))) h') ∧ (m < l1.length + (faX (fa F K E H n) (fbL F f) ((fbL F f).length - k) k st1).1.length → ∀ h' s', Rf r h0 s' h' → On (wL o) s s' → Q (some (.int (-6))) h') → mZ (d + (n + 1) + 11) tk_224 0 0 Q 27 [some (.ref r), some (.int (nI p)), some (.int (nI pt)), some (.int (nI f)), some (.int (nI 0)), some (.int (nI k))] [] h 0 0 := by
        intro m9
        induction m9 with
        | zero => intro k l1 st1 s2 h h1 h2; omega
        | succ m9 ih =>
          intro k l1 st1 s2 h h1 h2 hR hO2 hw2 g34 hs1 qq
          have k27 : s2.2.2 27 f = (fbL F f).length := by rw [((hO2.keep hA.ne.2.2) 27 rfl).2]; exact hfb1.2.1
          have k28 : ∀ j, j < (fbL F f).length → s2.2.2 28 (4 * f + j) = (fbL F f).getD j 0 := fun j hj => by rw [((hO2.keep hA.ne.2.2) 28 rfl).2]; exact hfb1.2.2 j hj
          refine z_iload 29 rfl rfl rfl ?_
          refine z_aload 30 rfl rfl rfl ?_
          refine y_ga 33 hR rfl rfl rfl ?_
          refine z_iload 34 rfl rfl rfl ?_
          refine y_al (f := 27) 35 _ hR rfl rfl rfl rfl (by omega) (by repeat (first | with_reducible exact k27 | with_reducible exact k27b | with_reducible exact k28 k (by omega) | with_reducible exact gA_eq _ _ _ _ | (with_reducible apply gA_ne; decide) | with_reducible apply gA_I | with_reducible apply gA_O | (with_reducible apply gA_nj; omega) | with_reducible rfl)) ?_
          refine z_nge 38 rfl rfl (by omega) (by omega) (fun hc35 => ?_) (fun hc35 => ?_)
          · refine z_iload 69 rfl rfl rfl ?_
            refine z_ireti rfl (Nat.le_refl _) (Nat.le_refl _) ?_
            have q1 := qq.1
            rw [show (fbL F f).length - k = 0 by omega] at q1
            exact q1 (by have := hw2.2.2.2.2.1; simpa [faX] using this) h s2 hR hO2 (by rw [faX, List.append_nil]; exact hw2) g34
          · refine z_iload 40 rfl rfl rfl ?_
            refine z_zne 43 rfl rfl (by omega) (fun h9 => absurd h9 (by omega)) (fun _ => ?_)
            refine z_aload 44 rfl rfl rfl ?_
            refine z_iload 45 rfl rfl rfl ?_
            refine z_aload 46 rfl rfl rfl ?_
            refine y_ga 49 hR rfl rfl rfl ?_
            refine z_push 50 (nI 4) rfl rfl rfl ?_
            refine z_iload 51 rfl rfl rfl ?_
            refine z_bop 52 _ rfl rfl (by first | with_reducible exact zb_2 _ _ | exact zd_2 _ _) ?_
            refine z_iload 54 rfl rfl rfl ?_
            refine z_bop 55 _ rfl rfl (by first | with_reducible exact zb_0 _ _ | exact zd_0 _ _) ?_
            refine y_al (f := 28) 56 _ hR rfl rfl rfl rfl (by omega) (by repeat (first | with_reducible exact k27 | with_reducible exact k27b | with_reducible exact k28 k (by omega) | with_reducible exact gA_eq _ _ _ _ | (with_reducible apply gA_ne; decide) | with_reducible apply gA_I | with_reducible apply gA_O | (with_reducible apply gA_nj; omega) | with_reducible rfl)) ?_
            refine z_cv2 59 rfl rfl hR.1 rfl (Nat.le_refl _) (Nat.le_refl _) ?_
            have hin := getD_in (l := fbL F f) (k := k) (by omega)
            rw [faX_s (by omega)] at qq
            refine IH (by omega) (d := d) hR (by rw [((hO2.keep hA.ne.2.2) 1 rfl).2]; exact hk) (hT.k (hO2.keep hA.ne.2.2)) (hFB.k (hO2.keep hA.ne.2.2)) (nPt_lt (hfw.2.2.2 _ hin)) (hFd f hfb _ hin) (hal _ hin) hs1 g34 hw2 ⟨fun hle h s3 hR hO3 hw3 g34b => ?_, fun hlt h s3 hR hO3 => ?_⟩
            · refine z_istore 61 rfl rfl rfl rfl ?_
              refine z_iinc 64 _ rfl rfl rfl rfl (by first | with_reducible exact zi_1 _ | rfl) ?_
              refine z_goto rfl ?_
              refine ih (k + 1) _ _ s3 h (by omega) (by omega) hR (hO2.trans hO3) hw3 g34b (fa_ok hG _ _ _ hs1) ?_
              have q1 := qq.1
              have q2 := qq.2
              rw [List.length_append] at q1 q2
              rw [List.length_append, List.append_assoc]
              exact ⟨fun h9 => q1 (by omega), fun h9 => q2 (by omega)⟩
            · have k27b : s3.2.2 27 f = (fbL F f).length := by rw [(((hO2.trans hO3).keep hA.ne.2.2) 27 rfl).2]; exact hfb1.2.1
              refine z_istore 61 rfl rfl rfl rfl ?_
              refine z_iinc 64 _ rfl rfl rfl rfl (by first | with_reducible exact zi_1 _ | rfl) ?_
              refine z_goto rfl ?_
              refine z_iload 29 rfl rfl rfl ?_
              refine z_aload 30 rfl rfl rfl ?_
              refine y_ga 33 hR rfl rfl rfl ?_
              refine z_iload 34 rfl rfl rfl ?_
              refine y_al (f := 27) 35 _ hR rfl rfl rfl rfl (by omega) (by repeat (first | with_reducible exact k27 | with_reducible exact k27b | with_reducible exact k28 k (by omega) | with_reducible exact gA_eq _ _ _ _ | (with_reducible apply gA_ne; decide) | with_reducible apply gA_I | with_reducible apply gA_O | (with_reducible apply gA_nj; omega) | with_reducible rfl)) ?_
              refine z_nge 38 rfl rfl (by omega) (by omega) (fun hc35 => ?_) (fun hc35 => ?_)
              · refine z_iload 69 rfl rfl rfl ?_
                refine z_ireti rfl (Nat.le_refl _) (Nat.le_refl _) ?_
                have q2 := qq.2
                rw [List.length_append] at q2
                exact q2 (by omega) h s3 hR (hO2.trans hO3)
              · refine z_iload 40 rfl rfl rfl ?_
                refine z_jne 43 rfl rfl (fun _ => ?_) (fun h9 => absurd h9 (by decide))
                refine z_iload 69 rfl rfl rfl ?_
                refine z_ireti rfl (Nat.le_refl _) (Nat.le_refl _) ?_
                have q2 := qq.2
                rw [List.length_append] at q2
                exact q2 (by omega) h s3 hR (hO2.trans hO3)
      have hOw := hO.mono (show ∀ x, x ∈ [31, 32, 33] → x ∈ wL o from by simp [wL])
      have hw1 : WOut s1 o c m l0 := hw.on (kk := kk) (nn := nn) hO (by decide) (by decide) (by decide) hA.n4.2
      rw [hfa] at q
      refine z_istore 21 rfl rfl rfl rfl ?_
      refine z_push 22 (nI 0) rfl rfl rfl ?_
      refine z_istore 24 rfl rfl rfl rfl ?_
      refine z_push 25 (nI 0) rfl rfl rfl ?_
      refine z_istore 27 rfl rfl rfl rfl ?_
      exact loop ((fbL F f).length + 1) 0 l0 st s1 h (by omega) (by omega) hR hOw hw1 ((hO.1 34 (by decide)).1.trans h34) hs ⟨q.1, q.2⟩
    · simp only [Option.isSome]
      refine z_beq 9 rfl rfl (fun h9 => absurd h9 (by decide)) (fun _ => ?_)
      refine z_aload 10 rfl rfl rfl ?_
      refine z_iload 11 rfl rfl rfl ?_
      refine z_cv1 14 rfl rfl hR.1 rfl (Nat.le_refl _) (Nat.le_refl _) ?_
      obtain ⟨hb1, hb2, hb3, hb4, hb5, hb6, hb7⟩ := fnd_b hW hpt hfn
      obtain ⟨g31, gX⟩ := hF1 ts nn9 vv hfn
      have hw1 : WOut s1 o c m l0 := hw.on (kk := kk) (nn := nn) hO (by decide) (by decide) (by decide) hA.n4.2
      refine r_putPoint hR (by rw [(hO.1 1 (by decide)).2]; exact hk) hK (hO.tb (by decide) hT) hW hs.1 ((hO.1 34 (by decide)).1.trans h34) hA hw1 hb1 hb3 g31 gX (pb_ok hG hs hfn).1 ?_
      have e9 : fa F K E H (n + 1) pt st = pbW K H st ts nn9 vv := by rw [fa, hfn]
      rw [e9] at q
      have hOw := hO.mono (show ∀ x, x ∈ [31, 32, 33] → x ∈ wL o from by simp [wL])
      refine ⟨fun hle h s2 hR hO2 hw2 g34 => ?_, fun hlt h s2 hR hO2 => ?_⟩
      · 
        refine z_ireti rfl (Nat.le_refl _) (Nat.le_refl _) ?_
        exact q.1 hle h s2 hR (hOw.trans hO2) hw2 g34
      · 
        refine z_ireti rfl (Nat.le_refl _) (Nat.le_refl _) ?_
        exact q.2 hlt h s2 hR (hOw.trans hO2)
theorem r_fall2 {r p K o kk nn m n D pt st : Nat} {c : Bool} {l0 : List Nat} {h h0 : mH} {s : rS} {E : List En} {H : List Sh} {F : List Fb} {Q : mP} (hp11 : p < 11) (hK : K < 4) (hW : TbW E H) (hG : Gd K E H) (hFW : FbW F) (hA : wO o kk nn m c) (hn : n ≤ 40) (hD : n + 12 ≤ D) (hR : Rf r h0 s h) (hk : s.2.2 1 p = K) (hT : TbR s p E H) (hFB : RFb s F) (hpt : pt < 1114112) (hFd : Fdp F n pt) (hfls : flS F K E n pt = true) (hs : SOk K H st) (h34 : s.1 34 = st) (hw : WOut s o c m l0) (q : wQ (wL o) r h0 s o c m l0 (fa F K E H n pt st).1 (fa F K E H n pt st).2 Q) : mWP D 224 [.ref r, .int (nI p), .int (nI pt)] h Q := by
  obtain ⟨d, rfl⟩ : ∃ d, D = d + n + 12 := ⟨D - n - 12, by omega⟩
  exact r_fall hp11 hK hW hG hFW hA n hn hR hk hT hFB hpt hFd hfls hs h34 hw q
