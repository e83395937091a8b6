/-! the class: pages made -/
theorem pg_app {l : List Pg} {j : Nat} {x : Pg} : (j < l.length → pgK (l ++ [x]) j = pgK l j ∧ pgC (l ++ [x]) j = pgC l j ∧ pgE (l ++ [x]) j = pgE l j ∧ pgH (l ++ [x]) j = pgH l j) ∧ (j = l.length → pgK (l ++ [x]) j = x.1 ∧ pgC (l ++ [x]) j = x.2.1 ∧ pgE (l ++ [x]) j = x.2.2.1 ∧ pgH (l ++ [x]) j = x.2.2.2) := by
  unfold pgK pgC pgE pgH
  rw [getD_app9]
  constructor
  · intro h; rw [if_pos h]; exact ⟨rfl, rfl, rfl, rfl⟩
  · intro h; rw [if_neg (by omega), if_pos h]; exact ⟨rfl, rfl, rfl, rfl⟩
def padX (n b : Nat) (pad : Nat → Nat) : Nat → Nat := fun j => if j = n then b else pad j
theorem CI.al {h h' : mH} {A : Ab} {pad : Nat → Nat} {sp : Option Nat} {res wrk : Nat} (a : CI h A pad sp res wrk) (f : ∀ x, x < h.1 → h'.2 x = h.2 x) (hs : h.1 ≤ h'.1) (h143 : 143 ≤ h.1) : CI h' A pad sp res wrk := by
  obtain ⟨c1, cr, cp, cb, cu, cq, cs, ck, cru, cm⟩ := a
  exact ⟨(f _ (by omega)).trans c1, cr, cp.e (f _ (by omega)) (fun x x1 x2 => f x x2) hs, cb.e (fun x x1 x2 => f x (by omega)), cu.e (fun x x1 x2 => f x (by omega)), cq.e (fun x x1 x2 => f x (by omega)), cs.e (fun x x1 x2 => f x (by omega)) (fun x x1 x2 => f x (by omega)) (fun x x1 x2 => f x (by omega)) (f _ (by omega)), ck.e (f _ (by omega)), cru.e (fun x x1 x2 => f x (by omega)), cm.e (f _ (by omega)) (fun x x1 x2 => f x (by omega))⟩
theorem CI.add {h h' : mH} {A : Ab} {pad : Nat → Nat} {sp : Option Nat} {res wrk b K : Nat} {c : Bool} {E : List En} {H : List Sh} {pf : Nat → Option Nat} (a : CI h A pad sp res wrk) (hl : A.pgs.length < 10) (hR : PgR h b K c E H) (hb : 143 ≤ b) (hb2 : b + 20 ≤ h.1) (hd : ∀ j, j < A.pgs.length → apD (pad j) b) (hsp : ∀ s, sp = some s → apD b s) (hM : ∀ D m, A.mcs D = some m → m.1 < A.pgs.length) (e1 : h'.2 1 = oX (A.pgs.length + 1) sp res A.res.1 wrk A.plc A.fnd) (e2 : h'.2 2 = .inr (.inl (2, 10, pf))) (e3 : ∀ j, j < A.pgs.length → pf j = some (pad j)) (e4 : pf A.pgs.length = some b) (f : ∀ x, 3 ≤ x → h'.2 x = h.2 x) (hz : h'.1 = h.1) : CI h' (A.wPgs (A.pgs ++ [(K, c, E, H)])) (padX A.pgs.length b pad) sp res wrk := by
  obtain ⟨c1, cr, cp, cb, cu, cq, cs, ck, cru, cm⟩ := a
  obtain ⟨cp0, _, cp3, cp4, cp5⟩ := cp
  have hlen : (A.pgs ++ [(K, c, E, H)]).length = A.pgs.length + 1 := by rw [List.length_append]; rfl
  have hpx : ∀ j, j < A.pgs.length → padX A.pgs.length b pad j = pad j := fun j hj => if_neg (by omega)
  have hpn : padX A.pgs.length b pad A.pgs.length = b := if_pos rfl
  refine ⟨?_, cr, ⟨?_, ⟨pf, e2, fun j hj => ?_⟩, fun j hj => ?_, fun i j hi hj hij => ?_, fun s hs => ?_⟩, cb.e (fun x x1 x2 => f x (by omega)), cu.e (fun x x1 x2 => f x (by omega)), cq.e (fun x x1 x2 => f x (by omega)), cs.e (fun x x1 x2 => f x (by omega)) (fun x x1 x2 => f x (by omega)) (fun x x1 x2 => f x (by omega)) (f _ (by omega)), ck.e (f _ (by omega)), cru.e (fun x x1 x2 => f x (by omega)), (cm.e (f _ (by omega)) (fun x x1 x2 => f x (by omega))).pg (fun D m hD hm => ?_)⟩
  · show h'.2 1 = oX (A.pgs ++ [(K, c, E, H)]).length sp res A.res.1 wrk A.plc A.fnd
    rw [hlen]; exact e1
  · show (A.pgs ++ [(K, c, E, H)]).length ≤ 10
    omega
  · replace hj : j < (A.pgs ++ [(K, c, E, H)]).length := hj
    rcases (show j < A.pgs.length ∨ j = A.pgs.length by omega) with h9 | h9
    · rw [hpx j h9]; exact e3 j h9
    · subst h9; rw [hpn]; exact e4
  · replace hj : j < (A.pgs ++ [(K, c, E, H)]).length := hj
    show 143 ≤ _ ∧ _ ≤ _ ∧ PgR h' _ (pgK (A.pgs ++ [(K, c, E, H)]) j) (pgC (A.pgs ++ [(K, c, E, H)]) j) (pgE (A.pgs ++ [(K, c, E, H)]) j) (pgH (A.pgs ++ [(K, c, E, H)]) j)
    rcases (show j < A.pgs.length ∨ j = A.pgs.length by omega) with h9 | h9
    · obtain ⟨g1, g2, g3, g4⟩ := (pg_app (x := (K, c, E, H))).1 h9
      rw [hpx j h9, g1, g2, g3, g4]
      obtain ⟨b1, b2, b3⟩ := cp3 j h9
      exact ⟨b1, by omega, b3.e (fun x x1 x2 => f x (by omega))⟩
    · obtain ⟨g1, g2, g3, g4⟩ := (pg_app (x := (K, c, E, H))).2 h9
      subst h9
      rw [hpn, g1, g2, g3, g4]
      exact ⟨hb, by omega, hR.e (fun x x1 x2 => f x (by omega))⟩
  · replace hi : i < (A.pgs ++ [(K, c, E, H)]).length := hi
    replace hj : j < (A.pgs ++ [(K, c, E, H)]).length := hj
    rcases (show i < A.pgs.length ∨ i = A.pgs.length by omega) with h8 | h8
    · rcases (show j < A.pgs.length ∨ j = A.pgs.length by omega) with h9 | h9
      · rw [hpx i h8, hpx j h9]; exact cp4 i j h8 h9 hij
      · subst h9; rw [hpx i h8, hpn]; exact hd i h8
    · subst h8
      rcases (show j < A.pgs.length ∨ j = A.pgs.length by omega) with h9 | h9
      · rw [hpx j h9, hpn]; exact (hd j h9).symm
      · exact absurd h9.symm hij
  · obtain ⟨b1, b2, ⟨E2, H2, b3⟩, b4⟩ := cp5 s hs
    refine ⟨b1, by omega, ⟨E2, H2, b3.e (fun x x1 x2 => f x (by omega))⟩, fun j hj => ?_⟩
    replace hj : j < (A.pgs ++ [(K, c, E, H)]).length := hj
    rcases (show j < A.pgs.length ∨ j = A.pgs.length by omega) with h9 | h9
    · rw [hpx j h9]; exact b4 j h9
    · subst h9; rw [hpn]; exact hsp s hs
  · have h9 := hM D m hm
    exact ⟨((pg_app (x := (K, c, E, H))).1 h9).1, hpx _ h9⟩
theorem CI.spr {h h' : mH} {A : Ab} {pad : Nat → Nat} {res wrk s : Nat} {E : List En} {H : List Sh} {g : Nat → Int32} (a : CI h A pad (some s) res wrk) (hP : PgO h' s E H) (h15 : h'.2 15 = aI 3 g) (f : ∀ x, (x < s ∨ s + 20 ≤ x) → x ≠ 15 → h'.2 x = h.2 x) (hz : h'.1 = h.1) : CI h' A pad (some s) res wrk := by
  obtain ⟨c1, cr, cp, cb, cu, cq, cs, ck, cru, cm⟩ := a
  obtain ⟨cp0, ⟨pf, cp1, cp2⟩, cp3, cp4, cp5⟩ := cp
  obtain ⟨b1, b2, _, b4⟩ := cp5 s rfl
  obtain ⟨⟨lw, s1⟩, ⟨lb, s2⟩, ⟨_, _, _, _, _, s3⟩, ⟨_, _, _, _, _, s4⟩, _, s5⟩ := cs
  refine ⟨(f _ (by omega) (by omega)).trans c1, cr, ⟨cp0, ⟨pf, (f _ (by omega) (by omega)).trans cp1, cp2⟩, fun j hj => ?_, cp4, fun s9 hs9 => ?_⟩, cb.e (fun x x1 x2 => f x (by omega) (by omega)), cu.e (fun x x1 x2 => f x (by omega) (by omega)), cq.e (fun x x1 x2 => f x (by omega) (by omega)), ⟨⟨lw, s1.e (fun x x1 x2 => f x (by omega) (by omega))⟩, ⟨lb, s2.e (fun x x1 x2 => f x (by omega) (by omega))⟩, ⟨_, _, _, _, _, s3.e (fun x x1 x2 => f x (by omega) (by omega))⟩, ⟨_, _, _, _, _, s4.e (fun x x1 x2 => f x (by omega) (by omega))⟩, _, h15⟩, ck.e (f _ (by omega) (by omega)), cru.e (fun x x1 x2 => f x (by omega) (by omega)), cm.e (f _ (by omega) (by omega)) (fun x x1 x2 => f x (by omega) (by omega))⟩
  · obtain ⟨d1, d2, d3⟩ := cp3 j hj
    have h9 : apD (pad j) s := b4 j hj
    unfold apD at h9
    exact ⟨d1, by omega, d3.e (fun x x1 x2 => f x (by omega) (by omega))⟩
  · cases hs9
    exact ⟨b1, by omega, ⟨E, H, hP⟩, b4⟩
theorem CI.nos {h h' : mH} {A : Ab} {pad : Nat → Nat} {res wrk s : Nat} (a : CI h A pad (some s) res wrk) (e1 : h'.2 1 = oX A.pgs.length none res A.res.1 wrk A.plc A.fnd) (f : ∀ x, (x < s ∨ s + 20 ≤ x) → x ≠ 1 → h'.2 x = h.2 x) (hz : h'.1 = h.1) : CI h' A pad none res wrk := by
  obtain ⟨c1, cr, cp, cb, cu, cq, cs, ck, cru, cm⟩ := a
  obtain ⟨cp0, ⟨pf, cp1, cp2⟩, cp3, cp4, cp5⟩ := cp
  obtain ⟨b1, b2, _, b4⟩ := cp5 s rfl
  refine ⟨e1, cr, ⟨cp0, ⟨pf, (f _ (by omega) (by omega)).trans cp1, cp2⟩, fun j hj => ?_, cp4, fun s9 hs9 => by cases hs9⟩, cb.e (fun x x1 x2 => f x (by omega) (by omega)), cu.e (fun x x1 x2 => f x (by omega) (by omega)), cq.e (fun x x1 x2 => f x (by omega) (by omega)), cs.e (fun x x1 x2 => f x (by omega) (by omega)) (fun x x1 x2 => f x (by omega) (by omega)) (fun x x1 x2 => f x (by omega) (by omega)) (f _ (by omega) (by omega)), ck.e (f _ (by omega) (by omega)), cru.e (fun x x1 x2 => f x (by omega) (by omega)), cm.e (f _ (by omega) (by omega)) (fun x x1 x2 => f x (by omega) (by omega))⟩
  obtain ⟨d1, d2, d3⟩ := cp3 j hj
  have h9 : apD (pad j) s := b4 j hj
  unfold apD at h9
  exact ⟨d1, by omega, d3.e (fun x x1 x2 => f x (by omega) (by omega))⟩
/-- a spare page is there -/
theorem CI.mk {h h' : mH} {A : Ab} {pad : Nat → Nat} {res wrk s : Nat} {E : List En} {H : List Sh} (a : CI h A pad none res wrk) (hP : PgO h' s E H) (e1 : h'.2 1 = oX A.pgs.length (some s) res A.res.1 wrk A.plc A.fnd) (hs : s = h.1) (h143 : 143 ≤ h.1) (f : ∀ x, x < h.1 → x ≠ 1 → h'.2 x = h.2 x) (hz : h'.1 = s + 20) : CI h' A pad (some s) res wrk := by
  obtain ⟨c1, cr, cp, cb, cu, cq, cs, ck, cru, cm⟩ := a
  obtain ⟨cp0, ⟨pf, cp1, cp2⟩, cp3, cp4, cp5⟩ := cp
  refine ⟨e1, cr, ⟨cp0, ⟨pf, (f _ (by omega) (by omega)).trans cp1, cp2⟩, fun j hj => ?_, cp4, fun s9 hs9 => ?_⟩, cb.e (fun x x1 x2 => f x (by omega) (by omega)), cu.e (fun x x1 x2 => f x (by omega) (by omega)), cq.e (fun x x1 x2 => f x (by omega) (by omega)), cs.e (fun x x1 x2 => f x (by omega) (by omega)) (fun x x1 x2 => f x (by omega) (by omega)) (fun x x1 x2 => f x (by omega) (by omega)) (f _ (by omega) (by omega)), ck.e (f _ (by omega) (by omega)), cru.e (fun x x1 x2 => f x (by omega) (by omega)), cm.e (f _ (by omega) (by omega)) (fun x x1 x2 => f x (by omega) (by omega))⟩
  · obtain ⟨d1, d2, d3⟩ := cp3 j hj
    exact ⟨d1, by omega, d3.e (fun x x1 x2 => f x (by omega) (by omega))⟩
  · cases hs9
    refine ⟨by omega, by omega, ⟨E, H, hP⟩, fun j hj => ?_⟩
    have := (cp3 j hj).2.1
    exact Or.inl (by omega)
set_option maxRecDepth 100000 in
theorem c_addPage {d : Nat} {h : mH} {A : Ab} {pad : Nat → Nat} {sp : Option Nat} {res wrk : Nat} {b K : Nat} {c : Bool} {E : List En} {H : List Sh} {Q : mP} (hC : CI h A pad sp res wrk) (hl : A.pgs.length < 10) (hR : PgR h b K c E H) (hb : 143 ≤ b) (hb2 : b + 20 ≤ h.1) (hd : ∀ j, j < A.pgs.length → apD (pad j) b) (hsp : ∀ s, sp = some s → apD b s) (hM : ∀ D m, A.mcs D = some m → m.1 < A.pgs.length)  (q : ∀ h', CI h' (A.wPgs (A.pgs ++ [(K, c, E, H)])) (padX A.pgs.length b pad) sp res wrk → Fr 1 3 h h' → Q (some (.int (nI A.pgs.length))) h') : mWP (d + 1) 153 [.ref 1, .ref b] h Q := by
  obtain ⟨c1, cr, cp, cb, cu, cq, cs, ck, cru, cm⟩ := id hC
  obtain ⟨cp0, ⟨pf, cp1, cp2⟩, cp3, cp4, cp5⟩ := id cp
  obtain ⟨m9, rc9, hpg⟩ := hR.hd
  refine z_in [some (.ref 1), some (.ref b), none] (by rfl) rfl rfl rfl ?_
  refine z_aload 1 rfl rfl rfl ?_
  refine z_get 4 rfl rfl (by repeat (first | exact c1 | exact cp1 | exact hpg | exact mg_eq _ _ _ | refine mg_ne (by omega) ?_)) rfl ?_
  refine z_istore 5 rfl rfl rfl rfl ?_
  refine z_aload 6 rfl rfl rfl ?_
  refine z_get 9 rfl rfl (by repeat (first | exact c1 | exact cp1 | exact hpg | exact mg_eq _ _ _ | refine mg_ne (by omega) ?_)) rfl ?_
  refine z_iload 10 rfl rfl rfl ?_
  refine z_aload 11 rfl rfl rfl ?_
  refine z_qst 12 rfl rfl (by repeat (first | exact c1 | exact cp1 | exact hpg | exact mg_eq _ _ _ | refine mg_ne (by omega) ?_)) (by repeat (first | exact c1 | exact cp1 | exact hpg | exact mg_eq _ _ _ | refine mg_ne (by omega) ?_)) (by decide) rfl (by omega) (by omega) ?_
  refine z_aload 13 rfl rfl rfl ?_
  first | refine z_dup 14 rfl rfl ?_ | refine z_dupi 14 rfl rfl ?_
  refine z_get 17 rfl rfl (by repeat (first | exact c1 | exact cp1 | exact hpg | exact mg_eq _ _ _ | refine mg_ne (by omega) ?_)) rfl ?_
  refine z_push 18 (nI 1) rfl rfl rfl ?_
  refine z_bop 19 _ rfl rfl (by first | with_reducible exact zb_0 _ _ | exact zd_0 _ _) ?_
  refine z_put 22 rfl rfl (by repeat (first | exact c1 | exact cp1 | exact hpg | exact mg_eq _ _ _ | refine mg_ne (by omega) ?_)) rfl (mFi rfl) ?_
  refine z_iload 23 rfl rfl rfl ?_
  refine z_ireti rfl (Nat.le_refl _) (Nat.le_refl _) ?_
  refine q _ (hC.add (pf := va_up pf A.pgs.length (some b)) hl hR hb hb2 hd hsp hM (mg_eq _ _ _) (mg_ne (by omega) (mg_eq _ _ _)) (fun j hj => ?_) (if_pos rfl) (fun x hx => mg_ne (by omega) (mg_ne (by omega) rfl)) rfl) ⟨rfl, fun x hx => mg_ne (by omega) (mg_ne (by omega) rfl)⟩
  rw [va_up, if_neg (by omega)]
  exact cp2 j hj
