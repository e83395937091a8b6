/-! the class: what may change of the exchange -/
theorem CI.ru {h h' : mH} {A : Ab} {pad : Nat → Nat} {sp : Option Nat} {res wrk : Nat} {a9 b9 : Nat} {F : List Fb} (a : CI h A pad sp res wrk) (g : RuAt h' 16 a9 b9 F) (f : ∀ x, (x < 16 ∨ 21 ≤ x) → h'.2 x = h.2 x) (hs : h'.1 = h.1) : CI h' ((A.wSgn (a9, b9)).wFbs F) pad sp res wrk := by
  obtain ⟨c1, cr, cp, cb, cu, cq, cs, ck, cru, cm⟩ := a
  have cr9 : 7 ≤ res ∧ res ≤ 9 ∧ 7 ≤ wrk ∧ wrk ≤ 9 := by omega
  exact ⟨(f 1 (by omega)).trans c1, cr, cp.e (f _ (by omega)) (fun x x1 x2 => f x (by omega)) (by omega), cb.e (fun x x1 x2 => f x (by omega)), cu.e (fun x x1 x2 => f x (by omega)), cq.e (fun x x1 x2 => f x (by omega)), cs.e (fun x x1 x2 => f x (by omega)) (fun x x1 x2 => f x (by omega)) (fun x x1 x2 => f x (by omega)) (f _ (by omega)), ck.e (f _ (by omega)), g, cm.e (f _ (by omega)) (fun x x1 x2 => f x (by omega))⟩
theorem CI.by {h h' : mH} {A : Ab} {pad : Nat → Nat} {sp : Option Nat} {res wrk : Nat} {l : List Nat} (a : CI h A pad sp res wrk) (g : RwAt h' 3 1000 l) (f : ∀ x, (x < 3 ∨ 5 ≤ x) → h'.2 x = h.2 x) (hs : h'.1 = h.1) : CI h' (A.wBys l) pad sp res wrk := by
  obtain ⟨c1, cr, cp, cb, cu, cq, cs, ck, cru, cm⟩ := a
  have cr9 : 7 ≤ res ∧ res ≤ 9 ∧ 7 ≤ wrk ∧ wrk ≤ 9 := by omega
  exact ⟨(f 1 (by omega)).trans c1, cr, cp.e (f _ (by omega)) (fun x x1 x2 => f x (by omega)) (by omega), g, cu.e (fun x x1 x2 => f x (by omega)), cq.e (fun x x1 x2 => f x (by omega)), cs.e (fun x x1 x2 => f x (by omega)) (fun x x1 x2 => f x (by omega)) (fun x x1 x2 => f x (by omega)) (f _ (by omega)), ck.e (f _ (by omega)), cru.e (fun x x1 x2 => f x (by omega)), cm.e (f _ (by omega)) (fun x x1 x2 => f x (by omega))⟩
theorem CI.un {h h' : mH} {A : Ab} {pad : Nat → Nat} {sp : Option Nat} {res wrk : Nat} {l : List Nat} (a : CI h A pad sp res wrk) (g : RwAt h' 5 1000 l) (f : ∀ x, (x < 5 ∨ 7 ≤ x) → h'.2 x = h.2 x) (hs : h'.1 = h.1) : CI h' (A.wUns l) pad sp res wrk := by
  obtain ⟨c1, cr, cp, cb, cu, cq, cs, ck, cru, cm⟩ := a
  have cr9 : 7 ≤ res ∧ res ≤ 9 ∧ 7 ≤ wrk ∧ wrk ≤ 9 := by omega
  exact ⟨(f 1 (by omega)).trans c1, cr, cp.e (f _ (by omega)) (fun x x1 x2 => f x (by omega)) (by omega), cb.e (fun x x1 x2 => f x (by omega)), g, cq.e (fun x x1 x2 => f x (by omega)), cs.e (fun x x1 x2 => f x (by omega)) (fun x x1 x2 => f x (by omega)) (fun x x1 x2 => f x (by omega)) (f _ (by omega)), ck.e (f _ (by omega)), cru.e (fun x x1 x2 => f x (by omega)), cm.e (f _ (by omega)) (fun x x1 x2 => f x (by omega))⟩
theorem CI.sc {h h' : mH} {A : Ab} {pad : Nat → Nat} {sp : Option Nat} {res wrk : Nat}  (a : CI h A pad sp res wrk) (g : CSc h' wrk) (f : ∀ x, (x < wrk ∨ wrk + 2 ≤ x) → (x < 11 ∨ 13 ≤ x) → x ≠ 15 → (x < 41 ∨ 48 ≤ x) → h'.2 x = h.2 x) (hs : h'.1 = h.1) : CI h' A pad sp res wrk := by
  obtain ⟨c1, cr, cp, cb, cu, cq, cs, ck, cru, cm⟩ := a
  have cr9 : 7 ≤ res ∧ res ≤ 9 ∧ 7 ≤ wrk ∧ wrk ≤ 9 := by omega
  exact ⟨(f 1 (by omega) (by omega) (by omega) (by omega)).trans c1, cr, cp.e (f _ (by omega) (by omega) (by omega) (by omega)) (fun x x1 x2 => f x (by omega) (by omega) (by omega) (by omega)) (by omega), cb.e (fun x x1 x2 => f x (by omega) (by omega) (by omega) (by omega)), cu.e (fun x x1 x2 => f x (by omega) (by omega) (by omega) (by omega)), cq.e (fun x x1 x2 => f x (by omega) (by omega) (by omega) (by omega)), g, ck.e (f _ (by omega) (by omega) (by omega) (by omega)), cru.e (fun x x1 x2 => f x (by omega) (by omega) (by omega) (by omega)), cm.e (f _ (by omega) (by omega) (by omega) (by omega)) (fun x x1 x2 => f x (by omega) (by omega) (by omega) (by omega))⟩
theorem CI.bk {h h' : mH} {A : Ab} {pad : Nat → Nat} {sp : Option Nat} {res wrk : Nat} {b : Nat × Nat × Nat} (a : CI h A pad sp res wrk) (g : CBk h' b) (f : ∀ x, (x < 14 ∨ 15 ≤ x) → h'.2 x = h.2 x) (hs : h'.1 = h.1) : CI h' (A.wBrk b) pad sp res wrk := by
  obtain ⟨c1, cr, cp, cb, cu, cq, cs, ck, cru, cm⟩ := a
  have cr9 : 7 ≤ res ∧ res ≤ 9 ∧ 7 ≤ wrk ∧ wrk ≤ 9 := by omega
  exact ⟨(f 1 (by omega)).trans c1, cr, cp.e (f _ (by omega)) (fun x x1 x2 => f x (by omega)) (by omega), cb.e (fun x x1 x2 => f x (by omega)), cu.e (fun x x1 x2 => f x (by omega)), cq.e (fun x x1 x2 => f x (by omega)), cs.e (fun x x1 x2 => f x (by omega)) (fun x x1 x2 => f x (by omega)) (fun x x1 x2 => f x (by omega)) (f _ (by omega)), g, cru.e (fun x x1 x2 => f x (by omega)), cm.e (f _ (by omega)) (fun x x1 x2 => f x (by omega))⟩
theorem CMc.set {h h' : mH} {mcs : Nat → Option Mc} {l : List Pg} {pad : Nat → Nat} {D : Nat} {m : Mc} (c : CMc h mcs l pad) (hD : D < 4) (g : McI h' (48 + 12 * D) l pad (some m)) (f : ∀ x, (x < 48 + 12 * D ∨ 48 + 12 * D + 12 ≤ x) → h'.2 x = h.2 x) : CMc h' (setM mcs D m) l pad := by
  obtain ⟨⟨mf, a1, a2⟩, a3⟩ := c
  refine ⟨⟨mf, (f _ (by omega)).trans a1, a2⟩, fun d hd => ?_⟩
  unfold setM
  by_cases e : d = D
  · subst e; rw [if_pos rfl]; exact g
  · rw [if_neg e]; exact (a3 d hd).e (fun x x1 x2 => f x (by omega))
theorem CI.mc {h h' : mH} {A : Ab} {pad : Nat → Nat} {sp : Option Nat} {res wrk : Nat} {D : Nat} {m : Mc} (a : CI h A pad sp res wrk) (hD : D < 4) (g : McI h' (48 + 12 * D) A.pgs pad (some m)) (f : ∀ x, (x < 48 + 12 * D ∨ 48 + 12 * D + 12 ≤ x) → h'.2 x = h.2 x) (hs : h'.1 = h.1) : CI h' (A.wMcs (setM A.mcs D m)) pad sp res wrk := by
  obtain ⟨c1, cr, cp, cb, cu, cq, cs, ck, cru, cm⟩ := a
  have cr9 : 7 ≤ res ∧ res ≤ 9 ∧ 7 ≤ wrk ∧ wrk ≤ 9 := by omega
  exact ⟨(f 1 (by omega)).trans c1, cr, cp.e (f _ (by omega)) (fun x x1 x2 => f x (by omega)) (by omega), cb.e (fun x x1 x2 => f x (by omega)), cu.e (fun x x1 x2 => f x (by omega)), cq.e (fun x x1 x2 => f x (by omega)), cs.e (fun x x1 x2 => f x (by omega)) (fun x x1 x2 => f x (by omega)) (fun x x1 x2 => f x (by omega)) (f _ (by omega)), ck.e (f _ (by omega)), cru.e (fun x x1 x2 => f x (by omega)), cm.set hD g f⟩
theorem pg_set {l : List Pg} {P j : Nat} {x : Pg} (hP : P < l.length) : pgK (l.set P x) j = (if j = P then x.1 else pgK l j) ∧ pgC (l.set P x) j = (if j = P then x.2.1 else pgC l j) ∧ pgE (l.set P x) j = (if j = P then x.2.2.1 else pgE l j) ∧ pgH (l.set P x) j = (if j = P then x.2.2.2 else pgH l j) := by
  unfold pgK pgC pgE pgH
  rw [getD_set9 _ _ _ _ hP]
  split <;> exact ⟨rfl, rfl, rfl, rfl⟩
theorem CPg.set {h h' : mH} {l : List Pg} {pad : Nat → Nat} {sp : Option Nat} {P : Nat} {x : Pg} (c : CPg h l pad sp) (hP : P < l.length) (g : PgR h' (pad P) x.1 x.2.1 x.2.2.1 x.2.2.2) (f : ∀ y, (y < pad P ∨ pad P + 20 ≤ y) → h'.2 y = h.2 y) (hs : h'.1 = h.1) : CPg h' (l.set P x) pad sp := by
  obtain ⟨a0, ⟨pf, a1, a2⟩, a3, a4, a5⟩ := c
  have hp3 := a3 P hP
  refine ⟨by rw [List.length_set]; exact a0, ⟨pf, (f 2 (by omega)).trans a1, fun j hj => ?_⟩, fun j hj => ?_, fun i j hi hj => ?_, fun s hsp => ?_⟩
  · rw [List.length_set] at hj; exact a2 j hj
  · rw [List.length_set] at hj
    obtain ⟨b1, b2, b3⟩ := a3 j hj
    obtain ⟨e1, e2, e3, e4⟩ := pg_set (l := l) (j := j) (x := x) hP
    rw [e1, e2, e3, e4]
    by_cases e : j = P
    · subst e
      rw [if_pos rfl, if_pos rfl, if_pos rfl, if_pos rfl]
      exact ⟨b1, by omega, g⟩
    · rw [if_neg e, if_neg e, if_neg e, if_neg e]
      have h9 : apD (pad j) (pad P) := a4 j P hj hP e
      unfold apD at h9
      exact ⟨b1, by omega, b3.e (fun y y1 y2 => f y (by omega))⟩
  · rw [List.length_set] at hi hj; exact a4 i j hi hj
  · obtain ⟨b1, b2, ⟨E, H, b3⟩, b4⟩ := a5 s hsp
    have h9 : apD (pad P) s := b4 P hP
    unfold apD at h9
    refine ⟨b1, by omega, ⟨E, H, b3.e (fun y y1 y2 => f y (by omega))⟩, fun j hj => ?_⟩
    rw [List.length_set] at hj
    exact b4 j hj
theorem CMc.pg {h : mH} {mcs : Nat → Option Mc} {l l' : List Pg} {pad pad' : Nat → Nat} (c : CMc h mcs l pad) (hm : ∀ D m, D < 4 → mcs D = some m → pgK l' m.1 = pgK l m.1 ∧ pad' m.1 = pad m.1) : CMc h mcs l' pad' := by
  obtain ⟨a1, a3⟩ := c
  refine ⟨a1, fun d hd => ?_⟩
  have h1 := a3 d hd
  rcases hmm : mcs d with _ | m
  · rw [hmm] at h1; exact h1
  · rw [hmm] at h1
    obtain ⟨e1, e2⟩ := hm d m hd hmm
    obtain ⟨sr, sw, pl, fi, x1, x2, x3⟩ := h1
    exact ⟨sr, sw, pl, fi, by rw [e2]; exact x1, fun h9 => by rw [e1]; exact x2 h9, x3⟩
theorem CI.ps {h h' : mH} {A : Ab} {pad : Nat → Nat} {sp : Option Nat} {res wrk P : Nat} {x : Pg} (a : CI h A pad sp res wrk) (hP : P < A.pgs.length) (hK : x.1 = pgK A.pgs P) (g : PgR h' (pad P) x.1 x.2.1 x.2.2.1 x.2.2.2) (f : ∀ y, (y < pad P ∨ pad P + 20 ≤ y) → h'.2 y = h.2 y) (hs : h'.1 = h.1) : CI h' (A.wPgs (A.pgs.set P x)) pad sp res wrk := by
  obtain ⟨c1, cr, cp, cb, cu, cq, cs, ck, cru, cm⟩ := a
  have hp := (cp.2.2.1 P hP).1
  have cr9 : 7 ≤ res ∧ res ≤ 9 ∧ 7 ≤ wrk ∧ wrk ≤ 9 := by omega
  refine ⟨?_, cr, cp.set hP g f hs, cb.e (fun x x1 x2 => f x (by omega)), cu.e (fun x x1 x2 => f x (by omega)), cq.e (fun x x1 x2 => f x (by omega)), cs.e (fun x x1 x2 => f x (by omega)) (fun x x1 x2 => f x (by omega)) (fun x x1 x2 => f x (by omega)) (f _ (by omega)), ck.e (f _ (by omega)), cru.e (fun x x1 x2 => f x (by omega)), (cm.e (f _ (by omega)) (fun x x1 x2 => f x (by omega))).pg (fun D m hD hm => ⟨?_, rfl⟩)⟩
  · show h'.2 1 = oX (A.pgs.set P x).length sp res A.res.1 wrk A.plc A.fnd
    rw [List.length_set]
    exact (f 1 (by omega)).trans c1
  · show pgK (A.pgs.set P x) m.1 = pgK A.pgs m.1
    rw [(pg_set hP).1]
    split
    · rename_i e; rw [hK, e]
    · rfl
theorem CI.inv {h : mH} {A : Ab} {pad : Nat → Nat} {sp : Option Nat} {res wrk : Nat} (a : CI h A pad sp res wrk) : CInv h A := ⟨_, _, _, _, a⟩
theorem PgR.en {h : mH} {p K : Nat} {c : Bool} {E : List En} {H : List Sh} (a : PgR h p K c E H) : ∃ r r2, EnA h (p + 6) r E ∧ ShA h (p + 12) r2 H := by
  rcases a with ⟨a1, a2⟩ | ⟨a1, a2, a3⟩
  · rcases a2 with ⟨b1, m, rc, _, _, _, _, _, _, _, b2, _⟩ | ⟨b1, b2, b4, b5, m, _, _, _, _, b3, b6, b7, _⟩
    · exact ⟨100, 10, b2.2.1, b2.2.2.1⟩
    · subst b4 b5; exact ⟨0, 0, b6, b7⟩
  · obtain ⟨m, rc, _, _, _, _, _, _, _, b, _⟩ := a3
    exact ⟨100, 10, b.2.1, b.2.2.1⟩
theorem cfI_n {l : List Pg} {p : Int32} (h : ¬ cfI l p = 0) : (cfI l p).toInt < 0 := by
  unfold cfI at h ⊢
  split
  · rename_i e; rw [if_pos e] at h
    split
    · rename_i e2; rw [if_pos e2] at h; exact absurd rfl h
    · decide
  · decide
theorem tfI_n {l : List Pg} {p : Int32} (h : ¬ tfI l p = 0) : (tfI l p).toInt < 0 := by
  unfold tfI at h ⊢
  split
  · rename_i e; rw [if_pos e] at h
    split
    · rename_i e2; rw [if_pos e2] at h; exact absurd rfl h
    · decide
  · decide
theorem bfI_n {l : List Pg} {p q : Int32} (h : ¬ bfI l p q = 0) : (bfI l p q).toInt < 0 := by
  unfold bfI at h ⊢
  split
  · rename_i e; rw [if_pos e] at h
    split
    · rename_i e2; rw [if_pos e2] at h; exact absurd rfl h
    · decide
  · decide
theorem gfI_n {l : Nat → Option Mc} {p : Int32} (h : ¬ gfI l p = 0) : (gfI l p).toInt < 0 := by
  unfold gfI at h ⊢
  split
  · rename_i e; rw [if_pos e] at h
    split
    · decide
    · rename_i m hm
      rw [hm] at h
      simp only at h
      split
      · rename_i e2; rw [if_pos e2] at h; exact absurd rfl h
      · decide
  · decide
