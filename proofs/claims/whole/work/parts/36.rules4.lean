/-! calls without budgets, by the number of their arguments -/
section ZK
variable {d : Nat} {t : mK} {bc bs : Nat} {Q : mP} {pc len b : Nat} {a : Int} {L : mL} {st : List Value} {h : mH} {nc ns : Nat}
theorem z_cv0 {x ci : Nat} {fs : List Value} (pc' : Nat) (hi : mAt t pc = some (len, 50, a, b, 0, [ci, 0, 0])) (hp : pc + len = pc') (hx : h.2 x = .inr (.inr (ci, fs))) (hr : Nat.ble (mCat st) 8 = true) (hc : nc ≤ bc) (hs : ns ≤ bs) (kk : mWP d b [.ref x] h (fun v h' => match v with | some w => mZ d t bc bs Q pc' L (w :: st) h' nc ns | none => mZ d t bc bs Q pc' L st h' nc ns)) : mZ d t bc bs Q pc L (.ref x :: st) h nc ns := by
  refine z_cv pc' _ hi hp rfl rfl hx rfl hr hc hs ?_
  refine mWP_mono d _ _ _ _ _ (fun v h' hk => ?_) kk
  cases v <;> exact hk
theorem z_cs0 {ci : Nat} (pc' : Nat) (hi : mAt t pc = some (len, 51, a, b, 0, [ci, 0, 0])) (hp : pc + len = pc') (hr : Nat.ble (mCat st) 8 = true) (hc : nc ≤ bc) (hs : ns ≤ bs) (kk : mWP d b [] h (fun v h' => match v with | some w => mZ d t bc bs Q pc' L (w :: st) h' nc ns | none => mZ d t bc bs Q pc' L st h' nc ns)) : mZ d t bc bs Q pc L (st) h nc ns := by
  refine z_cs pc' _ hi hp rfl rfl rfl hr hc hs ?_
  refine mWP_mono d _ _ _ _ _ (fun v h' hk => ?_) kk
  cases v <;> exact hk
theorem z_cv1 {x ci : Nat} {fs : List Value} {v1 : Value} (pc' : Nat) (hi : mAt t pc = some (len, 50, a, b, 1, [ci, 0, 0])) (hp : pc + len = pc') (hx : h.2 x = .inr (.inr (ci, fs))) (hr : Nat.ble (mCat st) 8 = true) (hc : nc ≤ bc) (hs : ns ≤ bs) (kk : mWP d b [.ref x, v1] h (fun v h' => match v with | some w => mZ d t bc bs Q pc' L (w :: st) h' nc ns | none => mZ d t bc bs Q pc' L st h' nc ns)) : mZ d t bc bs Q pc L (v1 :: .ref x :: st) h nc ns := by
  refine z_cv pc' _ hi hp rfl rfl hx rfl hr hc hs ?_
  refine mWP_mono d _ _ _ _ _ (fun v h' hk => ?_) kk
  cases v <;> exact hk
theorem z_cs1 {ci : Nat} {v1 : Value} (pc' : Nat) (hi : mAt t pc = some (len, 51, a, b, 1, [ci, 0, 0])) (hp : pc + len = pc') (hr : Nat.ble (mCat st) 8 = true) (hc : nc ≤ bc) (hs : ns ≤ bs) (kk : mWP d b [v1] h (fun v h' => match v with | some w => mZ d t bc bs Q pc' L (w :: st) h' nc ns | none => mZ d t bc bs Q pc' L st h' nc ns)) : mZ d t bc bs Q pc L (v1 :: st) h nc ns := by
  refine z_cs pc' _ hi hp rfl rfl rfl hr hc hs ?_
  refine mWP_mono d _ _ _ _ _ (fun v h' hk => ?_) kk
  cases v <;> exact hk
theorem z_cv2 {x ci : Nat} {fs : List Value} {v1 v2 : Value} (pc' : Nat) (hi : mAt t pc = some (len, 50, a, b, 2, [ci, 0, 0])) (hp : pc + len = pc') (hx : h.2 x = .inr (.inr (ci, fs))) (hr : Nat.ble (mCat st) 8 = true) (hc : nc ≤ bc) (hs : ns ≤ bs) (kk : mWP d b [.ref x, v1, v2] h (fun v h' => match v with | some w => mZ d t bc bs Q pc' L (w :: st) h' nc ns | none => mZ d t bc bs Q pc' L st h' nc ns)) : mZ d t bc bs Q pc L (v2 :: v1 :: .ref x :: st) h nc ns := by
  refine z_cv pc' _ hi hp rfl rfl hx rfl hr hc hs ?_
  refine mWP_mono d _ _ _ _ _ (fun v h' hk => ?_) kk
  cases v <;> exact hk
theorem z_cs2 {ci : Nat} {v1 v2 : Value} (pc' : Nat) (hi : mAt t pc = some (len, 51, a, b, 2, [ci, 0, 0])) (hp : pc + len = pc') (hr : Nat.ble (mCat st) 8 = true) (hc : nc ≤ bc) (hs : ns ≤ bs) (kk : mWP d b [v1, v2] h (fun v h' => match v with | some w => mZ d t bc bs Q pc' L (w :: st) h' nc ns | none => mZ d t bc bs Q pc' L st h' nc ns)) : mZ d t bc bs Q pc L (v2 :: v1 :: st) h nc ns := by
  refine z_cs pc' _ hi hp rfl rfl rfl hr hc hs ?_
  refine mWP_mono d _ _ _ _ _ (fun v h' hk => ?_) kk
  cases v <;> exact hk
theorem z_cv3 {x ci : Nat} {fs : List Value} {v1 v2 v3 : Value} (pc' : Nat) (hi : mAt t pc = some (len, 50, a, b, 3, [ci, 0, 0])) (hp : pc + len = pc') (hx : h.2 x = .inr (.inr (ci, fs))) (hr : Nat.ble (mCat st) 8 = true) (hc : nc ≤ bc) (hs : ns ≤ bs) (kk : mWP d b [.ref x, v1, v2, v3] h (fun v h' => match v with | some w => mZ d t bc bs Q pc' L (w :: st) h' nc ns | none => mZ d t bc bs Q pc' L st h' nc ns)) : mZ d t bc bs Q pc L (v3 :: v2 :: v1 :: .ref x :: st) h nc ns := by
  refine z_cv pc' _ hi hp rfl rfl hx rfl hr hc hs ?_
  refine mWP_mono d _ _ _ _ _ (fun v h' hk => ?_) kk
  cases v <;> exact hk
theorem z_cs3 {ci : Nat} {v1 v2 v3 : Value} (pc' : Nat) (hi : mAt t pc = some (len, 51, a, b, 3, [ci, 0, 0])) (hp : pc + len = pc') (hr : Nat.ble (mCat st) 8 = true) (hc : nc ≤ bc) (hs : ns ≤ bs) (kk : mWP d b [v1, v2, v3] h (fun v h' => match v with | some w => mZ d t bc bs Q pc' L (w :: st) h' nc ns | none => mZ d t bc bs Q pc' L st h' nc ns)) : mZ d t bc bs Q pc L (v3 :: v2 :: v1 :: st) h nc ns := by
  refine z_cs pc' _ hi hp rfl rfl rfl hr hc hs ?_
  refine mWP_mono d _ _ _ _ _ (fun v h' hk => ?_) kk
  cases v <;> exact hk
theorem z_cv4 {x ci : Nat} {fs : List Value} {v1 v2 v3 v4 : Value} (pc' : Nat) (hi : mAt t pc = some (len, 50, a, b, 4, [ci, 0, 0])) (hp : pc + len = pc') (hx : h.2 x = .inr (.inr (ci, fs))) (hr : Nat.ble (mCat st) 8 = true) (hc : nc ≤ bc) (hs : ns ≤ bs) (kk : mWP d b [.ref x, v1, v2, v3, v4] h (fun v h' => match v with | some w => mZ d t bc bs Q pc' L (w :: st) h' nc ns | none => mZ d t bc bs Q pc' L st h' nc ns)) : mZ d t bc bs Q pc L (v4 :: v3 :: v2 :: v1 :: .ref x :: st) h nc ns := by
  refine z_cv pc' _ hi hp rfl rfl hx rfl hr hc hs ?_
  refine mWP_mono d _ _ _ _ _ (fun v h' hk => ?_) kk
  cases v <;> exact hk
theorem z_cs4 {ci : Nat} {v1 v2 v3 v4 : Value} (pc' : Nat) (hi : mAt t pc = some (len, 51, a, b, 4, [ci, 0, 0])) (hp : pc + len = pc') (hr : Nat.ble (mCat st) 8 = true) (hc : nc ≤ bc) (hs : ns ≤ bs) (kk : mWP d b [v1, v2, v3, v4] h (fun v h' => match v with | some w => mZ d t bc bs Q pc' L (w :: st) h' nc ns | none => mZ d t bc bs Q pc' L st h' nc ns)) : mZ d t bc bs Q pc L (v4 :: v3 :: v2 :: v1 :: st) h nc ns := by
  refine z_cs pc' _ hi hp rfl rfl rfl hr hc hs ?_
  refine mWP_mono d _ _ _ _ _ (fun v h' hk => ?_) kk
  cases v <;> exact hk
theorem z_cv5 {x ci : Nat} {fs : List Value} {v1 v2 v3 v4 v5 : Value} (pc' : Nat) (hi : mAt t pc = some (len, 50, a, b, 5, [ci, 0, 0])) (hp : pc + len = pc') (hx : h.2 x = .inr (.inr (ci, fs))) (hr : Nat.ble (mCat st) 8 = true) (hc : nc ≤ bc) (hs : ns ≤ bs) (kk : mWP d b [.ref x, v1, v2, v3, v4, v5] h (fun v h' => match v with | some w => mZ d t bc bs Q pc' L (w :: st) h' nc ns | none => mZ d t bc bs Q pc' L st h' nc ns)) : mZ d t bc bs Q pc L (v5 :: v4 :: v3 :: v2 :: v1 :: .ref x :: st) h nc ns := by
  refine z_cv pc' _ hi hp rfl rfl hx rfl hr hc hs ?_
  refine mWP_mono d _ _ _ _ _ (fun v h' hk => ?_) kk
  cases v <;> exact hk
theorem z_cs5 {ci : Nat} {v1 v2 v3 v4 v5 : Value} (pc' : Nat) (hi : mAt t pc = some (len, 51, a, b, 5, [ci, 0, 0])) (hp : pc + len = pc') (hr : Nat.ble (mCat st) 8 = true) (hc : nc ≤ bc) (hs : ns ≤ bs) (kk : mWP d b [v1, v2, v3, v4, v5] h (fun v h' => match v with | some w => mZ d t bc bs Q pc' L (w :: st) h' nc ns | none => mZ d t bc bs Q pc' L st h' nc ns)) : mZ d t bc bs Q pc L (v5 :: v4 :: v3 :: v2 :: v1 :: st) h nc ns := by
  refine z_cs pc' _ hi hp rfl rfl rfl hr hc hs ?_
  refine mWP_mono d _ _ _ _ _ (fun v h' hk => ?_) kk
  cases v <;> exact hk
theorem z_cv6 {x ci : Nat} {fs : List Value} {v1 v2 v3 v4 v5 v6 : Value} (pc' : Nat) (hi : mAt t pc = some (len, 50, a, b, 6, [ci, 0, 0])) (hp : pc + len = pc') (hx : h.2 x = .inr (.inr (ci, fs))) (hr : Nat.ble (mCat st) 8 = true) (hc : nc ≤ bc) (hs : ns ≤ bs) (kk : mWP d b [.ref x, v1, v2, v3, v4, v5, v6] h (fun v h' => match v with | some w => mZ d t bc bs Q pc' L (w :: st) h' nc ns | none => mZ d t bc bs Q pc' L st h' nc ns)) : mZ d t bc bs Q pc L (v6 :: v5 :: v4 :: v3 :: v2 :: v1 :: .ref x :: st) h nc ns := by
  refine z_cv pc' _ hi hp rfl rfl hx rfl hr hc hs ?_
  refine mWP_mono d _ _ _ _ _ (fun v h' hk => ?_) kk
  cases v <;> exact hk
theorem z_cs6 {ci : Nat} {v1 v2 v3 v4 v5 v6 : Value} (pc' : Nat) (hi : mAt t pc = some (len, 51, a, b, 6, [ci, 0, 0])) (hp : pc + len = pc') (hr : Nat.ble (mCat st) 8 = true) (hc : nc ≤ bc) (hs : ns ≤ bs) (kk : mWP d b [v1, v2, v3, v4, v5, v6] h (fun v h' => match v with | some w => mZ d t bc bs Q pc' L (w :: st) h' nc ns | none => mZ d t bc bs Q pc' L st h' nc ns)) : mZ d t bc bs Q pc L (v6 :: v5 :: v4 :: v3 :: v2 :: v1 :: st) h nc ns := by
  refine z_cs pc' _ hi hp rfl rfl rfl hr hc hs ?_
  refine mWP_mono d _ _ _ _ _ (fun v h' hk => ?_) kk
  cases v <;> exact hk
theorem z_cv7 {x ci : Nat} {fs : List Value} {v1 v2 v3 v4 v5 v6 v7 : Value} (pc' : Nat) (hi : mAt t pc = some (len, 50, a, b, 7, [ci, 0, 0])) (hp : pc + len = pc') (hx : h.2 x = .inr (.inr (ci, fs))) (hr : Nat.ble (mCat st) 8 = true) (hc : nc ≤ bc) (hs : ns ≤ bs) (kk : mWP d b [.ref x, v1, v2, v3, v4, v5, v6, v7] h (fun v h' => match v with | some w => mZ d t bc bs Q pc' L (w :: st) h' nc ns | none => mZ d t bc bs Q pc' L st h' nc ns)) : mZ d t bc bs Q pc L (v7 :: v6 :: v5 :: v4 :: v3 :: v2 :: v1 :: .ref x :: st) h nc ns := by
  refine z_cv pc' _ hi hp rfl rfl hx rfl hr hc hs ?_
  refine mWP_mono d _ _ _ _ _ (fun v h' hk => ?_) kk
  cases v <;> exact hk
theorem z_cs7 {ci : Nat} {v1 v2 v3 v4 v5 v6 v7 : Value} (pc' : Nat) (hi : mAt t pc = some (len, 51, a, b, 7, [ci, 0, 0])) (hp : pc + len = pc') (hr : Nat.ble (mCat st) 8 = true) (hc : nc ≤ bc) (hs : ns ≤ bs) (kk : mWP d b [v1, v2, v3, v4, v5, v6, v7] h (fun v h' => match v with | some w => mZ d t bc bs Q pc' L (w :: st) h' nc ns | none => mZ d t bc bs Q pc' L st h' nc ns)) : mZ d t bc bs Q pc L (v7 :: v6 :: v5 :: v4 :: v3 :: v2 :: v1 :: st) h nc ns := by
  refine z_cs pc' _ hi hp rfl rfl rfl hr hc hs ?_
  refine mWP_mono d _ _ _ _ _ (fun v h' hk => ?_) kk
  cases v <;> exact hk
end ZK
