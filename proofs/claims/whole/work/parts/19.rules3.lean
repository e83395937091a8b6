/-! comparisons in whole numbers -/
section ZT
variable {d : Nat} {t : mK} {bc bs : Nat} {Q : mP} {pc len b : Nat} {a : Int} {ts : List Nat} {L : mL} {st : List Value} {h : mH} {nc ns : Nat}
theorem zq {Q : mP} {h : mH} {x y : Int32} (q : Q (some (.int x)) h) (e : y = x) : Q (some (.int y)) h := by rw [e]; exact q
theorem zlt {x y : Int32} : x < y ↔ x.toInt < y.toInt := Int32.lt_iff_toInt_lt
theorem zle {x y : Int32} : x ≤ y ↔ x.toInt ≤ y.toInt := Int32.le_iff_toInt_le
theorem zeq {x y : Int32} : x = y ↔ x.toInt = y.toInt := Int32.toInt_inj.symm
theorem z_teq {x y : Int32} (pc' : Nat) (hi : mAt t pc = some (len, 21, a, b, 0, ts)) (hp : pc + len = pc') (kt : x.toInt = y.toInt → mZ d t bc bs Q b L st h nc ns) (kf : ¬ x.toInt = y.toInt → mZ d t bc bs Q pc' L st h nc ns) : mZ d t bc bs Q pc L (.int y :: .int x :: st) h nc ns :=
  z_ceq pc' hi hp (fun hc => kt (by rw [zeq] at hc; omega)) (fun hc => kf (by rw [zeq] at hc; omega))
theorem z_keq {x : Int32} {y : Nat} (pc' : Nat) (hi : mAt t pc = some (len, 21, a, b, 0, ts)) (hp : pc + len = pc') (hy : y < 2 ^ 31) (kt : x.toInt = (y : Int) → mZ d t bc bs Q b L st h nc ns) (kf : ¬ x.toInt = (y : Int) → mZ d t bc bs Q pc' L st h nc ns) : mZ d t bc bs Q pc L (.int (nI y) :: .int x :: st) h nc ns :=
  z_teq pc' hi hp (fun hc => kt (by rw [nI_toInt hy] at hc; omega)) (fun hc => kf (by rw [nI_toInt hy] at hc; omega))
theorem z_heq {x : Nat} {y : Int32} (pc' : Nat) (hi : mAt t pc = some (len, 21, a, b, 0, ts)) (hp : pc + len = pc') (hx : x < 2 ^ 31) (kt : (x : Int) = y.toInt → mZ d t bc bs Q b L st h nc ns) (kf : ¬ (x : Int) = y.toInt → mZ d t bc bs Q pc' L st h nc ns) : mZ d t bc bs Q pc L (.int y :: .int (nI x) :: st) h nc ns :=
  z_teq pc' hi hp (fun hc => kt (by rw [nI_toInt hx] at hc; omega)) (fun hc => kf (by rw [nI_toInt hx] at hc; omega))
theorem z_jeq {x : Int32} (pc' : Nat) (hi : mAt t pc = some (len, 20, a, b, 0, ts)) (hp : pc + len = pc') (kt : x.toInt = 0 → mZ d t bc bs Q b L st h nc ns) (kf : ¬ x.toInt = 0 → mZ d t bc bs Q pc' L st h nc ns) : mZ d t bc bs Q pc L (.int x :: st) h nc ns :=
  z_ieq pc' hi hp (fun hc => kt (by rw [zeq, Int32.toInt_zero] at hc; omega)) (fun hc => kf (by rw [zeq, Int32.toInt_zero] at hc; omega))
theorem z_tne {x y : Int32} (pc' : Nat) (hi : mAt t pc = some (len, 21, a, b, 1, ts)) (hp : pc + len = pc') (kt : ¬ x.toInt = y.toInt → mZ d t bc bs Q b L st h nc ns) (kf : x.toInt = y.toInt → mZ d t bc bs Q pc' L st h nc ns) : mZ d t bc bs Q pc L (.int y :: .int x :: st) h nc ns :=
  z_cne pc' hi hp (fun hc => kt (by rw [zeq] at hc; omega)) (fun hc => kf (by rw [zeq] at hc; omega))
theorem z_kne {x : Int32} {y : Nat} (pc' : Nat) (hi : mAt t pc = some (len, 21, a, b, 1, ts)) (hp : pc + len = pc') (hy : y < 2 ^ 31) (kt : ¬ x.toInt = (y : Int) → mZ d t bc bs Q b L st h nc ns) (kf : x.toInt = (y : Int) → mZ d t bc bs Q pc' L st h nc ns) : mZ d t bc bs Q pc L (.int (nI y) :: .int x :: st) h nc ns :=
  z_tne pc' hi hp (fun hc => kt (by rw [nI_toInt hy] at hc; omega)) (fun hc => kf (by rw [nI_toInt hy] at hc; omega))
theorem z_hne {x : Nat} {y : Int32} (pc' : Nat) (hi : mAt t pc = some (len, 21, a, b, 1, ts)) (hp : pc + len = pc') (hx : x < 2 ^ 31) (kt : ¬ (x : Int) = y.toInt → mZ d t bc bs Q b L st h nc ns) (kf : (x : Int) = y.toInt → mZ d t bc bs Q pc' L st h nc ns) : mZ d t bc bs Q pc L (.int y :: .int (nI x) :: st) h nc ns :=
  z_tne pc' hi hp (fun hc => kt (by rw [nI_toInt hx] at hc; omega)) (fun hc => kf (by rw [nI_toInt hx] at hc; omega))
theorem z_jne {x : Int32} (pc' : Nat) (hi : mAt t pc = some (len, 20, a, b, 1, ts)) (hp : pc + len = pc') (kt : ¬ x.toInt = 0 → mZ d t bc bs Q b L st h nc ns) (kf : x.toInt = 0 → mZ d t bc bs Q pc' L st h nc ns) : mZ d t bc bs Q pc L (.int x :: st) h nc ns :=
  z_ine pc' hi hp (fun hc => kt (by rw [zeq, Int32.toInt_zero] at hc; omega)) (fun hc => kf (by rw [zeq, Int32.toInt_zero] at hc; omega))
theorem z_tlt {x y : Int32} (pc' : Nat) (hi : mAt t pc = some (len, 21, a, b, 2, ts)) (hp : pc + len = pc') (kt : x.toInt < y.toInt → mZ d t bc bs Q b L st h nc ns) (kf : y.toInt ≤ x.toInt → mZ d t bc bs Q pc' L st h nc ns) : mZ d t bc bs Q pc L (.int y :: .int x :: st) h nc ns :=
  z_clt pc' hi hp (fun hc => kt (by rw [zlt] at hc; omega)) (fun hc => kf (by rw [zlt] at hc; omega))
theorem z_klt {x : Int32} {y : Nat} (pc' : Nat) (hi : mAt t pc = some (len, 21, a, b, 2, ts)) (hp : pc + len = pc') (hy : y < 2 ^ 31) (kt : x.toInt < (y : Int) → mZ d t bc bs Q b L st h nc ns) (kf : (y : Int) ≤ x.toInt → mZ d t bc bs Q pc' L st h nc ns) : mZ d t bc bs Q pc L (.int (nI y) :: .int x :: st) h nc ns :=
  z_tlt pc' hi hp (fun hc => kt (by rw [nI_toInt hy] at hc; omega)) (fun hc => kf (by rw [nI_toInt hy] at hc; omega))
theorem z_hlt {x : Nat} {y : Int32} (pc' : Nat) (hi : mAt t pc = some (len, 21, a, b, 2, ts)) (hp : pc + len = pc') (hx : x < 2 ^ 31) (kt : (x : Int) < y.toInt → mZ d t bc bs Q b L st h nc ns) (kf : y.toInt ≤ (x : Int) → mZ d t bc bs Q pc' L st h nc ns) : mZ d t bc bs Q pc L (.int y :: .int (nI x) :: st) h nc ns :=
  z_tlt pc' hi hp (fun hc => kt (by rw [nI_toInt hx] at hc; omega)) (fun hc => kf (by rw [nI_toInt hx] at hc; omega))
theorem z_jlt {x : Int32} (pc' : Nat) (hi : mAt t pc = some (len, 20, a, b, 2, ts)) (hp : pc + len = pc') (kt : x.toInt < 0 → mZ d t bc bs Q b L st h nc ns) (kf : 0 ≤ x.toInt → mZ d t bc bs Q pc' L st h nc ns) : mZ d t bc bs Q pc L (.int x :: st) h nc ns :=
  z_ilt pc' hi hp (fun hc => kt (by rw [zlt, Int32.toInt_zero] at hc; omega)) (fun hc => kf (by rw [zlt, Int32.toInt_zero] at hc; omega))
theorem z_tge {x y : Int32} (pc' : Nat) (hi : mAt t pc = some (len, 21, a, b, 3, ts)) (hp : pc + len = pc') (kt : y.toInt ≤ x.toInt → mZ d t bc bs Q b L st h nc ns) (kf : x.toInt < y.toInt → mZ d t bc bs Q pc' L st h nc ns) : mZ d t bc bs Q pc L (.int y :: .int x :: st) h nc ns :=
  z_cge pc' hi hp (fun hc => kt (by rw [zle] at hc; omega)) (fun hc => kf (by rw [zle] at hc; omega))
theorem z_kge {x : Int32} {y : Nat} (pc' : Nat) (hi : mAt t pc = some (len, 21, a, b, 3, ts)) (hp : pc + len = pc') (hy : y < 2 ^ 31) (kt : (y : Int) ≤ x.toInt → mZ d t bc bs Q b L st h nc ns) (kf : x.toInt < (y : Int) → mZ d t bc bs Q pc' L st h nc ns) : mZ d t bc bs Q pc L (.int (nI y) :: .int x :: st) h nc ns :=
  z_tge pc' hi hp (fun hc => kt (by rw [nI_toInt hy] at hc; omega)) (fun hc => kf (by rw [nI_toInt hy] at hc; omega))
theorem z_hge {x : Nat} {y : Int32} (pc' : Nat) (hi : mAt t pc = some (len, 21, a, b, 3, ts)) (hp : pc + len = pc') (hx : x < 2 ^ 31) (kt : y.toInt ≤ (x : Int) → mZ d t bc bs Q b L st h nc ns) (kf : (x : Int) < y.toInt → mZ d t bc bs Q pc' L st h nc ns) : mZ d t bc bs Q pc L (.int y :: .int (nI x) :: st) h nc ns :=
  z_tge pc' hi hp (fun hc => kt (by rw [nI_toInt hx] at hc; omega)) (fun hc => kf (by rw [nI_toInt hx] at hc; omega))
theorem z_jge {x : Int32} (pc' : Nat) (hi : mAt t pc = some (len, 20, a, b, 3, ts)) (hp : pc + len = pc') (kt : 0 ≤ x.toInt → mZ d t bc bs Q b L st h nc ns) (kf : x.toInt < 0 → mZ d t bc bs Q pc' L st h nc ns) : mZ d t bc bs Q pc L (.int x :: st) h nc ns :=
  z_ige pc' hi hp (fun hc => kt (by rw [zle, Int32.toInt_zero] at hc; omega)) (fun hc => kf (by rw [zle, Int32.toInt_zero] at hc; omega))
theorem z_tgt {x y : Int32} (pc' : Nat) (hi : mAt t pc = some (len, 21, a, b, 4, ts)) (hp : pc + len = pc') (kt : y.toInt < x.toInt → mZ d t bc bs Q b L st h nc ns) (kf : x.toInt ≤ y.toInt → mZ d t bc bs Q pc' L st h nc ns) : mZ d t bc bs Q pc L (.int y :: .int x :: st) h nc ns :=
  z_cgt pc' hi hp (fun hc => kt (by rw [zlt] at hc; omega)) (fun hc => kf (by rw [zlt] at hc; omega))
theorem z_kgt {x : Int32} {y : Nat} (pc' : Nat) (hi : mAt t pc = some (len, 21, a, b, 4, ts)) (hp : pc + len = pc') (hy : y < 2 ^ 31) (kt : (y : Int) < x.toInt → mZ d t bc bs Q b L st h nc ns) (kf : x.toInt ≤ (y : Int) → mZ d t bc bs Q pc' L st h nc ns) : mZ d t bc bs Q pc L (.int (nI y) :: .int x :: st) h nc ns :=
  z_tgt pc' hi hp (fun hc => kt (by rw [nI_toInt hy] at hc; omega)) (fun hc => kf (by rw [nI_toInt hy] at hc; omega))
theorem z_hgt {x : Nat} {y : Int32} (pc' : Nat) (hi : mAt t pc = some (len, 21, a, b, 4, ts)) (hp : pc + len = pc') (hx : x < 2 ^ 31) (kt : y.toInt < (x : Int) → mZ d t bc bs Q b L st h nc ns) (kf : (x : Int) ≤ y.toInt → mZ d t bc bs Q pc' L st h nc ns) : mZ d t bc bs Q pc L (.int y :: .int (nI x) :: st) h nc ns :=
  z_tgt pc' hi hp (fun hc => kt (by rw [nI_toInt hx] at hc; omega)) (fun hc => kf (by rw [nI_toInt hx] at hc; omega))
theorem z_jgt {x : Int32} (pc' : Nat) (hi : mAt t pc = some (len, 20, a, b, 4, ts)) (hp : pc + len = pc') (kt : 0 < x.toInt → mZ d t bc bs Q b L st h nc ns) (kf : x.toInt ≤ 0 → mZ d t bc bs Q pc' L st h nc ns) : mZ d t bc bs Q pc L (.int x :: st) h nc ns :=
  z_igt pc' hi hp (fun hc => kt (by rw [zlt, Int32.toInt_zero] at hc; omega)) (fun hc => kf (by rw [zlt, Int32.toInt_zero] at hc; omega))
theorem z_tle {x y : Int32} (pc' : Nat) (hi : mAt t pc = some (len, 21, a, b, 5, ts)) (hp : pc + len = pc') (kt : x.toInt ≤ y.toInt → mZ d t bc bs Q b L st h nc ns) (kf : y.toInt < x.toInt → mZ d t bc bs Q pc' L st h nc ns) : mZ d t bc bs Q pc L (.int y :: .int x :: st) h nc ns :=
  z_cle pc' hi hp (fun hc => kt (by rw [zle] at hc; omega)) (fun hc => kf (by rw [zle] at hc; omega))
theorem z_kle {x : Int32} {y : Nat} (pc' : Nat) (hi : mAt t pc = some (len, 21, a, b, 5, ts)) (hp : pc + len = pc') (hy : y < 2 ^ 31) (kt : x.toInt ≤ (y : Int) → mZ d t bc bs Q b L st h nc ns) (kf : (y : Int) < x.toInt → mZ d t bc bs Q pc' L st h nc ns) : mZ d t bc bs Q pc L (.int (nI y) :: .int x :: st) h nc ns :=
  z_tle pc' hi hp (fun hc => kt (by rw [nI_toInt hy] at hc; omega)) (fun hc => kf (by rw [nI_toInt hy] at hc; omega))
theorem z_hle {x : Nat} {y : Int32} (pc' : Nat) (hi : mAt t pc = some (len, 21, a, b, 5, ts)) (hp : pc + len = pc') (hx : x < 2 ^ 31) (kt : (x : Int) ≤ y.toInt → mZ d t bc bs Q b L st h nc ns) (kf : y.toInt < (x : Int) → mZ d t bc bs Q pc' L st h nc ns) : mZ d t bc bs Q pc L (.int y :: .int (nI x) :: st) h nc ns :=
  z_tle pc' hi hp (fun hc => kt (by rw [nI_toInt hx] at hc; omega)) (fun hc => kf (by rw [nI_toInt hx] at hc; omega))
theorem z_jle {x : Int32} (pc' : Nat) (hi : mAt t pc = some (len, 20, a, b, 5, ts)) (hp : pc + len = pc') (kt : x.toInt ≤ 0 → mZ d t bc bs Q b L st h nc ns) (kf : 0 < x.toInt → mZ d t bc bs Q pc' L st h nc ns) : mZ d t bc bs Q pc L (.int x :: st) h nc ns :=
  z_ile pc' hi hp (fun hc => kt (by rw [zle, Int32.toInt_zero] at hc; omega)) (fun hc => kf (by rw [zle, Int32.toInt_zero] at hc; omega))
end ZT
theorem zb_0 (a b : Nat) : mBop 0 (nI a) (nI b) = nI (a + b) := nI_add a b
theorem zb_1 {a b : Nat} (h : b ≤ a) : mBop 1 (nI a) (nI b) = nI (a - b) := pk_sub h
theorem zb_2 (a b : Nat) : mBop 2 (nI a) (nI b) = nI (a * b) := pk_mul a b
theorem zi_1 (a : Nat) : nI a + Int32.ofInt 1 = nI (a + 1) := nI_1 a
theorem zd_0 (x y : Int32) : mBop 0 x y = x + y := rfl
theorem zd_1 (x y : Int32) : mBop 1 x y = x - y := rfl
theorem zd_2 (x y : Int32) : mBop 2 x y = x * y := rfl
theorem zd_3 (x y : Int32) : mBop 3 x y = x &&& y := rfl
theorem zd_4 (x y : Int32) : mBop 4 x y = x ||| y := rfl
theorem zd_5 (x y : Int32) : mBop 5 x y = x ^^^ y := rfl
theorem zd_6 (x y : Int32) : mBop 6 x y = x <<< (y &&& 31) := rfl
theorem zd_7 (x y : Int32) : mBop 7 x y = x >>> (y &&& 31) := rfl
theorem zd_8 (x y : Int32) : mBop 8 x y = mBop 8 x y := rfl
