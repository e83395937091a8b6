/-! comparisons of counted numbers, of truth values; what fits a field; lookups -/
def bI (p : Bool) : Int32 := if p = true then 1 else 0
theorem bI_01 (p : Bool) : bI p = 0 ∨ bI p = 1 := by cases p <;> simp [bI]
theorem mFi {b c : Nat} {x : Int32} (h : mm_ty b c = .int) : mFit b c (.int x) = true := by simp [mFit, h, narrow, fits]
theorem mFb {b c : Nat} {x : Int32} (h : mm_ty b c = .boolean) (hx : x = 0 ∨ x = 1) : mFit b c (.int x) = true := by rcases hx with rfl | rfl <;> simp [mFit, h, narrow, fits]
theorem mFo {b c : Nat} {x : Nat} {n : String} (h : mm_ty b c = .object n) : mFit b c (.ref x) = true := by simp [mFit, h, narrow, fits]
theorem mFn {b c : Nat} {n : String} (h : mm_ty b c = .object n) : mFit b c .null = true := by simp [mFit, h, narrow, fits]
theorem mFa {b c : Nat} {x : Nat} {n : FieldType} (h : mm_ty b c = .array n) : mFit b c (.ref x) = true := by simp [mFit, h, narrow, fits]
theorem mg_eq (h : mH) (a : Nat) (e : mC) : (mSet h a e).2 a = e := by simp [mSet]
theorem mg_ne {h : mH} {a x : Nat} {e e' : mC} (hn : x ≠ a) (hx : h.2 x = e') : (mSet h a e).2 x = e' := by simp [mSet, hn, hx]
theorem mg_k {h : mH} {a x : Nat} {e e0 e' : mC} (hx : h.2 x = e') (ha : h.2 a = e0) (hn : e0 ≠ e') : (mSet h a e).2 x = e' := mg_ne (fun q => hn (by rw [← ha, ← hx, q])) hx
section ZC
variable {d : Nat} {t : mK} {bc bs : Nat} {Q : mP} {pc len b : Nat} {a : Int} {ts : List Nat} {L : mL} {st : List Value} {h : mH} {nc ns : Nat}
theorem z_ceq {x y : Int32} (pc' : Nat) (hi : mAt t pc = some (len, 21, a, b, 0, ts)) (hp : pc + len = pc') (kt : x = y → mZ d t bc bs Q b L st h nc ns) (kf : ¬ x = y → mZ d t bc bs Q pc' L st h nc ns) : mZ d t bc bs Q pc L (.int y :: .int x :: st) h nc ns :=
  z_icmp pc' hi hp (fun hc => kt (by simpa [mCnd] using hc)) (fun hc => kf (by simpa [mCnd] using hc))
theorem z_neq {x y : Nat} (pc' : Nat) (hi : mAt t pc = some (len, 21, a, b, 0, ts)) (hp : pc + len = pc') (hx : x < 2 ^ 31) (hy : y < 2 ^ 31) (kt : x = y → mZ d t bc bs Q b L st h nc ns) (kf : ¬ x = y → mZ d t bc bs Q pc' L st h nc ns) : mZ d t bc bs Q pc L (.int (nI y) :: .int (nI x) :: st) h nc ns :=
  z_ceq pc' hi hp (fun hc => kt (by rw [nI_eq hx hy] at hc; omega)) (fun hc => kf (by rw [nI_eq hx hy] at hc; omega))
theorem z_ieq {x : Int32} (pc' : Nat) (hi : mAt t pc = some (len, 20, a, b, 0, ts)) (hp : pc + len = pc') (kt : x = 0 → mZ d t bc bs Q b L st h nc ns) (kf : ¬ x = 0 → mZ d t bc bs Q pc' L st h nc ns) : mZ d t bc bs Q pc L (.int x :: st) h nc ns :=
  z_if pc' hi hp (fun hc => kt (by simpa [mCnd] using hc)) (fun hc => kf (by simpa [mCnd] using hc))
theorem z_cne {x y : Int32} (pc' : Nat) (hi : mAt t pc = some (len, 21, a, b, 1, ts)) (hp : pc + len = pc') (kt : ¬ x = y → mZ d t bc bs Q b L st h nc ns) (kf : x = y → mZ d t bc bs Q pc' L st h nc ns) : mZ d t bc bs Q pc L (.int y :: .int x :: st) h nc ns :=
  z_icmp pc' hi hp (fun hc => kt (by simpa [mCnd] using hc)) (fun hc => kf (by simpa [mCnd] using hc))
theorem z_nne {x y : Nat} (pc' : Nat) (hi : mAt t pc = some (len, 21, a, b, 1, ts)) (hp : pc + len = pc') (hx : x < 2 ^ 31) (hy : y < 2 ^ 31) (kt : ¬ x = y → mZ d t bc bs Q b L st h nc ns) (kf : x = y → mZ d t bc bs Q pc' L st h nc ns) : mZ d t bc bs Q pc L (.int (nI y) :: .int (nI x) :: st) h nc ns :=
  z_cne pc' hi hp (fun hc => kt (by rw [nI_eq hx hy] at hc; omega)) (fun hc => kf (by rw [nI_eq hx hy] at hc; omega))
theorem z_ine {x : Int32} (pc' : Nat) (hi : mAt t pc = some (len, 20, a, b, 1, ts)) (hp : pc + len = pc') (kt : ¬ x = 0 → mZ d t bc bs Q b L st h nc ns) (kf : x = 0 → mZ d t bc bs Q pc' L st h nc ns) : mZ d t bc bs Q pc L (.int x :: st) h nc ns :=
  z_if pc' hi hp (fun hc => kt (by simpa [mCnd] using hc)) (fun hc => kf (by simpa [mCnd] using hc))
theorem z_clt {x y : Int32} (pc' : Nat) (hi : mAt t pc = some (len, 21, a, b, 2, ts)) (hp : pc + len = pc') (kt : x < y → mZ d t bc bs Q b L st h nc ns) (kf : ¬ x < y → mZ d t bc bs Q pc' L st h nc ns) : mZ d t bc bs Q pc L (.int y :: .int x :: st) h nc ns :=
  z_icmp pc' hi hp (fun hc => kt (by simpa [mCnd] using hc)) (fun hc => kf (by simpa [mCnd] using hc))
theorem z_nlt {x y : Nat} (pc' : Nat) (hi : mAt t pc = some (len, 21, a, b, 2, ts)) (hp : pc + len = pc') (hx : x < 2 ^ 31) (hy : y < 2 ^ 31) (kt : x < y → mZ d t bc bs Q b L st h nc ns) (kf : y ≤ x → mZ d t bc bs Q pc' L st h nc ns) : mZ d t bc bs Q pc L (.int (nI y) :: .int (nI x) :: st) h nc ns :=
  z_clt pc' hi hp (fun hc => kt (by rw [nI_ltI hx hy] at hc; omega)) (fun hc => kf (by rw [nI_ltI hx hy] at hc; omega))
theorem z_ilt {x : Int32} (pc' : Nat) (hi : mAt t pc = some (len, 20, a, b, 2, ts)) (hp : pc + len = pc') (kt : x < 0 → mZ d t bc bs Q b L st h nc ns) (kf : ¬ x < 0 → mZ d t bc bs Q pc' L st h nc ns) : mZ d t bc bs Q pc L (.int x :: st) h nc ns :=
  z_if pc' hi hp (fun hc => kt (by simpa [mCnd] using hc)) (fun hc => kf (by simpa [mCnd] using hc))
theorem z_cge {x y : Int32} (pc' : Nat) (hi : mAt t pc = some (len, 21, a, b, 3, ts)) (hp : pc + len = pc') (kt : y ≤ x → mZ d t bc bs Q b L st h nc ns) (kf : ¬ y ≤ x → mZ d t bc bs Q pc' L st h nc ns) : mZ d t bc bs Q pc L (.int y :: .int x :: st) h nc ns :=
  z_icmp pc' hi hp (fun hc => kt (by simpa [mCnd] using hc)) (fun hc => kf (by simpa [mCnd] using hc))
theorem z_nge {x y : Nat} (pc' : Nat) (hi : mAt t pc = some (len, 21, a, b, 3, ts)) (hp : pc + len = pc') (hx : x < 2 ^ 31) (hy : y < 2 ^ 31) (kt : y ≤ x → mZ d t bc bs Q b L st h nc ns) (kf : x < y → mZ d t bc bs Q pc' L st h nc ns) : mZ d t bc bs Q pc L (.int (nI y) :: .int (nI x) :: st) h nc ns :=
  z_cge pc' hi hp (fun hc => kt (by rw [nI_leI hy hx] at hc; omega)) (fun hc => kf (by rw [nI_leI hy hx] at hc; omega))
theorem z_ige {x : Int32} (pc' : Nat) (hi : mAt t pc = some (len, 20, a, b, 3, ts)) (hp : pc + len = pc') (kt : 0 ≤ x → mZ d t bc bs Q b L st h nc ns) (kf : ¬ 0 ≤ x → mZ d t bc bs Q pc' L st h nc ns) : mZ d t bc bs Q pc L (.int x :: st) h nc ns :=
  z_if pc' hi hp (fun hc => kt (by simpa [mCnd] using hc)) (fun hc => kf (by simpa [mCnd] using hc))
theorem z_cgt {x y : Int32} (pc' : Nat) (hi : mAt t pc = some (len, 21, a, b, 4, ts)) (hp : pc + len = pc') (kt : y < x → mZ d t bc bs Q b L st h nc ns) (kf : ¬ y < x → mZ d t bc bs Q pc' L st h nc ns) : mZ d t bc bs Q pc L (.int y :: .int x :: st) h nc ns :=
  z_icmp pc' hi hp (fun hc => kt (by simpa [mCnd] using hc)) (fun hc => kf (by simpa [mCnd] using hc))
theorem z_ngt {x y : Nat} (pc' : Nat) (hi : mAt t pc = some (len, 21, a, b, 4, ts)) (hp : pc + len = pc') (hx : x < 2 ^ 31) (hy : y < 2 ^ 31) (kt : y < x → mZ d t bc bs Q b L st h nc ns) (kf : x ≤ y → mZ d t bc bs Q pc' L st h nc ns) : mZ d t bc bs Q pc L (.int (nI y) :: .int (nI x) :: st) h nc ns :=
  z_cgt pc' hi hp (fun hc => kt (by rw [nI_ltI hy hx] at hc; omega)) (fun hc => kf (by rw [nI_ltI hy hx] at hc; omega))
theorem z_igt {x : Int32} (pc' : Nat) (hi : mAt t pc = some (len, 20, a, b, 4, ts)) (hp : pc + len = pc') (kt : 0 < x → mZ d t bc bs Q b L st h nc ns) (kf : ¬ 0 < x → mZ d t bc bs Q pc' L st h nc ns) : mZ d t bc bs Q pc L (.int x :: st) h nc ns :=
  z_if pc' hi hp (fun hc => kt (by simpa [mCnd] using hc)) (fun hc => kf (by simpa [mCnd] using hc))
theorem z_cle {x y : Int32} (pc' : Nat) (hi : mAt t pc = some (len, 21, a, b, 5, ts)) (hp : pc + len = pc') (kt : x ≤ y → mZ d t bc bs Q b L st h nc ns) (kf : ¬ x ≤ y → mZ d t bc bs Q pc' L st h nc ns) : mZ d t bc bs Q pc L (.int y :: .int x :: st) h nc ns :=
  z_icmp pc' hi hp (fun hc => kt (by simpa [mCnd] using hc)) (fun hc => kf (by simpa [mCnd] using hc))
theorem z_nle {x y : Nat} (pc' : Nat) (hi : mAt t pc = some (len, 21, a, b, 5, ts)) (hp : pc + len = pc') (hx : x < 2 ^ 31) (hy : y < 2 ^ 31) (kt : x ≤ y → mZ d t bc bs Q b L st h nc ns) (kf : y < x → mZ d t bc bs Q pc' L st h nc ns) : mZ d t bc bs Q pc L (.int (nI y) :: .int (nI x) :: st) h nc ns :=
  z_cle pc' hi hp (fun hc => kt (by rw [nI_leI hx hy] at hc; omega)) (fun hc => kf (by rw [nI_leI hx hy] at hc; omega))
theorem z_ile {x : Int32} (pc' : Nat) (hi : mAt t pc = some (len, 20, a, b, 5, ts)) (hp : pc + len = pc') (kt : x ≤ 0 → mZ d t bc bs Q b L st h nc ns) (kf : ¬ x ≤ 0 → mZ d t bc bs Q pc' L st h nc ns) : mZ d t bc bs Q pc L (.int x :: st) h nc ns :=
  z_if pc' hi hp (fun hc => kt (by simpa [mCnd] using hc)) (fun hc => kf (by simpa [mCnd] using hc))
theorem z_zeq {x : Nat} (pc' : Nat) (hi : mAt t pc = some (len, 20, a, b, 0, ts)) (hp : pc + len = pc') (hx : x < 2 ^ 31) (kt : x = 0 → mZ d t bc bs Q b L st h nc ns) (kf : ¬ x = 0 → mZ d t bc bs Q pc' L st h nc ns) : mZ d t bc bs Q pc L (.int (nI x) :: st) h nc ns :=
  z_ieq pc' hi hp (fun hc => kt (by rw [← nI_0, nI_eq hx (by decide : 0 < 2 ^ 31)] at hc; omega)) (fun hc => kf (by rw [← nI_0, nI_eq hx (by decide : 0 < 2 ^ 31)] at hc; omega))
theorem z_zne {x : Nat} (pc' : Nat) (hi : mAt t pc = some (len, 20, a, b, 1, ts)) (hp : pc + len = pc') (hx : x < 2 ^ 31) (kt : ¬ x = 0 → mZ d t bc bs Q b L st h nc ns) (kf : x = 0 → mZ d t bc bs Q pc' L st h nc ns) : mZ d t bc bs Q pc L (.int (nI x) :: st) h nc ns :=
  z_ine pc' hi hp (fun hc => kt (by rw [← nI_0, nI_eq hx (by decide : 0 < 2 ^ 31)] at hc; omega)) (fun hc => kf (by rw [← nI_0, nI_eq hx (by decide : 0 < 2 ^ 31)] at hc; omega))
theorem z_zlt {x : Nat} (pc' : Nat) (hi : mAt t pc = some (len, 20, a, b, 2, ts)) (hp : pc + len = pc') (hx : x < 2 ^ 31) (kt : x < 0 → mZ d t bc bs Q b L st h nc ns) (kf : 0 ≤ x → mZ d t bc bs Q pc' L st h nc ns) : mZ d t bc bs Q pc L (.int (nI x) :: st) h nc ns :=
  z_ilt pc' hi hp (fun hc => kt (by rw [← nI_0, nI_ltI hx (by decide : 0 < 2 ^ 31)] at hc; omega)) (fun hc => kf (by rw [← nI_0, nI_ltI hx (by decide : 0 < 2 ^ 31)] at hc; omega))
theorem z_zge {x : Nat} (pc' : Nat) (hi : mAt t pc = some (len, 20, a, b, 3, ts)) (hp : pc + len = pc') (hx : x < 2 ^ 31) (kt : 0 ≤ x → mZ d t bc bs Q b L st h nc ns) (kf : x < 0 → mZ d t bc bs Q pc' L st h nc ns) : mZ d t bc bs Q pc L (.int (nI x) :: st) h nc ns :=
  z_ige pc' hi hp (fun hc => kt (by rw [← nI_0, nI_leI (by decide : 0 < 2 ^ 31) hx] at hc; omega)) (fun hc => kf (by rw [← nI_0, nI_leI (by decide : 0 < 2 ^ 31) hx] at hc; omega))
theorem z_zgt {x : Nat} (pc' : Nat) (hi : mAt t pc = some (len, 20, a, b, 4, ts)) (hp : pc + len = pc') (hx : x < 2 ^ 31) (kt : 0 < x → mZ d t bc bs Q b L st h nc ns) (kf : x = 0 → mZ d t bc bs Q pc' L st h nc ns) : mZ d t bc bs Q pc L (.int (nI x) :: st) h nc ns :=
  z_igt pc' hi hp (fun hc => kt (by rw [← nI_0, nI_ltI (by decide : 0 < 2 ^ 31) hx] at hc; omega)) (fun hc => kf (by rw [← nI_0, nI_ltI (by decide : 0 < 2 ^ 31) hx] at hc; omega))
theorem z_zle {x : Nat} (pc' : Nat) (hi : mAt t pc = some (len, 20, a, b, 5, ts)) (hp : pc + len = pc') (hx : x < 2 ^ 31) (kt : x = 0 → mZ d t bc bs Q b L st h nc ns) (kf : 0 < x → mZ d t bc bs Q pc' L st h nc ns) : mZ d t bc bs Q pc L (.int (nI x) :: st) h nc ns :=
  z_ile pc' hi hp (fun hc => kt (by rw [← nI_0, nI_leI hx (by decide : 0 < 2 ^ 31)] at hc; omega)) (fun hc => kf (by rw [← nI_0, nI_leI hx (by decide : 0 < 2 ^ 31)] at hc; omega))
theorem z_beq {p : Bool} (pc' : Nat) (hi : mAt t pc = some (len, 20, a, b, 0, ts)) (hp : pc + len = pc') (kt : p = false → mZ d t bc bs Q b L st h nc ns) (kf : p = true → mZ d t bc bs Q pc' L st h nc ns) : mZ d t bc bs Q pc L (.int (bI p) :: st) h nc ns :=
  z_ieq pc' hi hp (fun hc => kt (by cases p <;> simp [bI] at hc ⊢)) (fun hc => kf (by cases p <;> simp [bI] at hc ⊢))
theorem z_bne {p : Bool} (pc' : Nat) (hi : mAt t pc = some (len, 20, a, b, 1, ts)) (hp : pc + len = pc') (kt : p = true → mZ d t bc bs Q b L st h nc ns) (kf : p = false → mZ d t bc bs Q pc' L st h nc ns) : mZ d t bc bs Q pc L (.int (bI p) :: st) h nc ns :=
  z_ine pc' hi hp (fun hc => kt (by cases p <;> simp [bI] at hc ⊢)) (fun hc => kf (by cases p <;> simp [bI] at hc ⊢))
end ZC
