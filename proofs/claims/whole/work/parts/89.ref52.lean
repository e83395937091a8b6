/-! the reference: takeEntry, takeShift -/
def nb (bs : List Nat) (i : Nat) : Nat := if i < bs.length then bs.getD i 0 else 255
def txF (bs : List Nat) (a : Nat) : Nat → Nat
  | 0 => 0
  | k + 1 => txF bs a k * 2 ^ 8 + nb bs (a + k)
theorem nb_b {bs : List Nat} {i : Nat} (hb : ∀ j, bs.getD j 0 < 256) : nb bs i < 256 := by
  unfold nb; split
  · exact hb i
  · decide
theorem txF_b {bs : List Nat} {a : Nat} (hb : ∀ j, bs.getD j 0 < 256) : ∀ k, txF bs a k < 256 ^ k
  | 0 => Nat.zero_lt_one
  | k + 1 => by
    have h1 := txF_b hb (a := a) k
    have h2 := nb_b (i := a + k) hb
    simp only [txF]
    rw [Nat.pow_succ]
    omega
/-- an entry is taken from a place on -/
def teE (E : List En) (bs : List Nat) (i : Nat) : Option En :=
  if i + 1 < bs.length ∧ bs.getD i 0 ≤ 3 ∧ 1 ≤ bs.getD (i + 1) 0 ∧ bs.getD (i + 1) 0 ≤ 3 then
    if i + 2 + bs.getD (i + 1) 0 + 3 < bs.length ∧ bs.getD (i + 2 + bs.getD (i + 1) 0 + 3) 0 ≤ 1 ∧ nPt (txF bs (i + 2 + bs.getD (i + 1) 0) 3) = true ∧ ffd (eQ E (bs.getD i 0) (txF bs (i + 2) (bs.getD (i + 1) 0)) (bs.getD (i + 1) 0)) E.length 0 = none then
      some (bs.getD i 0, txF bs (i + 2) (bs.getD (i + 1) 0), bs.getD (i + 1) 0, txF bs (i + 2 + bs.getD (i + 1) 0) 3, decide (bs.getD (i + 2 + bs.getD (i + 1) 0 + 3) 0 = 1))
    else none
  else none
def tsS (H : List Sh) (bs : List Nat) (i : Nat) : Option Sh :=
  if i + 3 < bs.length ∧ bs.getD i 0 ≤ 3 ∧ bs.getD (i + 2) 0 ≤ 3 ∧ bs.getD i 0 ≠ bs.getD (i + 2) 0 ∧ bs.getD (i + 3) 0 ≤ 1 ∧ ffd (sQ H (bs.getD i 0) (bs.getD (i + 1) 0)) H.length 0 = none then
    some (bs.getD i 0, bs.getD (i + 1) 0, bs.getD (i + 2) 0, decide (bs.getD (i + 3) 0 = 1))
  else none
/-- a new page is being filled -/
def Tk (P : Nat) (s s' : rS) : Prop := (∀ c, c ≠ 67 → c ≠ 68 → s'.1 c = s.1 c) ∧ (∀ f, 13 < f → f ≠ 29 → f ≠ 30 → s'.2.2 f = s.2.2 f) ∧ s'.2.2 1 = s.2.2 1 ∧ s'.2.2 2 = s.2.2 2 ∧ ∀ p, p ≠ P → SameTb s s' p
theorem SameTb.refl (s : rS) (p : Nat) : SameTb s s p := by simp [SameTb]
theorem Tk.z {P : Nat} {s : rS} : Tk P s s := ⟨fun _ _ _ => rfl, fun _ _ _ _ => rfl, rfl, rfl, fun p _ => SameTb.refl s p⟩
theorem Tk.n {P x : Nat} {s s' : rS} (h : Tk P s s') : Tk P s (stI 67 x s') := ⟨fun c h1 h2 => gI_ne h1 (h.1 c h1 h2), h.2.1, h.2.2.1, h.2.2.2.1, h.2.2.2.2⟩
theorem Tk.trans {P : Nat} {s s1 s2 : rS} (a : Tk P s s1) (b : Tk P s1 s2) : Tk P s s2 := ⟨fun c h1 h2 => (b.1 c h1 h2).trans (a.1 c h1 h2), fun f h1 h2 h3 => (b.2.1 f h1 h2 h3).trans (a.2.1 f h1 h2 h3), b.2.2.1.trans a.2.2.1, b.2.2.2.1.trans a.2.2.2.1, fun p hp => (a.2.2.2.2 p hp).trans (b.2.2.2.2 p hp)⟩
theorem Tk.addE {P k x : Nat} {e : En} {s s' : rS} (h : Tk P s s') (hk : k < 100) : Tk P s (stA 3 P x (stE (100 * P + k) e s')) := by
  refine h.trans ⟨fun _ _ _ => rfl, fun f h1 _ _ => ?_, ?_, ?_, fun p hp => (same_E (e := e) hp hk).trans ?_⟩
  · rw [gAf (by omega)]; unfold stE; rw [gAf (by omega), gAf (by omega), gAf (by omega), gAf (by omega), gAf (by omega)]
  · rw [gAf (by omega)]; unfold stE; rw [gAf (by omega), gAf (by omega), gAf (by omega), gAf (by omega), gAf (by omega)]
  · rw [gAf (by omega)]; unfold stE; rw [gAf (by omega), gAf (by omega), gAf (by omega), gAf (by omega), gAf (by omega)]
  · unfold SameTb
    rw [gA_nj hp rfl]
    simp only [gAf (show (4 : Nat) ≠ 3 by decide), gAf (show (5 : Nat) ≠ 3 by decide), gAf (show (6 : Nat) ≠ 3 by decide), gAf (show (7 : Nat) ≠ 3 by decide), gAf (show (8 : Nat) ≠ 3 by decide), gAf (show (9 : Nat) ≠ 3 by decide), gAf (show (10 : Nat) ≠ 3 by decide), gAf (show (11 : Nat) ≠ 3 by decide), gAf (show (12 : Nat) ≠ 3 by decide), gAf (show (13 : Nat) ≠ 3 by decide)]
    simp
theorem Tk.addS {P k x : Nat} {e : Sh} {s s' : rS} (h : Tk P s s') (hk : k < 10) : Tk P s (stA 4 P x (stS (10 * P + k) e s')) := by
  refine h.trans ⟨fun _ _ _ => rfl, fun f h1 _ _ => ?_, ?_, ?_, fun p hp => (same_S (e := e) hp hk).trans ?_⟩
  · rw [gAf (by omega)]; unfold stS; rw [gAf (by omega), gAf (by omega), gAf (by omega), gAf (by omega)]
  · rw [gAf (by omega)]; unfold stS; rw [gAf (by omega), gAf (by omega), gAf (by omega), gAf (by omega)]
  · rw [gAf (by omega)]; unfold stS; rw [gAf (by omega), gAf (by omega), gAf (by omega), gAf (by omega)]
  · unfold SameTb
    rw [gA_nj hp rfl]
    simp only [gAf (show (3 : Nat) ≠ 4 by decide), gAf (show (5 : Nat) ≠ 4 by decide), gAf (show (6 : Nat) ≠ 4 by decide), gAf (show (7 : Nat) ≠ 4 by decide), gAf (show (8 : Nat) ≠ 4 by decide), gAf (show (9 : Nat) ≠ 4 by decide), gAf (show (10 : Nat) ≠ 4 by decide), gAf (show (11 : Nat) ≠ 4 by decide), gAf (show (12 : Nat) ≠ 4 by decide), gAf (show (13 : Nat) ≠ 4 by decide)]
    simp
theorem jPoint_nI {a : Nat} (h : a < 2 ^ 31) : jPoint (nI a) = nPt a := by
  unfold jPoint jHalf nPt
  rw [nI_toInt h]
  by_cases h1 : a < 1114112 <;> by_cases h2 : 55296 ≤ a ∧ a ≤ 57343
  · rw [decide_eq_true (p := 0 ≤ (a : Int) ∧ _) (by omega), decide_eq_true (p := (55296 : Int) ≤ _ ∧ _) (by omega), decide_eq_true h1, decide_eq_true h2]
  · rw [decide_eq_true (p := 0 ≤ (a : Int) ∧ _) (by omega), decide_eq_false (p := (55296 : Int) ≤ _ ∧ _) (by omega), decide_eq_true h1, decide_eq_false h2]
  · rw [decide_eq_false (p := 0 ≤ (a : Int) ∧ _) (by omega), decide_eq_true (p := (55296 : Int) ≤ _ ∧ _) (by omega), decide_eq_false h1, decide_eq_true h2]
  · rw [decide_eq_false (p := 0 ≤ (a : Int) ∧ _) (by omega), decide_eq_false (p := (55296 : Int) ≤ _ ∧ _) (by omega), decide_eq_false h1, decide_eq_false h2]
theorem nxV_lt {bs : List Nat} {i : Nat} (h : i < bs.length) : nxV bs i = nI (bs.getD i 0) := if_pos h
theorem nxV_ge {bs : List Nat} {i : Nat} (h : ¬ i < bs.length) : nxV bs i = -1 := if_neg h
theorem nxV_and {bs : List Nat} {i : Nat} (hb : ∀ j, bs.getD j 0 < 256) : mBop 3 (nxV bs i) (nI 255) = nI (nb bs i) := by
  unfold nxV nb
  have h := hb i
  split
  · rw [and_n (by omega) 8 (by decide), Nat.mod_eq_of_lt (by omega)]
  · decide
