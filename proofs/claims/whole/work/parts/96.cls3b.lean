/-! masks -/
theorem and192 : ∀ b, b < 256 → mBop 3 (nI b) (nI 192) = nI (b / 64 * 64) := by decide +kernel
theorem andL : ∀ b, b < 256 → ∀ n, n < 5 → mBop 3 (nI b) (mBop 7 (nI 127) (nI n)) = nI (b % 2 ^ (7 - n)) := by decide +kernel

