/-! Places: indexes as numbers, the shape's cells by number -/
theorem pm_nat {x : Int32} (h : 0 ≤ x) : x = nI x.toNatClampNeg := by
  obtain ⟨j, hj, rfl⟩ := nI_of (x := x) (Int32.not_lt.mpr h)
  rw [nI_clamp hj]
theorem pm_lt {x M : Int32} {N : Nat} (h0 : 0 ≤ x) (h : x ≤ M) (hM : M.toInt < (N : Int)) : x.toNatClampNeg < N := by
  have h1 := Int32.le_iff_toInt_le.mp h0
  have h2 := Int32.le_iff_toInt_le.mp h
  rw [Int32.toInt_zero] at h1
  show x.toInt.toNat < N
  omega
theorem shB : ∀ b, b < 6 → SHP[4 + 2 * b]? = some (.inr (.inr (1, [.inr (some (5 + 2 * b))]))) := by
  intro b hb
  rcases (show b = 0 ∨ b = 1 ∨ b = 2 ∨ b = 3 ∨ b = 4 ∨ b = 5 by omega) with rfl | rfl | rfl | rfl | rfl | rfl <;> rfl
theorem shP : ∀ b, b < 6 → SHP[5 + 2 * b]? = some (.inl (0, 9)) := by
  intro b hb
  rcases (show b = 0 ∨ b = 1 ∨ b = 2 ∨ b = 3 ∨ b = 4 ∨ b = 5 by omega) with rfl | rfl | rfl | rfl | rfl | rfl <;> rfl
theorem shBk : ∀ b, b < 6 → SHP[19 + 2 * b]? = some (.inr (.inr (1, [.inr (some (20 + 2 * b))]))) := by
  intro b hb
  rcases (show b = 0 ∨ b = 1 ∨ b = 2 ∨ b = 3 ∨ b = 4 ∨ b = 5 by omega) with rfl | rfl | rfl | rfl | rfl | rfl <;> rfl
theorem shPk : ∀ b, b < 6 → SHP[20 + 2 * b]? = some (.inl (0, 9)) := by
  intro b hb
  rcases (show b = 0 ∨ b = 1 ∨ b = 2 ∨ b = 3 ∨ b = 4 ∨ b = 5 by omega) with rfl | rfl | rfl | rfl | rfl | rfl <;> rfl
theorem shBt : ∀ b, b < 6 → SHP[34 + 2 * b]? = some (.inr (.inr (1, [.inr (some (35 + 2 * b))]))) := by
  intro b hb
  rcases (show b = 0 ∨ b = 1 ∨ b = 2 ∨ b = 3 ∨ b = 4 ∨ b = 5 by omega) with rfl | rfl | rfl | rfl | rfl | rfl <;> rfl
theorem shPt : ∀ b, b < 6 → SHP[35 + 2 * b]? = some (.inl (0, 9)) := by
  intro b hb
  rcases (show b = 0 ∨ b = 1 ∨ b = 2 ∨ b = 3 ∨ b = 4 ∨ b = 5 by omega) with rfl | rfl | rfl | rfl | rfl | rfl <;> rfl
theorem shH : ∀ b, b < 6 → SHP[52 + b]? = some (.inl (0, 49)) := by
  intro b hb
  rcases (show b = 0 ∨ b = 1 ∨ b = 2 ∨ b = 3 ∨ b = 4 ∨ b = 5 by omega) with rfl | rfl | rfl | rfl | rfl | rfl <;> rfl
theorem shG : ∀ b, b < 6 → SHP[59 + b]? = some (.inl (0, 49)) := by
  intro b hb
  rcases (show b = 0 ∨ b = 1 ∨ b = 2 ∨ b = 3 ∨ b = 4 ∨ b = 5 by omega) with rfl | rfl | rfl | rfl | rfl | rfl <;> rfl
theorem shR : ∀ i, i < 20 → SHP[66 + i]? = some (.inl (0, 3)) := by
  intro i hb
  rcases (show i = 0 ∨ i = 1 ∨ i = 2 ∨ i = 3 ∨ i = 4 ∨ i = 5 ∨ i = 6 ∨ i = 7 ∨ i = 8 ∨ i = 9 ∨ i = 10 ∨ i = 11 ∨ i = 12 ∨ i = 13 ∨ i = 14 ∨ i = 15 ∨ i = 16 ∨ i = 17 ∨ i = 18 ∨ i = 19 by omega) with rfl | rfl | rfl | rfl | rfl | rfl | rfl | rfl | rfl | rfl | rfl | rfl | rfl | rfl | rfl | rfl | rfl | rfl | rfl | rfl <;> rfl
theorem shT : ∀ i, i < 4 → SHP[90 + 2 * i]? = some (.inr (.inr (2, [.inr (some (91 + 2 * i)), .inl 0, .inl 0]))) := by
  intro i hb
  rcases (show i = 0 ∨ i = 1 ∨ i = 2 ∨ i = 3 by omega) with rfl | rfl | rfl | rfl <;> rfl
theorem shI : ∀ i, i < 4 → SHP[91 + 2 * i]? = some (.inl (0, 40)) := by
  intro i hb
  rcases (show i = 0 ∨ i = 1 ∨ i = 2 ∨ i = 3 by omega) with rfl | rfl | rfl | rfl <;> rfl
theorem shS : ∀ i, i < 4 → SHP[98 + i]? = some (.inr (.inr (3, [.inl 0, .inl 0, .inl 0, .inl 0]))) := by
  intro i hb
  rcases (show i = 0 ∨ i = 1 ∨ i = 2 ∨ i = 3 by omega) with rfl | rfl | rfl | rfl <;> rfl
theorem rsB : ∀ b, b < 6 → ([some 4, some 6, some 8, some 10, some 12, some 14] : List (Option Nat))[b]? = some (some (4 + 2 * b)) := by decide +kernel
theorem rsBk : ∀ b, b < 6 → ([some 19, some 21, some 23, some 25, some 27, some 29] : List (Option Nat))[b]? = some (some (19 + 2 * b)) := by decide +kernel
theorem rsBt : ∀ b, b < 6 → ([some 34, some 36, some 38, some 40, some 42, some 44] : List (Option Nat))[b]? = some (some (34 + 2 * b)) := by decide +kernel
theorem rsH : ∀ b, b < 6 → ([some 52, some 53, some 54, some 55, some 56, some 57] : List (Option Nat))[b]? = some (some (52 + b)) := by decide +kernel
theorem rsG : ∀ b, b < 6 → ([some 59, some 60, some 61, some 62, some 63, some 64] : List (Option Nat))[b]? = some (some (59 + b)) := by decide +kernel
theorem rsR : ∀ i, i < 20 → ([some 66, some 67, some 68, some 69, some 70, some 71, some 72, some 73, some 74, some 75, some 76, some 77, some 78, some 79, some 80, some 81, some 82, some 83, some 84, some 85] : List (Option Nat))[i]? = some (some (66 + i)) := by decide +kernel
theorem rsT : ∀ i, i < 4 → ([some 90, some 92, some 94, some 96] : List (Option Nat))[i]? = some (some (90 + 2 * i)) := by decide +kernel
theorem rsS : ∀ i, i < 4 → ([some 98, some 99, some 100, some 101] : List (Option Nat))[i]? = some (some (98 + i)) := by decide +kernel
theorem pm_Dq {r r2 : Option Value} {sh sh2 : List pm_S} {I I2 : pm_I} {J J2 : pm_J} (h : pm_D r sh I J r2 sh2 I2 J2) : r = r2 ∧ sh = sh2 ∧ I = I2 ∧ J = J2 := ⟨h.1.symm, h.2.1.symm, h.2.2.1.symm, h.2.2.2.symm⟩
