/-! whole numbers and the machine's ints -/
abbrev iI (x : Int) : Int32 := Int32.ofInt x
theorem iI_toInt {x : Int} (h1 : -2147483648 ≤ x) (h2 : x < 2147483648) : (iI x).toInt = x := Int32.toInt_ofInt_of_le h1 h2
theorem iI_self (x : Int32) : iI x.toInt = x := Int32.ofInt_toInt x
theorem iI_of (x : Int32) : ∃ p : Int, -2147483648 ≤ p ∧ p < 2147483648 ∧ x = iI p := ⟨x.toInt, Int32.le_toInt x, Int32.toInt_lt x, (iI_self x).symm⟩
theorem iI_lt {x y : Int} (h1 : -2147483648 ≤ x) (h2 : x < 2147483648) (h3 : -2147483648 ≤ y) (h4 : y < 2147483648) : (iI x < iI y) ↔ (x < y) := by
  rw [Int32.lt_iff_toInt_lt, iI_toInt h1 h2, iI_toInt h3 h4]
theorem iI_le {x y : Int} (h1 : -2147483648 ≤ x) (h2 : x < 2147483648) (h3 : -2147483648 ≤ y) (h4 : y < 2147483648) : (iI x ≤ iI y) ↔ (x ≤ y) := by
  rw [Int32.le_iff_toInt_le, iI_toInt h1 h2, iI_toInt h3 h4]
theorem iI_eq {x y : Int} (h1 : -2147483648 ≤ x) (h2 : x < 2147483648) (h3 : -2147483648 ≤ y) (h4 : y < 2147483648) : (iI x = iI y) ↔ (x = y) := by
  rw [← Int32.toInt_inj, iI_toInt h1 h2, iI_toInt h3 h4]
theorem iI_add (x y : Int) : iI x + iI y = iI (x + y) := (Int32.ofInt_add x y).symm
theorem iI_sub (x y : Int) : iI x - iI y = iI (x - y) := (Int32.ofInt_sub x y).symm
theorem iI_mul (x y : Int) : iI x * iI y = iI (x * y) := (Int32.ofInt_mul x y).symm
theorem iI_neg (x : Int) : -iI x = iI (-x) := (Int32.ofInt_neg x).symm
theorem iI_div {x y : Int} (h1 : -2147483648 ≤ x) (h2 : x < 2147483648) (h3 : -2147483648 ≤ y) (h4 : y < 2147483648) : iI x / iI y = iI (x.tdiv y) :=
  (Int32.ofInt_tdiv (by rw [show Int32.minValue.toInt = -2147483648 by decide]; exact h1) (by rw [show Int32.maxValue.toInt = 2147483647 by decide]; omega) (by rw [show Int32.minValue.toInt = -2147483648 by decide]; exact h3) (by rw [show Int32.maxValue.toInt = 2147483647 by decide]; omega)).symm
theorem iI_cl {x : Int} (h1 : -2147483648 ≤ x) (h2 : x < 2147483648) : (iI x).toNatClampNeg = x.toNat := by
  show (iI x).toInt.toNat = _
  rw [iI_toInt h1 h2]
theorem iI_in {x : Int} {n : Nat} (h1 : -2147483648 ≤ x) (h2 : x < 2147483648) : vp_in (iI x) n ↔ (0 ≤ x ∧ x < n) := by
  rw [vp_in_iff, iI_toInt h1 h2]
theorem iI_nat (n : Nat) : Int32.ofNat n = iI (n : Int) := Int32.ofInt_eq_ofNat.symm
theorem iI_nI (n : Nat) : nI n = iI (n : Int) := iI_nat n
theorem iI_inj {x y : Int} (h : x = y) : iI x = iI y := by rw [h]
theorem l0 : (0 : Int32) = iI 0 := by decide
theorem l1 : (1 : Int32) = iI 1 := by decide
theorem l2 : (2 : Int32) = iI 2 := by decide
theorem l3 : (3 : Int32) = iI 3 := by decide
theorem l4 : (4 : Int32) = iI 4 := by decide
theorem l8 : (8 : Int32) = iI 8 := by decide
theorem l9 : (9 : Int32) = iI 9 := by decide
theorem l10 : (10 : Int32) = iI 10 := by decide
theorem l32 : (32 : Int32) = iI 32 := by decide
theorem l64 : (64 : Int32) = iI 64 := by decide
theorem l99 : (99 : Int32) = iI 99 := by decide
theorem l100 : (100 : Int32) = iI 100 := by decide
theorem l127 : (127 : Int32) = iI 127 := by decide
theorem l157 : (157 : Int32) = iI 157 := by decide
theorem l255 : (255 : Int32) = iI 255 := by decide
theorem l256 : (256 : Int32) = iI 256 := by decide
theorem l320 : (320 : Int32) = iI 320 := by decide
theorem l500 : (500 : Int32) = iI 500 := by decide
theorem l1000 : (1000 : Int32) = iI 1000 := by decide
theorem lm1 : (-1 : Int32) = iI (-1) := by decide
theorem iI_if (c : Prop) [Decidable c] (x y : Int) : (if c then iI x else iI y) = iI (if c then x else y) := by split <;> rfl
theorem fun_upd (A : Nat → Int) (k : Nat) (v : Int) : upd (fun j => iI (A j)) k (iI v) = fun j => iI (va_up A k v j) := by
  funext j
  simp only [upd, va_up]
  split <;> rfl
theorem wp_if {c : Prop} {P Q R : Prop} (h : c → P) (h2 : ¬ c → Q) : (c → P) ∧ (¬ c → Q) := ⟨h, h2⟩
theorem if_wp {α : Type} {c : Prop} [Decidable c] (post : α → Prop) (x y : α) : ((c → post x) ∧ (¬ c → post y)) = post (if c then x else y) := by
  by_cases h : c
  · simp [h]
  · simp [h]
def iabs (x : Int) : Int := if 0 ≤ x then x else -x
/-- the number of steps of a motion -/
def nst (u v : Int) : Int := if iabs u < iabs v then iabs v else iabs u
theorem nst_rng {u v : Int} (h1 : -128 ≤ u) (h2 : u ≤ 127) (h3 : -128 ≤ v) (h4 : v ≤ 127) : 0 ≤ nst u v ∧ nst u v ≤ 128 := by
  unfold nst iabs
  split <;> split <;> (try split) <;> omega
theorem nst_pos {u v : Int} (h : ¬ (u = 0 ∧ v = 0)) : 0 < nst u v := by
  unfold nst iabs
  split <;> split <;> (try split) <;> omega
theorem nst_u {u v : Int} : iabs u ≤ nst u v ∧ iabs v ≤ nst u v := by
  unfold nst
  split <;> omega
