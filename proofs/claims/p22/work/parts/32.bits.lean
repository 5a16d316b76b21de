/-! bits of a paper: of the class (long words) and of the model (int words) -/
theorem bL : ∀ j : Fin 64, ((1 : Int64) <<< ((iI (j.val : Int)).toInt64 &&& 63)).toBitVec = (1#64 <<< j.val) := by decide
theorem bI : ∀ j : Fin 32, ((1 : Int32) <<< ((iI (j.val : Int)) &&& 31)).toBitVec = (1#32 <<< j.val) := by decide
theorem bS : ∀ j : Fin 32, ((iI (j.val : Int) &&& 31).toBitVec.smod 32).toNat = j.val := by decide
theorem bL_get {c : Nat} (i : Nat) (h : i < 64) : ((1 : Int64) <<< ((iI ((c % 64 : Nat) : Int)).toInt64 &&& 63)).toBitVec.getLsbD i = decide (i = c % 64) := by
  have h2 : c % 64 < 64 := Nat.mod_lt _ (by omega)
  rw [bL ⟨c % 64, h2⟩]
  simp only [BitVec.getLsbD_shiftLeft, BitVec.getLsbD_one]
  by_cases e : i = c % 64
  · simp [e, h2]
  · have : ¬ (c % 64 ≤ i ∧ i - c % 64 = 0) := by omega
    simp [e, h]
    omega
theorem bI_get {c : Nat} (i : Nat) (h : i < 32) : ((1 : Int32) <<< (iI ((c % 32 : Nat) : Int) &&& 31)).toBitVec.getLsbD i = decide (i = c % 32) := by
  have h2 : c % 32 < 32 := Nat.mod_lt _ (by omega)
  rw [bI ⟨c % 32, h2⟩]
  simp only [BitVec.getLsbD_shiftLeft, BitVec.getLsbD_one]
  by_cases e : i = c % 32
  · simp [e, h2]
  · simp [e, h]
    omega
def PRx (b : Nat → Bool) (w : Nat → Int64) (k : Int32) : Prop := (∀ i j, i < 157 → j < 64 → (w i).toBitVec.getLsbD j = b (64 * i + j)) ∧ k = iI (cnt b 10000 : Int)
def PRm (b : Nat → Bool) (w : Nat → Int32) : Prop := ∀ i j, i < 320 → j < 32 → (w i).toBitVec.getLsbD j = b (32 * i + j)
theorem PRx_get {b : Nat → Bool} {w : Nat → Int64} {k : Int32} (h : PRx b w k) {c : Nat} (hc : c < 10000) : (lg_cmp ((w (c / 64)) &&& ((1 : Int64) <<< ((iI ((c % 64 : Nat) : Int)).toInt64 &&& 63))) 0 = 0) ↔ b c = false := by
  have h1 : (lg_cmp ((w (c / 64)) &&& ((1 : Int64) <<< ((iI ((c % 64 : Nat) : Int)).toInt64 &&& 63))) 0 = 0) ↔ ((w (c / 64)) &&& ((1 : Int64) <<< ((iI ((c % 64 : Nat) : Int)).toInt64 &&& 63))) = 0 := by
    unfold lg_cmp
    split
    · rename_i hl
      constructor
      · intro e; exact absurd e (by decide)
      · intro e; rw [e] at hl; exact absurd hl (by decide)
    · split
      · rename_i hl hr
        exact ⟨fun _ => hr, fun _ => rfl⟩
      · rename_i hl hr
        exact ⟨fun e => absurd e (by decide), fun e => absurd e hr⟩
  rw [h1]
  have hb := h.1 (c / 64) (c % 64) (by omega) (Nat.mod_lt _ (by omega))
  rw [show 64 * (c / 64) + c % 64 = c by omega] at hb
  constructor
  · intro e
    have e2 : ((w (c / 64)) &&& ((1 : Int64) <<< ((iI ((c % 64 : Nat) : Int)).toInt64 &&& 63))).toBitVec.getLsbD (c % 64) = false := by rw [e]; simp
    rw [Int64.toBitVec_and, BitVec.getLsbD_and, bL_get _ (Nat.mod_lt _ (by omega)), hb] at e2
    simpa using e2
  · intro e
    apply Int64.toBitVec_inj.mp
    apply BitVec.eq_of_getLsbD_eq
    intro i hi
    rw [Int64.toBitVec_and, BitVec.getLsbD_and, bL_get _ hi]
    by_cases e2 : i = c % 64
    · rw [e2, hb, e]; simp
    · simp [e2]
theorem PRx_set {b : Nat → Bool} {w : Nat → Int64} {k : Int32} (h : PRx b w k) {c : Nat} (hc : c < 10000) (hb : b c = false) : PRx (va_up b c true) (vp_updL w (c / 64) ((w (c / 64)) ||| ((1 : Int64) <<< ((iI ((c % 64 : Nat) : Int)).toInt64 &&& 63)))) (k + 1) := by
  refine ⟨fun i j hi hj => ?_, ?_⟩
  · by_cases e : i = c / 64
    · subst e
      rw [pk_uLs, Int64.toBitVec_or, BitVec.getLsbD_or, bL_get _ hj, h.1 _ _ hi hj]
      by_cases e2 : j = c % 64
      · rw [show 64 * (c / 64) + j = c by omega, va_up_self]; simp [e2]
      · rw [va_up_ne _ _ (show 64 * (c / 64) + j ≠ c by omega)]; simp [e2]
    · rw [pk_uLn e, h.1 _ _ hi hj, va_up_ne _ _ (show 64 * i + j ≠ c by omega)]
  · rw [h.2, l1, iI_add, cnt_up, if_pos ⟨hc, hb⟩]
    rfl
theorem PRx_noop {b : Nat → Bool} {c : Nat} (hb : b c = true) : va_up b c true = b := by
  funext j
  by_cases e : j = c
  · rw [e, va_up_self, hb]
  · rw [va_up_ne _ _ e]
theorem PRm_set {b : Nat → Bool} {w : Nat → Int32} (h : PRm b w) {c : Nat} (hc : c < 10000) : PRm (va_up b c true) (upd w (c / 32) ((w (c / 32)) ||| ((1 : Int32) <<< (iI ((c % 32 : Nat) : Int) &&& 31)))) := by
  intro i j hi hj
  by_cases e : i = c / 32
  · subst e
    rw [show upd w (c / 32) ((w (c / 32)) ||| ((1 : Int32) <<< (iI ((c % 32 : Nat) : Int) &&& 31))) (c / 32) = _ from if_pos rfl, Int32.toBitVec_or, BitVec.getLsbD_or, bI_get _ hj, h _ _ hi hj]
    by_cases e2 : j = c % 32
    · rw [show 32 * (c / 32) + j = c by omega, va_up_self]; simp [e2]
    · rw [va_up_ne _ _ (show 32 * (c / 32) + j ≠ c by omega)]; simp [e2]
  · rw [show upd w (c / 32) ((w (c / 32)) ||| ((1 : Int32) <<< (iI ((c % 32 : Nat) : Int) &&& 31))) i = w i from if_neg e, h _ _ hi hj, va_up_ne _ _ (show 32 * i + j ≠ c by omega)]
theorem bit_at (v : Int32) {j : Nat} (hj : j < 32) : ((v >>> (iI (j : Int) &&& 31)) &&& 1) = if v.toBitVec.getLsbD j = true then 1 else 0 := by
  have h0 : ((v >>> (iI (j : Int) &&& 31)) &&& 1).toBitVec = if v.toBitVec.getLsbD j = true then 1#32 else 0#32 := by
    rw [Int32.toBitVec_and, Int32.toBitVec_shiftRight]
    apply BitVec.eq_of_getLsbD_eq
    intro i hi
    rw [BitVec.getLsbD_and, BitVec.sshiftRight', bS ⟨j, hj⟩, BitVec.getLsbD_sshiftRight]
    by_cases e : i = 0
    · subst e
      cases hv : v.toBitVec.getLsbD j <;> simp [hj, hv]
    · have e1 : (1 : Int32).toBitVec.getLsbD i = false := by
        rw [show (1 : Int32).toBitVec = 1#32 from rfl, BitVec.getLsbD_one]; simp [e]
      rw [e1, Bool.and_false]
      split
      · rw [BitVec.getLsbD_one]; simp [e]
      · simp
  apply Int32.toBitVec_inj.mp
  rw [h0]
  split <;> rfl
theorem PRm_get {b : Nat → Bool} {w : Nat → Int32} (h : PRm b w) {c : Nat} (hc : c < 10000) : (((w (c / 32) >>> (iI ((c % 32 : Nat) : Int) &&& 31)) &&& 1) = 1) ↔ b c = true := by
  rw [bit_at _ (Nat.mod_lt _ (by omega)), h _ _ (by omega) (Nat.mod_lt _ (by omega)), show 32 * (c / 32) + c % 32 = c by omega]
  cases b c <;> simp
