/-! what one tick does, as the law sees it -/
def TK (a b : AS) (c : Cm) (r : List Cm) (st dn : Bool) : Prop :=
  (st = true ↔ (¬ c.1 = 3 ∧ (a.1 15 = 1 ↔ c.1 = 2))) ∧ tL b = tL a - 1 ∧ (b.1 17 = a.1 17 + (if st = true ∧ c.1 = 1 then 1 else 0)) ∧ (b.1 18 = a.1 18 + (if st = true ∧ c.1 = 2 then 1 else 0)) ∧ (kM a ≤ kM b ∧ kM b ≤ kM a + 1) ∧ (aQ b = if dn = true then r else c :: r) ∧
  (st = true → b.1 15 = a.1 15 ∧ aI b (a.1 16).toNat = aI a (a.1 16).toNat - (if c.1 = 2 then 1 else 0) ∧ (¬ c.1 = 2 → kM b = kM a) ∧ b.1 16 = a.1 16) ∧
  (st = false → pL b = pL a ∧ aI b (a.1 16).toNat = aI a (a.1 16).toNat ∧ (b.1 15 = a.1 15 ∨ (a.1 15 = 1 ↔ ¬ c.1 = 2)) ∧ (b.1 16 = a.1 16 ∨ (dn = true ∧ c.1 = 3 ∧ a.1 15 = 0))) ∧
  (dn = true → (c.1 = 3 ∧ st = false ∧ b.1 16 = c.2.1) ∨ st = true) ∧ (b.1 7 = a.1 7 ∧ b.1 9 = a.1 9 ∧ b.1 10 = a.1 10 ∧ aL b = aL a) ∧
  (if dn = true then b.1 13 = 0 ∧ b.1 11 = a.1 11 + cdx c ∧ b.1 12 = a.1 12 + cdy c else b.1 13 = a.1 13 + (if st = true then 1 else 0) ∧ b.1 11 = a.1 11 ∧ b.1 12 = a.1 12)
theorem tl_cons {d : Bool} {c : Cm} {r : List Cm} : tl d (c :: r) = (if d = decide (c.1 = 2) then 0 else 2) + (if c.1 = 3 then 3 else cn c) + tl (decide (c.1 = 2)) r := rfl
theorem tl_same {d : Bool} {c : Cm} {r : List Cm} (h : d = decide (c.1 = 2)) : tl d (c :: r) = (if c.1 = 3 then 3 else cn c) + tl (decide (c.1 = 2)) r := by
  rw [tl_cons, if_pos h, Int.zero_add]
theorem tl_diff {d : Bool} {c : Cm} {r : List Cm} (h : ¬ d = decide (c.1 = 2)) : tl d (c :: r) = 2 + (if c.1 = 3 then 3 else cn c) + tl (decide (c.1 = 2)) r := by
  rw [tl_cons, if_neg h]
theorem kM_up {f : Nat → Bool} {z : Nat} : ((cnt f 10000 : Nat) : Int) ≤ ((cnt (va_up f z true) 10000 : Nat) : Int) ∧ ((cnt (va_up f z true) 10000 : Nat) : Int) ≤ ((cnt f 10000 : Nat) : Int) + 1 := by
  rw [cnt_up]
  split <;> omega
theorem tk_14 {a : AS} {c : Cm} {r : List Cm} (hq : aQ a = c :: r) (hs : ¬ (¬ c.1 = 3 ∧ (a.1 15 = 1 ↔ c.1 = 2))) : TK a (aSet 14 (a.1 14 + 1) a) c r false false := by
  refine ⟨⟨fun h => absurd h (by decide), fun h => absurd h hs⟩, ?_, ?_, ?_, ⟨Int.le_refl _, ?_⟩, ?_, fun h => absurd h (by decide), fun _ => ⟨rfl, rfl, Or.inl rfl, Or.inl rfl⟩, fun h => absurd h (by decide), ⟨rfl, rfl, rfl, rfl⟩, ?_⟩
  · show tl (decide (a.1 15 = 1)) (aQ a) - a.1 13 - (a.1 14 + 1) = tl (decide (a.1 15 = 1)) (aQ a) - a.1 13 - a.1 14 - 1
    omega
  · show a.1 17 = a.1 17 + (if false = true ∧ c.1 = 1 then 1 else 0)
    rw [if_neg (fun h => absurd h.1 (by decide)), Int.add_zero]
  · show a.1 18 = a.1 18 + (if false = true ∧ c.1 = 2 then 1 else 0)
    rw [if_neg (fun h => absurd h.1 (by decide)), Int.add_zero]
  · show kM a ≤ kM a + 1
    omega
  · rw [if_neg (by decide)]; exact hq
  · rw [if_neg (by decide), if_neg (by decide), Int.add_zero]
    exact ⟨rfl, rfl, rfl⟩
theorem tk_down {a : AS} {c : Cm} {r : List Cm} (hq : aQ a = c :: r) (h15 : a.1 15 = 0) (hc : c.1 = 2) (h14 : a.1 14 = 1) : TK a (aMark (aSet 15 1 (aSet 14 0 a))) c r false false := by
  refine ⟨⟨fun h => absurd h (by decide), fun h => by omega⟩, ?_, ?_, ?_, kM_up, ?_, fun h => absurd h (by decide), fun _ => ⟨rfl, rfl, Or.inr (by omega), Or.inl rfl⟩, fun h => absurd h (by decide), ⟨rfl, rfl, rfl, rfl⟩, ?_⟩
  · show tl (decide ((1 : Int) = 1)) (aQ a) - a.1 13 - 0 = tl (decide (a.1 15 = 1)) (aQ a) - a.1 13 - a.1 14 - 1
    rw [h14, h15, hq, tl_same (d := decide ((1 : Int) = 1)) (by rw [hc]; decide), tl_diff (d := decide ((0 : Int) = 1)) (by rw [hc]; decide)]
    omega
  · show a.1 17 = a.1 17 + (if false = true ∧ c.1 = 1 then 1 else 0)
    rw [if_neg (fun h => absurd h.1 (by decide)), Int.add_zero]
  · show a.1 18 = a.1 18 + (if false = true ∧ c.1 = 2 then 1 else 0)
    rw [if_neg (fun h => absurd h.1 (by decide)), Int.add_zero]
  · rw [if_neg (by decide)]; exact hq
  · rw [if_neg (by decide), if_neg (by decide), Int.add_zero]
    exact ⟨rfl, rfl, rfl⟩
theorem tk_lift {a : AS} {c : Cm} {r : List Cm} (hq : aQ a = c :: r) (h15 : a.1 15 = 1) (hc : ¬ c.1 = 2) (h14 : a.1 14 = 1) : TK a (aSet 15 0 (aSet 14 0 a)) c r false false := by
  refine ⟨⟨fun h => absurd h (by decide), fun h => by omega⟩, ?_, ?_, ?_, ⟨Int.le_refl _, ?_⟩, ?_, fun h => absurd h (by decide), fun _ => ⟨rfl, rfl, Or.inr (by omega), Or.inl rfl⟩, fun h => absurd h (by decide), ⟨rfl, rfl, rfl, rfl⟩, ?_⟩
  · show tl (decide ((0 : Int) = 1)) (aQ a) - a.1 13 - 0 = tl (decide (a.1 15 = 1)) (aQ a) - a.1 13 - a.1 14 - 1
    rw [h14, h15, hq, tl_same (d := decide ((0 : Int) = 1)) (by rw [decide_eq_false hc]; decide), tl_diff (d := decide ((1 : Int) = 1)) (by rw [decide_eq_false hc]; decide)]
    omega
  · show a.1 17 = a.1 17 + (if false = true ∧ c.1 = 1 then 1 else 0)
    rw [if_neg (fun h => absurd h.1 (by decide)), Int.add_zero]
  · show a.1 18 = a.1 18 + (if false = true ∧ c.1 = 2 then 1 else 0)
    rw [if_neg (fun h => absurd h.1 (by decide)), Int.add_zero]
  · show kM a ≤ kM a + 1
    omega
  · rw [if_neg (by decide)]; exact hq
  · rw [if_neg (by decide), if_neg (by decide), Int.add_zero]
    exact ⟨rfl, rfl, rfl⟩
theorem pL_ccl {a : AS} {x y : Int} {q : List Cm} (h : aQ a = q) (hx : a.1 11 = x) (hy : a.1 12 = y) (hk : a.1 13 = 0) : pL a = 100 * y + x := by
  unfold pL
  cases q with
  | nil => rw [carX_nil h, carY_nil h, hx, hy]
  | cons c r => rw [carX_cons h, carY_cons h, hx, hy, hk, Int.mul_zero, Int.mul_zero, Int.zero_tdiv, Int.add_zero, Int.add_zero]
theorem tk_pen {a : AS} {c : Cm} {r : List Cm} (hq : aQ a = c :: r) (h15 : a.1 15 = 0) (hc : c.1 = 3) (h14 : a.1 14 = 2) (h13 : a.1 13 = 0) : TK a (aEnd c (aSet 16 c.2.1 (aSet 14 (a.1 14 + 1) a))) c r false true := by
  have ex : cdx c = 0 := if_pos hc
  have ey : cdy c = 0 := if_pos hc
  have eq : aQ (aEnd c (aSet 16 c.2.1 (aSet 14 (a.1 14 + 1) a))) = r := by show (aQ a).tail = r; rw [hq]; rfl
  refine ⟨⟨fun h => absurd h (by decide), fun h => by omega⟩, ?_, ?_, ?_, ⟨Int.le_refl _, ?_⟩, ?_, fun h => absurd h (by decide), fun _ => ⟨?_, rfl, Or.inl rfl, Or.inr ⟨rfl, hc, h15⟩⟩, fun _ => Or.inl ⟨hc, rfl, rfl⟩, ⟨rfl, rfl, rfl, rfl⟩, ?_⟩
  · unfold tL
    rw [eq]
    show tl (decide (a.1 15 = 1)) r - 0 - 0 = tl (decide (a.1 15 = 1)) (aQ a) - a.1 13 - a.1 14 - 1
    rw [h14, h13, h15, hq, tl_cons, hc, if_pos (by decide), if_pos rfl]
    have : decide ((0 : Int) = 1) = decide ((3 : Int) = 2) := by decide
    rw [this]
    omega
  · show a.1 17 = a.1 17 + (if false = true ∧ c.1 = 1 then 1 else 0)
    rw [if_neg (fun h => absurd h.1 (by decide)), Int.add_zero]
  · show a.1 18 = a.1 18 + (if false = true ∧ c.1 = 2 then 1 else 0)
    rw [if_neg (fun h => absurd h.1 (by decide)), Int.add_zero]
  · show kM a ≤ kM a + 1
    omega
  · rw [if_pos rfl]; exact eq
  · rw [pL_ccl (x := a.1 11 + cdx c) (y := a.1 12 + cdy c) eq rfl rfl rfl, pL_ccl (x := a.1 11) (y := a.1 12) hq rfl rfl h13, ex, ey, Int.add_zero, Int.add_zero]
  · rw [if_pos rfl]
    exact ⟨rfl, rfl, rfl⟩
theorem put_17 {c : Cm} {a : AS} : (aPut c a).1 17 = a.1 17 + (if c.1 = 2 then 0 else 1) := by
  unfold aPut
  split
  · show a.1 17 = _; omega
  · rfl
theorem put_18 {c : Cm} {a : AS} : (aPut c a).1 18 = a.1 18 + (if c.1 = 2 then 1 else 0) := by
  unfold aPut
  split
  · rfl
  · show a.1 18 = _; omega
theorem put_I {c : Cm} {a : AS} : aI (aPut c a) (a.1 16).toNat = aI a (a.1 16).toNat - (if c.1 = 2 then 1 else 0) := by
  unfold aPut
  split
  · exact va_up_self _ _ _
  · show aI a (a.1 16).toNat = _; omega
theorem put_M {c : Cm} {a : AS} : (kM a ≤ kM (aPut c a) ∧ kM (aPut c a) ≤ kM a + 1) ∧ (¬ c.1 = 2 → kM (aPut c a) = kM a) := by
  unfold aPut
  split
  · rename_i h
    exact ⟨kM_up, fun n => absurd h n⟩
  · refine ⟨⟨Int.le_refl _, ?_⟩, fun _ => rfl⟩
    show kM a ≤ kM a + 1
    omega
theorem put_L {c : Cm} {a : AS} : aL (aPut c a) = aL a := by unfold aPut; split <;> rfl
theorem if12 {c : Cm} (h : c.1 = 1 ∨ c.1 = 2) : (if c.1 = 2 then (0 : Int) else 1) = (if true = true ∧ c.1 = 1 then 1 else 0) ∧ (if c.1 = 2 then (1 : Int) else 0) = (if true = true ∧ c.1 = 2 then 1 else 0) := by
  rcases h with h | h <;> rw [h] <;> decide
theorem tk_step {a : AS} {c : Cm} {r : List Cm} (hq : aQ a = c :: r) (hc : c.1 = 1 ∨ c.1 = 2) (h15 : a.1 15 = 1 ↔ c.1 = 2) (h14 : a.1 14 = 0) : TK a (aPut c (aSet 13 (a.1 13 + 1) a)) c r true false := by
  have hM := put_M (c := c) (a := aSet 13 (a.1 13 + 1) a)
  have hI := put_I (c := c) (a := aSet 13 (a.1 13 + 1) a)
  have e17 := put_17 (c := c) (a := aSet 13 (a.1 13 + 1) a)
  have e18 := put_18 (c := c) (a := aSet 13 (a.1 13 + 1) a)
  have ei := if12 hc
  have sc : ∀ k, k < 17 → k ≠ 13 → (aPut c (aSet 13 (a.1 13 + 1) a)).1 k = a.1 k := fun k h1 h2 => by rw [put_sc c _ h1, aSet_ne h2]
  have s13 : (aPut c (aSet 13 (a.1 13 + 1) a)).1 13 = a.1 13 + 1 := by rw [put_sc c _ (by omega), aSet_self]
  refine ⟨⟨fun _ => ⟨by omega, h15⟩, fun _ => rfl⟩, ?_, ?_, ?_, hM.1, ?_, fun _ => ⟨sc 15 (by omega) (by omega), hI, hM.2, sc 16 (by omega) (by omega)⟩, fun h => absurd h (by decide), fun h => absurd h (by decide), ⟨sc 7 (by omega) (by omega), sc 9 (by omega) (by omega), sc 10 (by omega) (by omega), put_L⟩, ?_⟩
  · unfold tL
    rw [put_q, s13, sc 15 (by omega) (by omega), sc 14 (by omega) (by omega)]
    show tl (decide (a.1 15 = 1)) (aQ a) - (a.1 13 + 1) - a.1 14 = _
    omega
  · rw [e17, ei.1]; rfl
  · rw [e18, ei.2]; rfl
  · rw [if_neg (by decide), put_q]; exact hq
  · rw [if_neg (by decide), if_pos rfl]
    exact ⟨s13, sc 11 (by omega) (by omega), sc 12 (by omega) (by omega)⟩
theorem tk_last {a : AS} {c : Cm} {r : List Cm} (hq : aQ a = c :: r) (hc : c.1 = 1 ∨ c.1 = 2) (h15 : a.1 15 = 1 ↔ c.1 = 2) (h14 : a.1 14 = 0) (h13 : a.1 13 + 1 = cn c) : TK a (aEnd c (aPut c (aSet 13 (a.1 13 + 1) a))) c r true true := by
  have hM := put_M (c := c) (a := aSet 13 (a.1 13 + 1) a)
  have hI := put_I (c := c) (a := aSet 13 (a.1 13 + 1) a)
  have e17 := put_17 (c := c) (a := aSet 13 (a.1 13 + 1) a)
  have e18 := put_18 (c := c) (a := aSet 13 (a.1 13 + 1) a)
  have ei := if12 hc
  have sc : ∀ k, k < 17 → k ≠ 13 → (aPut c (aSet 13 (a.1 13 + 1) a)).1 k = a.1 k := fun k h1 h2 => by rw [put_sc c _ h1, aSet_ne h2]
  have eq : aQ (aEnd c (aPut c (aSet 13 (a.1 13 + 1) a))) = r := by
    show (aQ (aPut c (aSet 13 (a.1 13 + 1) a))).tail = r
    rw [put_q, show aQ (aSet 13 (a.1 13 + 1) a) = aQ a from rfl, hq]; rfl
  refine ⟨⟨fun _ => ⟨by omega, h15⟩, fun _ => rfl⟩, ?_, ?_, ?_, hM.1, ?_, fun _ => ⟨sc 15 (by omega) (by omega), hI, hM.2, sc 16 (by omega) (by omega)⟩, fun h => absurd h (by decide), fun _ => Or.inr rfl, ⟨sc 7 (by omega) (by omega), sc 9 (by omega) (by omega), sc 10 (by omega) (by omega), put_L⟩, ?_⟩
  · have e : tL (aEnd c (aPut c (aSet 13 (a.1 13 + 1) a))) = tl (decide (a.1 15 = 1)) r := by
      unfold tL
      rw [eq]
      show tl (decide ((aPut c (aSet 13 (a.1 13 + 1) a)).1 15 = 1)) r - 0 - 0 = _
      rw [sc 15 (by omega) (by omega)]
      omega
    have ed : decide (a.1 15 = 1) = decide (c.1 = 2) := decide_eq_decide.mpr h15
    rw [e]
    unfold tL
    rw [hq, tl_cons, ed, if_pos rfl, if_neg (by omega), h14]
    omega
  · show (aPut c (aSet 13 (a.1 13 + 1) a)).1 17 = _
    rw [e17, ei.1]; rfl
  · show (aPut c (aSet 13 (a.1 13 + 1) a)).1 18 = _
    rw [e18, ei.2]; rfl
  · rw [if_pos rfl]; exact eq
  · rw [if_pos rfl]
    refine ⟨rfl, ?_, ?_⟩
    · show (aPut c (aSet 13 (a.1 13 + 1) a)).1 11 + cdx c = _
      rw [sc 11 (by omega) (by omega)]
    · show (aPut c (aSet 13 (a.1 13 + 1) a)).1 12 + cdy c = _
      rw [sc 12 (by omega) (by omega)]
theorem tk_do {a : AS} {c : Cm} {r : List Cm} (hi : Inv a) (hj : JA a) (hq : aQ a = c :: r) (hl : lacks a = false) : ∃ st dn : Bool, TK a (aDo a) c r st dn := by
  have hp := hi.2.2.1.1
  have h15 := hi.2.2.1.2.1
  have hJ1 := hj.1 c r hq
  rw [hq, prog_cons] at hp
  have hoc := hi.1.1 c (by rw [hq]; exact List.mem_cons_self)
  have hk : c.1 = 3 ∨ (c.1 = 1 ∨ c.1 = 2) := by
    rcases hoc with h | h
    · exact Or.inl h.1
    · exact Or.inr h.1
  have h3n : c.1 = 3 → a.1 13 = 0 := by
    intro e
    have : cn c = 0 := by
      unfold cn
      rw [show cdx c = 0 from if_pos e, show cdy c = 0 from if_pos e]; rfl
    omega
  rw [aDo_cons hq, hl, if_neg (by decide)]
  unfold aDoC
  by_cases ht : a.1 15 = 0 ↔ c.1 = 2
  · rw [if_pos ht]
    unfold aTurn
    by_cases h1 : a.1 14 + 1 < 2
    · rw [if_pos h1]
      exact ⟨false, false, tk_14 hq (by omega)⟩
    · rw [if_neg h1]
      by_cases e : a.1 15 = 0
      · rw [if_pos e]
        exact ⟨false, false, tk_down hq e (by omega) (by omega)⟩
      · rw [if_neg e]
        exact ⟨false, false, tk_lift hq (by omega) (by omega) (by omega)⟩
  · rw [if_neg ht]
    by_cases h3 : c.1 = 3
    · rw [if_pos h3]
      unfold aChg
      by_cases h1 : a.1 14 + 1 < 3
      · rw [if_pos h1]
        exact ⟨false, false, tk_14 hq (by omega)⟩
      · rw [if_neg h1]
        exact ⟨false, true, tk_pen hq (by omega) h3 (by omega) (h3n h3)⟩
    · rw [if_neg h3]
      have h14 := hJ1 h3 (by omega)
      unfold aStp
      by_cases h1 : cn c ≤ a.1 13 + 1
      · rw [if_pos h1]
        exact ⟨true, true, tk_last hq (by omega) (by omega) h14 (by omega)⟩
      · rw [if_neg h1]
        exact ⟨true, false, tk_step hq (by omega) (by omega) h14⟩
