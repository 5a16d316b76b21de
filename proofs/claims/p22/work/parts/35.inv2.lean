/-! ticks, cuts and ink keep the invariant -/
def InvN (a : AS) : Prop := InvQ a ∧ ((a.1 15 = 0 ∨ a.1 15 = 1) ∧ (0 ≤ a.1 16 ∧ a.1 16 ≤ 2) ∧ (∀ i, 0 ≤ aI a i ∧ aI a i ≤ 500)) ∧ InvM a
theorem invN_C {a : AS} (h : InvC a) : InvN a := ⟨h.1, h.2.1.2, h.2.2⟩
theorem invC_N {a : AS} (h : InvN a) (hp : prog a.1 (aQ a)) : InvC a := ⟨h.1, ⟨hp, h.2.1⟩, h.2.2⟩
theorem invN_set {a : AS} (h : InvN a) {k : Nat} {v : Int} (h9 : k ≠ 9) (h10 : k ≠ 10) (h11 : k ≠ 11) (h12 : k ≠ 12) (h15 : k = 15 → v = 0 ∨ v = 1) (h16 : k = 16 → 0 ≤ v ∧ v ≤ 2) : InvN (aSet k v a) := by
  obtain ⟨⟨q1, q2, q3⟩, ⟨t1, t2, t3⟩, m⟩ := h
  refine ⟨⟨q1, q2, ?_⟩, ⟨?_, ?_, t3⟩, m⟩
  · rw [aSet_ne (by omega), aSet_ne (by omega), aSet_ne (by omega), aSet_ne (by omega)]; exact q3
  · by_cases e : k = 15
    · rw [e, aSet_self]; exact h15 e
    · rw [aSet_ne (by omega)]; exact t1
  · by_cases e : k = 16
    · rw [e, aSet_self]; exact h16 e
    · rw [aSet_ne (by omega)]; exact t2
theorem invN_ink {a : AS} (h : InvN a) {k : Nat} {v : Int} (h1 : 0 ≤ v) (h2 : v ≤ 500) : InvN (aInk k v a) := by
  obtain ⟨q, ⟨t1, t2, t3⟩, m⟩ := h
  refine ⟨q, ⟨t1, t2, fun i => ?_⟩, m⟩
  show 0 ≤ va_up (aI a) k v i ∧ va_up (aI a) k v i ≤ 500
  by_cases e : i = k
  · rw [e, va_up_self]; exact ⟨h1, h2⟩
  · rw [va_up_ne _ _ e]; exact t3 i
theorem invN_mark {a : AS} (h : InvN a) (hi : inP (carX a) (carY a)) : InvN (aMark a) :=
  ⟨h.1, h.2.1, fun c hc => ⟨up_far (fun c hc => (h.2.2 c hc).1) hi c hc, (h.2.2 c hc).2⟩⟩
theorem carX_cons {a : AS} {c : Cm} {r : List Cm} (hq : aQ a = c :: r) : carX a = a.1 11 + (cdx c * a.1 13).tdiv (cn c) := by unfold carX; rw [hq]
theorem carY_cons {a : AS} {c : Cm} {r : List Cm} (hq : aQ a = c :: r) : carY a = a.1 12 + (cdy c * a.1 13).tdiv (cn c) := by unfold carY; rw [hq]
theorem carX_nil {a : AS} (hq : aQ a = []) : carX a = a.1 11 := by unfold carX; rw [hq]
theorem carY_nil {a : AS} (hq : aQ a = []) : carY a = a.1 12 := by unfold carY; rw [hq]
theorem prog_cons {A : Nat → Int} {c : Cm} {r : List Cm} : prog A (c :: r) = (0 ≤ A 13 ∧ (A 13 < cn c ∨ (c.1 = 3 ∧ A 13 = 0)) ∧ 0 ≤ A 14 ∧ (A 14 ≤ 1 ∨ (A 14 = 2 ∧ c.1 = 3 ∧ A 15 = 0))) := rfl
theorem car_cons {a : AS} (h : InvQ a) {c : Cm} {r : List Cm} (hq : aQ a = c :: r) (h0 : 0 ≤ a.1 13) (h1 : a.1 13 ≤ cn c) : inP (carX a) (carY a) := by
  have h3 := h.2.2
  rw [hq] at h3
  rw [carX_cons hq, carY_cons hq]
  exact car_ok h3 (okc_pos (h.1 c (by rw [hq]; exact List.mem_cons_self))) h0 h1
theorem cn_nn {c : Cm} (h : okc c) : 0 ≤ cn c := (okc_rng h).2.2.2.2.1
theorem car_inv {a : AS} (h : InvC a) : inP (carX a) (carY a) := by
  cases hq : aQ a with
  | nil =>
    rw [carX_nil hq, carY_nil hq]
    exact (chain_in h.1.2.2).1
  | cons c r =>
    have hp := h.2.1.1
    rw [hq, prog_cons] at hp
    have := cn_nn (h.1.1 c (by rw [hq]; exact List.mem_cons_self))
    exact car_cons h.1 hq hp.1 (by omega)
theorem aDo_nil {a : AS} (hq : aQ a = []) : aDo a = a := by unfold aDo; rw [hq]
theorem aDo_cons {a : AS} {c : Cm} {r : List Cm} (hq : aQ a = c :: r) : aDo a = if lacks a = true then a else aDoC c a := by unfold aDo; rw [hq]
theorem lacks_nil {a : AS} (hq : aQ a = []) : lacks a = false := by unfold lacks; rw [hq]
theorem lacks_cons {a : AS} {c : Cm} {r : List Cm} (hq : aQ a = c :: r) : lacks a = decide (c.1 = 2 ∧ ¬ a.1 15 = 0 ∧ aI a (a.1 16).toNat = 0) := by unfold lacks; rw [hq]
theorem invC_turn {a : AS} {c : Cm} {r : List Cm} (h : InvC a) (hq : aQ a = c :: r) (ht : a.1 15 = 0 ↔ c.1 = 2) : InvC (aTurn a) := by
  have hN := invN_C h
  have hp := h.2.1.1
  have hc := car_inv h
  rw [hq, prog_cons] at hp
  unfold aTurn
  split
  · refine invC_N (invN_set hN (by omega) (by omega) (by omega) (by omega) (by omega) (by omega)) ?_
    show prog (aSet 14 (a.1 14 + 1) a).1 (aQ a)
    rw [hq, prog_cons, aSet_ne (by omega), aSet_self, aSet_ne (by omega)]
    omega
  · have h0 : InvN (aSet 14 0 a) := invN_set hN (by omega) (by omega) (by omega) (by omega) (by omega) (by omega)
    have p0 : ∀ v, prog (aSet 15 v (aSet 14 0 a)).1 (aQ a) := by
      intro v
      rw [hq, prog_cons, aSet_ne (show 13 ≠ 15 by omega), aSet_ne (show 13 ≠ 14 by omega), aSet_ne (show 14 ≠ 15 by omega), aSet_self]
      omega
    split
    · have h1 : InvN (aSet 15 1 (aSet 14 0 a)) := invN_set h0 (by omega) (by omega) (by omega) (by omega) (by omega) (by omega)
      refine invC_N (invN_mark h1 ?_) (p0 1)
      have hq1 : aQ (aSet 15 1 (aSet 14 0 a)) = c :: r := hq
      rw [carX_cons hq] at hc
      rw [carY_cons hq] at hc
      rw [carX_cons hq1, carY_cons hq1]
      exact hc
    · exact invC_N (invN_set h0 (by omega) (by omega) (by omega) (by omega) (by omega) (by omega)) (p0 0)
theorem invC_end {a : AS} {c : Cm} {r : List Cm} (h : InvN a) (hq : aQ a = c :: r) : InvC (aEnd c a) := by
  obtain ⟨⟨q1, q2, q3⟩, t, m⟩ := h
  rw [hq] at q3
  have e : aQ (aEnd c a) = r := by show (aQ a).tail = r; rw [hq]; rfl
  refine ⟨⟨fun d hd => q1 d ?_, q2, ?_⟩, ⟨?_, t⟩, m⟩
  · rw [hq]; rw [e] at hd; exact List.mem_cons_of_mem _ hd
  · rw [e]; exact q3.2
  · rw [e]
    have e13 : (aEnd c a).1 13 = 0 := rfl
    have e14 : (aEnd c a).1 14 = 0 := rfl
    cases r with
    | nil => exact ⟨e13, e14⟩
    | cons d r =>
      rw [prog_cons, e13, e14]
      have := okc_pos (q1 d (by rw [hq]; exact List.mem_cons_of_mem _ List.mem_cons_self))
      omega
theorem invC_chg {a : AS} {c : Cm} {r : List Cm} (h : InvC a) (hq : aQ a = c :: r) (h3 : c.1 = 3) (h15 : a.1 15 = 0) : InvC (aChg c a) := by
  have hN := invN_C h
  have hp := h.2.1.1
  rw [hq, prog_cons] at hp
  have hc := h.1.1 c (by rw [hq]; exact List.mem_cons_self)
  unfold aChg
  split
  · refine invC_N (invN_set hN (by omega) (by omega) (by omega) (by omega) (by omega) (by omega)) ?_
    show prog (aSet 14 (a.1 14 + 1) a).1 (aQ a)
    rw [hq, prog_cons, aSet_ne (by omega), aSet_self, aSet_ne (by omega)]
    omega
  · have h2 : 0 ≤ c.2.1 ∧ c.2.1 ≤ 2 := by
      rcases hc with hc | hc
      · exact ⟨hc.2.1, hc.2.2.1⟩
      · exact absurd h3 (okm_ne3 hc)
    exact invC_end (invN_set (invN_set hN (by omega) (by omega) (by omega) (by omega) (by omega) (by omega)) (by omega) (by omega) (by omega) (by omega) (by omega) (by omega)) hq
theorem put_ok {a : AS} {c : Cm} {r : List Cm} (h : InvN a) (hq : aQ a = c :: r) (h0 : 0 ≤ a.1 13) (h1 : a.1 13 ≤ cn c) (hi : c.1 = 2 → ¬ aI a (a.1 16).toNat = 0) : InvN (aPut c a) := by
  unfold aPut
  split
  · rename_i e
    have := h.2.1.2.2 (a.1 16).toNat
    have := hi e
    refine invN_mark (invN_ink (invN_set h (by omega) (by omega) (by omega) (by omega) (by omega) (by omega)) (by omega) (by omega)) ?_
    refine car_cons (c := c) (r := r) h.1 hq h0 h1
  · exact invN_set h (by omega) (by omega) (by omega) (by omega) (by omega) (by omega)
theorem put_q (c : Cm) (a : AS) : aQ (aPut c a) = aQ a := by unfold aPut; split <;> rfl
theorem put_sc (c : Cm) (a : AS) {k : Nat} (h : k < 17) : (aPut c a).1 k = a.1 k := by
  unfold aPut
  split
  · exact aSet_ne (by omega)
  · exact aSet_ne (by omega)
theorem invC_stp {a : AS} {c : Cm} {r : List Cm} (h : InvC a) (hq : aQ a = c :: r) (h3 : ¬ c.1 = 3) (hi : c.1 = 2 → ¬ aI a (a.1 16).toNat = 0) : InvC (aStp c a) := by
  have hN := invN_C h
  have hp := h.2.1.1
  rw [hq, prog_cons] at hp
  have h1 : InvN (aSet 13 (a.1 13 + 1) a) := invN_set hN (by omega) (by omega) (by omega) (by omega) (by omega) (by omega)
  have e13 : (aSet 13 (a.1 13 + 1) a).1 13 = a.1 13 + 1 := aSet_self
  have h2 : InvN (aPut c (aSet 13 (a.1 13 + 1) a)) := put_ok (c := c) (r := r) h1 hq (by rw [e13]; omega) (by rw [e13]; omega) (by rw [aSet_ne (by omega)]; exact hi)
  unfold aStp
  split
  · exact invC_end h2 ((put_q c _).trans hq)
  · refine invC_N h2 ?_
    rw [put_q, show aQ (aSet 13 (a.1 13 + 1) a) = c :: r from hq, prog_cons, put_sc c _ (by omega), put_sc c _ (by omega), put_sc c _ (by omega), e13, aSet_ne (by omega), aSet_ne (by omega)]
    omega
theorem invC_do {a : AS} (h : InvC a) : InvC (aDo a) := by
  cases hq : aQ a with
  | nil => rw [aDo_nil hq]; exact h
  | cons c r =>
    rw [aDo_cons hq]
    split
    · exact h
    · rename_i hl
      rw [lacks_cons hq, decide_eq_true_eq] at hl
      unfold aDoC
      split
      · rename_i ht; exact invC_turn h hq ht
      · rename_i ht
        split
        · rename_i h3
          exact invC_chg h hq h3 (by omega)
        · rename_i h3
          exact invC_stp h hq h3 (by intro h2 h4; apply hl; exact ⟨h2, by omega, h4⟩)
theorem end_lo (c : Cm) (a : AS) {k : Nat} (hk : k < 9) : (aEnd c a).1 k = a.1 k := by
  show (aSet 14 0 (aSet 13 0 (aSet 12 (a.1 12 + cdy c) (aSet 11 (a.1 11 + cdx c) a)))).1 k = _
  rw [aSet_ne (by omega), aSet_ne (by omega), aSet_ne (by omega), aSet_ne (by omega)]
theorem do_lo (a : AS) {k : Nat} (hk : k < 9) : (aDo a).1 k = a.1 k := by
  cases hq : aQ a with
  | nil => rw [aDo_nil hq]
  | cons c r =>
    rw [aDo_cons hq]
    split
    · rfl
    · unfold aDoC
      split
      · unfold aTurn
        split
        · exact aSet_ne (by omega)
        · split
          · show (aSet 15 1 (aSet 14 0 a)).1 k = _
            rw [aSet_ne (by omega), aSet_ne (by omega)]
          · rw [aSet_ne (by omega), aSet_ne (by omega)]
      · split
        · unfold aChg
          split
          · exact aSet_ne (by omega)
          · rw [end_lo _ _ hk, aSet_ne (by omega), aSet_ne (by omega)]
        · unfold aStp
          split
          · rw [end_lo _ _ hk, put_sc _ _ (by omega), aSet_ne (by omega)]
          · rw [put_sc _ _ (by omega), aSet_ne (by omega)]
theorem end_len (c : Cm) (a : AS) : (aQ (aEnd c a)).length ≤ (aQ a).length := by
  show (aQ a).tail.length ≤ _
  rw [List.length_tail]; omega
theorem do_len (a : AS) : (aQ (aDo a)).length ≤ (aQ a).length := by
  cases hq : aQ a with
  | nil => rw [aDo_nil hq, hq]; exact Nat.le_refl _
  | cons c r =>
    rw [aDo_cons hq, ← hq]
    split
    · exact Nat.le_refl _
    · unfold aDoC
      split
      · unfold aTurn
        split
        · exact Nat.le_refl _
        · split <;> exact Nat.le_refl _
      · split
        · unfold aChg
          split
          · exact Nat.le_refl _
          · exact end_len _ _
        · unfold aStp
          split
          · refine Nat.le_trans (end_len _ _) ?_
            rw [put_q]; exact Nat.le_refl _
          · rw [put_q]; exact Nat.le_refl _
theorem inv_do {a : AS} (h : Inv a) : Inv (aDo a) := by
  refine inv_mk (invC_do (inv_C h)) ?_ (Nat.le_trans (do_len a) h.2.2.2.2)
  unfold InvB
  rw [do_lo a (by omega), do_lo a (by omega), do_lo a (by omega)]
  exact h.2.1
theorem inv_ticks : ∀ (n : Nat) {a : AS}, Inv a → Inv (aTicks n a)
  | 0, _, h => h
  | n + 1, _, h => inv_ticks n (inv_do h)
theorem ticks_still {a : AS} (h : aDo a = a) : ∀ n : Nat, aTicks n a = a
  | 0 => rfl
  | n + 1 => by show aTicks n (aDo a) = a; rw [h]; exact ticks_still h n
theorem inv_cut {a : AS} (h : Inv a) : Inv (aCut a) := by
  have hN := invN_C (inv_C h)
  have h1 : InvN (aCut a) := invN_set (invN_set (invN_set (invN_set hN (by omega) (by omega) (by omega) (by omega) (by omega) (by omega)) (by omega) (by omega) (by omega) (by omega) (by omega) (by omega)) (by omega) (by omega) (by omega) (by omega) (by omega) (by omega)) (by omega) (by omega) (by omega) (by omega) (by omega) (by omega)
  have hp := h.2.2.1.1
  have e13 : (aCut a).1 13 = a.1 13 - a.1 13 % 10 := rfl
  have e14 : (aCut a).1 14 = 0 := rfl
  have e15 : (aCut a).1 15 = 0 := rfl
  have e6 : (aCut a).1 6 = 0 := rfl
  refine inv_mk (invC_N h1 ?_) ?_ h.2.2.2.2
  · show prog (aCut a).1 (aQ a)
    cases hq : aQ a with
    | nil =>
      rw [hq] at hp
      obtain ⟨p1, p2⟩ := hp
      show (aCut a).1 13 = 0 ∧ (aCut a).1 14 = 0
      rw [e13, e14, p1]; simp
    | cons c r =>
      rw [hq, prog_cons] at hp
      rw [prog_cons, e13, e14, e15]
      omega
  · unfold InvB
    rw [e6]
    simp
theorem inv_inkset {a : AS} (h : Inv a) {k : Nat} {v : Int} (h1 : 0 ≤ v) (h2 : v ≤ 500) : Inv (aInk k v a) :=
  inv_mk (invC_N (invN_ink (invN_C (inv_C h)) h1 h2) h.2.2.1.1) h.2.1 h.2.2.2.2
/-- the state of a new plotter -/
def a0 : AS := (fun _ => 0, [], none, fun _ => 500, fun _ => false, fun _ => false)
theorem inv_0 : Inv a0 := by
  refine ⟨⟨fun c h => absurd h (List.not_mem_nil), fun c h => absurd h (by intro e; cases e), ⟨rfl, rfl, by unfold inP a0; simp⟩⟩, ⟨by unfold a0; simp, by unfold a0; simp, by unfold a0; simp⟩, ⟨⟨rfl, rfl⟩, Or.inl rfl, by unfold a0; simp, fun i => by unfold a0 aI; simp⟩, fun c h => ⟨rfl, rfl⟩, Nat.zero_le _⟩
