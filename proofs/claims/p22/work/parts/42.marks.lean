/-! what the paper and the plan have to do with each other -/
/-- cells of the queue's DRAWs, from step k of the first -/
def rmn : Int → Int → Int → List Cm → Nat → Prop
  | _, _, _, [], _ => False
  | k, x, y, c :: r, z => (c.1 = 2 ∧ ∃ j : Int, k ≤ j ∧ 0 ≤ j ∧ j ≤ cn c ∧ z = cel (x + (cdx c * j).tdiv (cn c)) (y + (cdy c * j).tdiv (cn c))) ∨ rmn 0 (x + cdx c) (y + cdy c) r z
/-- the carriage's cell -/
def ccl (x y k : Int) (q : List Cm) : Nat := match q with
  | [] => cel x y
  | c :: _ => cel (x + (cdx c * k).tdiv (cn c)) (y + (cdy c * k).tdiv (cn c))
theorem car_ccl (a : AS) : cel (carX a) (carY a) = ccl (a.1 11) (a.1 12) (a.1 13) (aQ a) := by
  unfold carX carY ccl
  cases aQ a <;> rfl
def JJ (d g k x y : Int) (q : List Cm) (M B : Nat → Bool) : Prop :=
  (∀ c r, q = c :: r → ¬ c.1 = 3 → (d = 1 ↔ c.1 = 2) → g = 0) ∧ (d = 1 → M (ccl x y k q) = true) ∧ (∀ z, M z = true → B z = true) ∧ (∀ z, B z = true → M z = true ∨ rmn k x y q z) ∧ (∀ z, rmn 0 x y q z → B z = true)
def JA (a : AS) : Prop := JJ (a.1 15) (a.1 14) (a.1 13) (a.1 11) (a.1 12) (aQ a) (aM a) (aB a)
theorem rmn_mono {k k' x y : Int} {q : List Cm} {z : Nat} (h : rmn k x y q z) (hk : k' ≤ k) : rmn k' x y q z := by
  cases q with
  | nil => exact h
  | cons c r =>
    rcases h with ⟨h1, j, h2, h3, h4, h5⟩ | h
    · exact Or.inl ⟨h1, j, by omega, h3, h4, h5⟩
    · exact Or.inr h
theorem rmn_app : ∀ {q : List Cm} {k x y ex ey : Int} {c : Cm} {z : Nat}, chain x y q ex ey → (q = [] → k ≤ 0) → (rmn k x y (q ++ [c]) z ↔ rmn k x y q z ∨ (c.1 = 2 ∧ ∃ j : Int, 0 ≤ j ∧ j ≤ cn c ∧ z = cel (ex + (cdx c * j).tdiv (cn c)) (ey + (cdy c * j).tdiv (cn c))))
  | [], k, x, y, ex, ey, c, z, h, hk => by
    obtain ⟨h1, h2, -⟩ := h
    have hk := hk rfl
    subst h1; subst h2
    constructor
    · rintro (⟨h1, j, -, h3, h4, h5⟩ | h)
      · exact Or.inr ⟨h1, j, h3, h4, h5⟩
      · exact h.elim
    · rintro (h | ⟨h1, j, h3, h4, h5⟩)
      · exact h.elim
      · exact Or.inl ⟨h1, j, by omega, h3, h4, h5⟩
  | d :: r, k, x, y, ex, ey, c, z, h, hk => by
    have ih := rmn_app (k := 0) (c := c) (z := z) h.2 (fun _ => Int.le_refl 0)
    show (_ ∨ rmn 0 (x + cdx d) (y + cdy d) (r ++ [c]) z) ↔ _
    rw [ih]
    exact (or_assoc).symm
theorem lineC_iff {x y u v n : Int} {f : Nat → Bool} {z : Nat} : ∀ m : Nat, lineC x y u v n m f z = true ↔ f z = true ∨ ∃ j : Nat, j < m ∧ z = cel (x + (u * j).tdiv n) (y + (v * j).tdiv n)
  | 0 => by
    show f z = true ↔ _
    constructor
    · exact Or.inl
    · rintro (h | ⟨j, h, -⟩)
      · exact h
      · omega
  | m + 1 => by
    have ih := lineC_iff (x := x) (y := y) (u := u) (v := v) (n := n) (f := f) (z := z) m
    show va_up (lineC x y u v n m f) (cel (x + (u * m).tdiv n) (y + (v * m).tdiv n)) true z = true ↔ _
    by_cases e : z = cel (x + (u * m).tdiv n) (y + (v * m).tdiv n)
    · rw [← e, va_up_self]
      exact ⟨fun _ => Or.inr ⟨m, by omega, e⟩, fun _ => rfl⟩
    · rw [va_up_ne _ _ e, ih]
      constructor
      · rintro (h | ⟨j, h1, h2⟩)
        · exact Or.inl h
        · exact Or.inr ⟨j, by omega, h2⟩
      · rintro (h | ⟨j, h1, h2⟩)
        · exact Or.inl h
        · rcases Nat.lt_or_ge j m with h3 | h3
          · exact Or.inr ⟨j, h3, h2⟩
          · rw [show j = m by omega] at h2
            exact absurd h2 e
theorem jj_begin {d g g' k x y : Int} {q : List Cm} {M B : Nat → Bool} (h : JJ d g k x y q M B) (hn : ∀ c r, q = c :: r → ¬ c.1 = 3 → ¬ (d = 1 ↔ c.1 = 2)) : JJ d g' k x y q M B :=
  ⟨fun c r hq h3 he => absurd he (hn c r hq h3), h.2⟩
theorem jj_up {d g k x y : Int} {q : List Cm} {M B : Nat → Bool} (h : JJ d g k x y q M B) : JJ 0 0 k x y q M B :=
  ⟨fun _ _ _ _ _ => rfl, fun e => absurd e (by decide), h.2.2⟩
theorem jj_down {d g k x y : Int} {c : Cm} {r : List Cm} {M B : Nat → Bool} (h : JJ d g k x y (c :: r) M B) (hc : c.1 = 2) (h0 : 0 ≤ k) (h1 : k ≤ cn c) : JJ 1 0 k x y (c :: r) (va_up M (ccl x y k (c :: r)) true) B := by
  refine ⟨fun _ _ _ _ _ => rfl, fun _ => va_up_self _ _ _, fun z hz => ?_, fun z hz => ?_, h.2.2.2.2⟩
  · by_cases e : z = ccl x y k (c :: r)
    · exact h.2.2.2.2 z (Or.inl ⟨hc, k, h0, h0, h1, e⟩)
    · rw [va_up_ne _ _ e] at hz; exact h.2.2.1 z hz
  · by_cases e : z = ccl x y k (c :: r)
    · rw [e, va_up_self]; exact Or.inl rfl
    · rw [va_up_ne _ _ e]; exact h.2.2.2.1 z hz
/-- a command that marks nothing ends -/
theorem jj_end {d g k x y : Int} {c : Cm} {r : List Cm} {M B : Nat → Bool} (h : JJ d g k x y (c :: r) M B) (hc : ¬ c.1 = 2) (hd : ¬ d = 1) : JJ d 0 0 (x + cdx c) (y + cdy c) r M B := by
  refine ⟨fun _ _ _ _ _ => rfl, fun e => absurd e hd, h.2.2.1, fun z hz => ?_, fun z hz => h.2.2.2.2 z (Or.inr hz)⟩
  rcases h.2.2.2.1 z hz with h1 | ⟨h1, -⟩ | h1
  · exact Or.inl h1
  · exact absurd h1 hc
  · exact Or.inr h1
theorem jj_go {d g k x y : Int} {c : Cm} {r : List Cm} {M B : Nat → Bool} (h : JJ d g k x y (c :: r) M B) (hc : ¬ c.1 = 2) (hd : ¬ d = 1) : JJ d g (k + 1) x y (c :: r) M B := by
  refine ⟨h.1, fun e => absurd e hd, h.2.2.1, fun z hz => ?_, h.2.2.2.2⟩
  rcases h.2.2.2.1 z hz with h1 | ⟨h1, -⟩ | h1
  · exact Or.inl h1
  · exact absurd h1 hc
  · exact Or.inr (Or.inr h1)
theorem jj_draw {g k x y : Int} {c : Cm} {r : List Cm} {M B : Nat → Bool} (h : JJ 1 g k x y (c :: r) M B) (hc : c.1 = 2) (h0 : 0 ≤ k) (h1 : k < cn c) : JJ 1 g (k + 1) x y (c :: r) (va_up M (ccl x y (k + 1) (c :: r)) true) B := by
  refine ⟨h.1, fun _ => va_up_self _ _ _, fun z hz => ?_, fun z hz => ?_, h.2.2.2.2⟩
  · by_cases e : z = ccl x y (k + 1) (c :: r)
    · exact h.2.2.2.2 z (Or.inl ⟨hc, k + 1, by omega, by omega, by omega, e⟩)
    · rw [va_up_ne _ _ e] at hz; exact h.2.2.1 z hz
  · by_cases e : z = ccl x y (k + 1) (c :: r)
    · rw [e, va_up_self]; exact Or.inl rfl
    · rw [va_up_ne _ _ e]
      rcases h.2.2.2.1 z hz with h2 | ⟨-, j, h2, h3, h4, h5⟩ | h2
      · exact Or.inl h2
      · by_cases ej : j = k
        · subst ej; rw [h5]; exact Or.inl (h.2.1 rfl)
        · exact Or.inr (Or.inl ⟨hc, j, by omega, h3, h4, h5⟩)
      · exact Or.inr (Or.inr h2)
/-- a DRAW ends: its last step was marked -/
theorem jj_over {g k x y : Int} {c : Cm} {r : List Cm} {M B : Nat → Bool} (h : JJ 1 g k x y (c :: r) M B) (hc : c.1 = 2) (hk : k = cn c) (hn : 0 < cn c) : JJ 1 0 0 (x + cdx c) (y + cdy c) r M B := by
  have hm := h.2.1 rfl
  have e : ccl (x + cdx c) (y + cdy c) 0 r = ccl x y k (c :: r) := by
    have e1 : ccl x y k (c :: r) = cel (x + cdx c) (y + cdy c) := by
      unfold ccl
      simp only
      rw [hk, tdiv_full hn, tdiv_full hn]
    rw [e1]
    cases r with
    | nil => rfl
    | cons d s => unfold ccl; simp
  refine ⟨fun _ _ _ _ _ => rfl, fun _ => by rw [e]; exact hm, h.2.2.1, fun z hz => ?_, fun z hz => h.2.2.2.2 z (Or.inr hz)⟩
  rcases h.2.2.2.1 z hz with h2 | ⟨-, j, h2, h3, h4, h5⟩ | h2
  · exact Or.inl h2
  · have : j = k := by omega
    subst this
    rw [h5]; exact Or.inl hm
  · exact Or.inr h2
theorem jj_cut {d g k k' x y : Int} {q : List Cm} {M B : Nat → Bool} (h : JJ d g k x y q M B) (hk : k' ≤ k) : JJ 0 0 k' x y q M B := by
  refine ⟨fun _ _ _ _ _ => rfl, fun e => absurd e (by decide), h.2.2.1, fun z hz => ?_, h.2.2.2.2⟩
  rcases h.2.2.2.1 z hz with h1 | h1
  · exact Or.inl h1
  · exact Or.inr (rmn_mono h1 hk)
theorem jj_add {d g k x y ex ey : Int} {q : List Cm} {M B B' : Nat → Bool} {c : Cm} (h : JJ d g k x y q M B) (hc : chain x y q ex ey) (h0 : q = [] → k = 0 ∧ g = 0) (hB : ∀ z, B' z = true ↔ B z = true ∨ (c.1 = 2 ∧ ∃ j : Int, 0 ≤ j ∧ j ≤ cn c ∧ z = cel (ex + (cdx c * j).tdiv (cn c)) (ey + (cdy c * j).tdiv (cn c)))) : JJ d g k x y (q ++ [c]) M B' := by
  have hr : ∀ k z, (q = [] → k ≤ 0) → (rmn k x y (q ++ [c]) z ↔ rmn k x y q z ∨ (c.1 = 2 ∧ ∃ j : Int, 0 ≤ j ∧ j ≤ cn c ∧ z = cel (ex + (cdx c * j).tdiv (cn c)) (ey + (cdy c * j).tdiv (cn c)))) := fun k z hk => rmn_app hc hk
  have hk : q = [] → k ≤ 0 := fun e => by rw [(h0 e).1]; exact Int.le_refl 0
  refine ⟨?_, fun hd => ?_, fun z hz => (hB z).mpr (Or.inl (h.2.2.1 z hz)), fun z hz => ?_, fun z hz => ?_⟩
  · intro c' r' hq
    cases q with
    | nil => intro _ _; exact (h0 rfl).2
    | cons c2 r2 =>
      intro h3 hi
      have e : c2 = c' := (List.cons.inj hq).1
      subst e
      exact h.1 c2 r2 rfl h3 hi
  · have := h.2.1 hd
    cases q with
    | nil =>
      have e : ccl x y k ([] ++ [c]) = ccl x y k [] := by
        unfold ccl
        simp [(h0 rfl).1]
      rw [e]; exact this
    | cons c2 r2 => exact this
  · rw [hr k z hk]
    rcases (hB z).mp hz with h1 | h1
    · rcases h.2.2.2.1 z h1 with h2 | h2
      · exact Or.inl h2
      · exact Or.inr (Or.inl h2)
    · exact Or.inr (Or.inr h1)
  · rw [hr 0 z (fun _ => Int.le_refl 0)] at hz
    rcases hz with h1 | h1
    · exact (hB z).mpr (Or.inl (h.2.2.2.2 z h1))
    · exact (hB z).mpr (Or.inr h1)
theorem plan_iff {a : AS} {c : Cm} (hn : 0 ≤ cn c) (z : Nat) : aPlan c a z = true ↔ aB a z = true ∨ (c.1 = 2 ∧ ∃ j : Int, 0 ≤ j ∧ j ≤ cn c ∧ z = cel (a.1 9 + (cdx c * j).tdiv (cn c)) (a.1 10 + (cdy c * j).tdiv (cn c))) := by
  unfold aPlan
  split
  · rename_i e
    rw [lineC_iff]
    constructor
    · rintro (h | ⟨j, h1, h2⟩)
      · exact Or.inl h
      · exact Or.inr ⟨e, j, by omega, by omega, h2⟩
    · rintro (h | ⟨-, j, h1, h2, h3⟩)
      · exact Or.inl h
      · refine Or.inr ⟨j.toNat, by omega, ?_⟩
        rw [Int.toNat_of_nonneg h1]; exact h3
  · rename_i e
    exact ⟨Or.inl, fun h => h.elim id (fun h => absurd h.1 e)⟩
theorem ja_add {a : AS} {c : Cm} (h : JA a) (hi : InvC a) (hc : okc c) : JA (aAdd c a) := by
  have hc3 := hi.1.2.2
  have hp := hi.2.1.1
  have key := jj_add (c := c) (B' := aPlan c a) h hc3 (fun e => by rw [e] at hp; exact hp) (plan_iff (cn_nn hc))
  exact key
theorem ja_err {a : AS} (h : JA a) : JA (aErr a) := h
theorem ja_que {a : AS} {c : Cm} (h : JA a) (hi : InvC a) (hc : okc c) : JA (aQue c a) := by
  unfold aQue
  split
  · exact ja_add h hi hc
  · exact ja_err h
theorem ja_rep {c : Cm} (hc : okc c) : ∀ (n : Nat) {a : AS}, JA a → InvC a → JA (aRep c n a)
  | 0, _, h, _ => h
  | n + 1, _, h, hi => ja_rep hc n (ja_que h hi hc) (invC_que hi hc)
theorem ja_cut {a : AS} (h : JA a) (h13 : 0 ≤ a.1 13) : JA (aCut a) := by
  have := jj_cut (k' := a.1 13 - a.1 13 % 10) h (by omega)
  exact this
theorem ja_do {a : AS} (h : JA a) (hi : Inv a) : JA (aDo a) := by
  cases hq : aQ a with
  | nil => rw [aDo_nil hq]; exact h
  | cons c r =>
    rw [aDo_cons hq]
    have hp := hi.2.2.1.1
    have h15 := hi.2.2.1.2.1
    rw [hq, prog_cons] at hp
    have h0 := h
    unfold JA at h0
    rw [hq] at h0
    split
    · exact h
    · unfold aDoC
      split
      · rename_i ht
        unfold aTurn
        split
        · refine jj_begin (d := a.1 15) (g := a.1 14) h fun c' r' e h3 => ?_
          have e2 := (List.cons.inj (e.symm.trans hq)).1
          rw [e2] at h3 ⊢
          omega
        · split
          · rename_i e0
            have hc : c.1 = 2 := ht.mp e0
            have k := jj_down h0 hc hp.1 (by omega)
            show JJ 1 0 (a.1 13) (a.1 11) (a.1 12) (aQ a) (va_up (aM a) (cel (carX (aSet 15 1 (aSet 14 0 a))) (carY (aSet 15 1 (aSet 14 0 a)))) true) (aB a)
            rw [car_ccl]
            show JJ 1 0 (a.1 13) (a.1 11) (a.1 12) (aQ a) (va_up (aM a) (ccl (a.1 11) (a.1 12) (a.1 13) (aQ a)) true) (aB a)
            rw [hq]
            exact k
          · exact jj_up h
      · rename_i ht
        split
        · rename_i h3
          unfold aChg
          split
          · refine jj_begin (d := a.1 15) (g := a.1 14) h fun c' r' e h3' => ?_
            have e2 := (List.cons.inj (e.symm.trans hq)).1
            rw [e2] at h3'
            exact absurd h3 h3'
          · have k := jj_end h0 (show ¬ c.1 = 2 by omega) (by omega)
            show JJ (a.1 15) 0 0 (a.1 11 + cdx c) (a.1 12 + cdy c) (aQ a).tail (aM a) (aB a)
            rw [hq]
            exact k
        · rename_i h3
          have hn : 0 < cn c := by omega
          unfold aStp
          by_cases hc : c.1 = 2
          · have e15 : a.1 15 = 1 := by omega
            rw [e15] at h0
            have k := jj_draw h0 hc hp.1 (by omega)
            have eM : aM (aPut c (aSet 13 (a.1 13 + 1) a)) = va_up (aM a) (ccl (a.1 11) (a.1 12) (a.1 13 + 1) (c :: r)) true := by
              unfold aPut
              rw [if_pos hc]
              show va_up (aM a) (cel (carX (aInk ((aSet 13 (a.1 13 + 1) a).1 16).toNat (aI a ((aSet 13 (a.1 13 + 1) a).1 16).toNat - 1) (aSet 18 ((aSet 13 (a.1 13 + 1) a).1 18 + 1) (aSet 13 (a.1 13 + 1) a)))) (carY (aInk ((aSet 13 (a.1 13 + 1) a).1 16).toNat (aI a ((aSet 13 (a.1 13 + 1) a).1 16).toNat - 1) (aSet 18 ((aSet 13 (a.1 13 + 1) a).1 18 + 1) (aSet 13 (a.1 13 + 1) a))))) true = _
              rw [car_ccl]
              show va_up (aM a) (ccl (a.1 11) (a.1 12) (a.1 13 + 1) (aQ a)) true = _
              rw [hq]
            have eB : aB (aPut c (aSet 13 (a.1 13 + 1) a)) = aB a := by unfold aPut; rw [if_pos hc]; rfl
            split
            · rename_i hl
              have k2 := jj_over k hc (by have : (cn c) ≤ a.1 13 + 1 := hl; omega) hn
              show JJ ((aPut c (aSet 13 (a.1 13 + 1) a)).1 15) 0 0 ((aPut c (aSet 13 (a.1 13 + 1) a)).1 11 + cdx c) ((aPut c (aSet 13 (a.1 13 + 1) a)).1 12 + cdy c) (aQ (aPut c (aSet 13 (a.1 13 + 1) a))).tail (aM (aPut c (aSet 13 (a.1 13 + 1) a))) (aB (aPut c (aSet 13 (a.1 13 + 1) a)))
              rw [put_sc c _ (by omega), put_sc c _ (by omega), put_sc c _ (by omega), put_q, eM, eB, aSet_ne (by omega), aSet_ne (by omega), aSet_ne (by omega), e15, show aQ (aSet 13 (a.1 13 + 1) a) = c :: r from hq]
              exact k2
            · show JJ ((aPut c (aSet 13 (a.1 13 + 1) a)).1 15) ((aPut c (aSet 13 (a.1 13 + 1) a)).1 14) ((aPut c (aSet 13 (a.1 13 + 1) a)).1 13) ((aPut c (aSet 13 (a.1 13 + 1) a)).1 11) ((aPut c (aSet 13 (a.1 13 + 1) a)).1 12) (aQ (aPut c (aSet 13 (a.1 13 + 1) a))) (aM (aPut c (aSet 13 (a.1 13 + 1) a))) (aB (aPut c (aSet 13 (a.1 13 + 1) a)))
              rw [put_sc c _ (by omega), put_sc c _ (by omega), put_sc c _ (by omega), put_sc c _ (by omega), put_sc c _ (by omega), put_q, eM, eB, aSet_self, aSet_ne (by omega), aSet_ne (by omega), aSet_ne (by omega), aSet_ne (by omega), e15, show aQ (aSet 13 (a.1 13 + 1) a) = c :: r from hq]
              exact k
          · have e15 : ¬ a.1 15 = 1 := by omega
            have eP : aPut c (aSet 13 (a.1 13 + 1) a) = aSet 17 ((aSet 13 (a.1 13 + 1) a).1 17 + 1) (aSet 13 (a.1 13 + 1) a) := by unfold aPut; rw [if_neg hc]
            rw [eP]
            split
            · have k := jj_end h0 hc e15
              show JJ (a.1 15) 0 0 (a.1 11 + cdx c) (a.1 12 + cdy c) (aQ a).tail (aM a) (aB a)
              rw [hq]
              exact k
            · have k := jj_go h0 hc e15
              show JJ (a.1 15) (a.1 14) (a.1 13 + 1) (a.1 11) (a.1 12) (aQ a) (aM a) (aB a)
              rw [hq]
              exact k
theorem cnt_mono {b b' : Nat → Bool} (h : ∀ z, b z = true → b' z = true) : ∀ n, cnt b n ≤ cnt b' n
  | 0 => Nat.le_refl 0
  | n + 1 => by
    have ih := cnt_mono h n
    show cnt b n + (if b n = true then 1 else 0) ≤ cnt b' n + (if b' n = true then 1 else 0)
    by_cases e : b n = true
    · rw [if_pos e, if_pos (h n e)]; omega
    · rw [if_neg e]; split <;> omega
theorem ja_le {a : AS} (h : JA a) : cnt (aM a) 10000 ≤ cnt (aB a) 10000 := cnt_mono h.2.2.1 _
theorem ja_eq {a : AS} (h : JA a) (hq : aQ a = []) : cnt (aM a) 10000 = cnt (aB a) 10000 := by
  refine Nat.le_antisymm (ja_le h) (cnt_mono (fun z hz => ?_) _)
  rcases h.2.2.2.1 z hz with h1 | h1
  · exact h1
  · rw [hq] at h1; exact h1.elim
theorem ja_plan {a : AS} {c : Cm} (hn : 0 ≤ cn c) : cnt (aB a) 10000 ≤ cnt (aPlan c a) 10000 := cnt_mono (fun z hz => (plan_iff hn z).mpr (Or.inl hz)) _
theorem jj_0 : JJ 0 0 0 0 0 [] (fun _ => false) (fun _ => false) :=
  ⟨fun _ _ _ _ _ => rfl, fun e => absurd e (by decide), fun _ h => h, fun _ h => Or.inl h, fun _ h => False.elim h⟩
theorem ja_0 : JA a0 := jj_0
