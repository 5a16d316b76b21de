/-! the small functions, in whole numbers -/
theorem q_hasCell {E : EV} {post : Int32 → Prop} {x y : Int} (h1 : -2147483648 ≤ x) (h2 : x < 2147483648) (h3 : -2147483648 ≤ y) (h4 : y < 2147483648) : wp_X2_hasCell E post (iI x) (iI y) = post (iI (if 0 ≤ x ∧ x ≤ 99 ∧ 0 ≤ y ∧ y ≤ 99 then 1 else 0)) := by
  unfold wp_X2_hasCell
  simp (disch := omega) only [l0, l1, l100, iI_lt, iI_le]
  rw [if_wp post, if_wp post, if_wp post, if_wp post]
  congr 1
  repeat' split
  all_goals first | rfl | (exfalso; omega)
theorem q_hasPen {E : EV} {post : Int32 → Prop} {x : Int} (h1 : -2147483648 ≤ x) (h2 : x < 2147483648) : wp_X2_hasPen E post (iI x) = post (iI (if 0 ≤ x ∧ x ≤ 2 then 1 else 0)) := by
  unfold wp_X2_hasPen
  simp (disch := omega) only [l0, l1, l3, iI_lt, iI_le]
  rw [if_wp post, if_wp post]
  congr 1
  repeat' split
  all_goals first | rfl | (exfalso; omega)
theorem q_signed {E : EV} {post : Int32 → Prop} {x : Int} (h1 : 0 ≤ x) (h2 : x ≤ 255) : wp_X2_signed E post (iI x) = post (iI (sg x)) := by
  unfold wp_X2_signed sg
  simp (disch := omega) only [l127, l255, l1, iI_le, iI_sub]
  rw [if_wp post, iI_if]
  congr 3
  omega
theorem sg_rng {x : Int} (h1 : 0 ≤ x) (h2 : x ≤ 255) : -128 ≤ sg x ∧ sg x ≤ 127 := by
  unfold sg; split <;> omega
theorem q_draws {E : EV} {post : Int32 → Prop} {k : Int} {cx cy cp : Int32} (h1 : -2147483648 ≤ k) (h2 : k < 2147483648) : wp_X0_draws E post (iI k) cx cy cp = post (iI (if k = 2 then 1 else 0)) := by
  unfold wp_X0_draws
  simp (disch := omega) only [l0, l1, l2, iI_eq]
  rw [if_wp post, iI_if]
theorem q_steps {E : EV} {post : Int32 → Prop} {u v : Int} {ck cp : Int32} (h1 : -128 ≤ u) (h2 : u ≤ 127) (h3 : -128 ≤ v) (h4 : v ≤ 127) : wp_X0_steps E post ck (iI u) (iI v) cp = post (iI (nst u v)) := by
  unfold wp_X0_steps
  have a : (if (0 : Int32) ≤ iI u then iI u else 0 - iI u) = iI (iabs u) := by
    unfold iabs
    simp (disch := omega) only [l0, iI_le, iI_sub, iI_if]
    congr 3; omega
  have b : (if (0 : Int32) ≤ iI v then iI v else 0 - iI v) = iI (iabs v) := by
    unfold iabs
    simp (disch := omega) only [l0, iI_le, iI_sub, iI_if]
    congr 3; omega
  have c : ∀ w : Int, -128 ≤ w → w ≤ 127 → 0 ≤ iabs w ∧ iabs w ≤ 128 := fun w h h' => by unfold iabs; split <;> omega
  have := c u h1 h2
  have := c v h3 h4
  rw [a, b]
  unfold nst
  simp (disch := omega) only [iI_lt, iI_if]
theorem q_way {E : EV} {post : Int32 → Prop} {u v w k : Int} {ck cp : Int32} (h1 : -128 ≤ u) (h2 : u ≤ 127) (h3 : -128 ≤ v) (h4 : v ≤ 127) (h5 : -128 ≤ w) (h6 : w ≤ 127) (h7 : 0 ≤ k) (h8 : k ≤ 128) : wp_X0_way E post ck (iI u) (iI v) cp (iI w) (iI k) = post (iI ((w * k).tdiv (nst u v))) := by
  unfold wp_X0_way
  rw [q_steps h1 h2 h3 h4]
  have hn := nst_rng h1 h2 h3 h4
  have hm := mul_small h5 h6 h7 h8
  simp (disch := omega) only [l0, iI_eq, iI_mul, iI_div]
  rw [if_wp post, iI_if]
  congr 2
  split
  · rename_i e; rw [e, Int.tdiv_zero]
  · rfl
theorem q_wayX {E : EV} {post : Int32 → Prop} {u v k : Int} {ck cp : Int32} (h1 : -128 ≤ u) (h2 : u ≤ 127) (h3 : -128 ≤ v) (h4 : v ≤ 127) (h7 : 0 ≤ k) (h8 : k ≤ 128) : wp_X0_wayX E post ck (iI u) (iI v) cp (iI k) = post (iI ((u * k).tdiv (nst u v))) := q_way h1 h2 h3 h4 h1 h2 h7 h8
theorem q_wayY {E : EV} {post : Int32 → Prop} {u v k : Int} {ck cp : Int32} (h1 : -128 ≤ u) (h2 : u ≤ 127) (h3 : -128 ≤ v) (h4 : v ≤ 127) (h7 : 0 ≤ k) (h8 : k ≤ 128) : wp_X0_wayY E post ck (iI u) (iI v) cp (iI k) = post (iI ((v * k).tdiv (nst u v))) := q_way h1 h2 h3 h4 h3 h4 h7 h8
theorem cel_div {x y : Int} (h : inP x y) (n : Nat) (hn : 0 < n) : (100 * y + x).tdiv (n : Int) = ((cel x y / n : Nat) : Int) := by
  rw [(cel_lt h).2]; rfl
theorem cel_q (c n : Nat) (hn : 0 < n) : (c : Int) - (c : Int).tdiv (n : Int) * (n : Int) = ((c % n : Nat) : Int) := by
  have h1 : (c : Int).tdiv (n : Int) = ((c / n : Nat) : Int) := rfl
  rw [h1]
  have h2 := Nat.div_add_mod c n
  have h3 : ((c / n : Nat) : Int) * (n : Int) = ((n * (c / n) : Nat) : Int) := by rw [Int.natCast_mul, Int.mul_comm]
  rw [h3]
  omega
theorem q_wordOf {E : EV} {post : Int32 → Prop} {x y : Int} (h : inP x y) : wp_X1_wordOf E post (iI x) (iI y) = post (iI ((cel x y / 64 : Nat) : Int)) := by
  have hc := cel_lt h
  obtain ⟨h1, h2, h3, h4⟩ := id h
  unfold wp_X1_wordOf
  simp (disch := omega) only [q_hasCell, l0, l100, l64, iI_mul, iI_add, iI_div]
  rw [if_pos ⟨h1, h2, h3, h4⟩, hc.2]
  simp (disch := omega) only [iI_eq]
  simp
theorem q_bitOf {E : EV} {post : Int64 → Prop} {x y : Int} (h : inP x y) : wp_X1_bitOf E post (iI x) (iI y) = post ((1 : Int64) <<< ((iI ((cel x y % 64 : Nat) : Int)).toInt64 &&& 63)) := by
  have hc := cel_lt h
  obtain ⟨h1, h2, h3, h4⟩ := id h
  unfold wp_X1_bitOf
  simp (disch := omega) only [l100, l64, iI_mul, iI_add, iI_div, iI_sub]
  rw [hc.2, show (64 : Int) = ((64 : Nat) : Int) from rfl, cel_q _ 64 (by omega)]
theorem q_hasMark {E : EV} {post : Int32 → Prop} {b : Nat → Bool} {pw : Nat → Int64} {pk : Int32} {x y : Int} (h : inP x y) (hp : PRx b pw pk) : wp_X1_hasMark E post pw pk (iI x) (iI y) = post (if b (cel x y) = true then 1 else 0) := by
  have hc := cel_lt h
  unfold wp_X1_hasMark
  rw [q_wordOf h]
  simp (disch := omega) only [l157, iI_lt, iI_le, q_bitOf h, iI_cl, iI_in, l0]
  rw [Int.toNat_natCast, ← l0]
  have hg := PRx_get hp hc.1
  have a1 : ¬ (((cel x y / 64 : Nat) : Int) < 0) := by omega
  have a2 : ¬ ((157 : Int) ≤ ((cel x y / 64 : Nat) : Int)) := by omega
  have a3 : (0 : Int) ≤ ((cel x y / 64 : Nat) : Int) ∧ ((cel x y / 64 : Nat) : Int) < (157 : Nat) := by omega
  simp only [a1, a2, a3, false_imp_iff, not_false_eq_true, true_imp_iff, true_and, and_true, hg]
  cases b (cel x y) <;> simp
theorem q_putMark {E : EV} {post : (Nat → Int64) → Int32 → Prop} {b : Nat → Bool} {pw : Nat → Int64} {pk : Int32} {x y : Int} (h : inP x y) (hp : PRx b pw pk) (hq : ∀ pw' pk', PRx (va_up b (cel x y) true) pw' pk' → post pw' pk') : wp_X1_putMark E post pw pk (iI x) (iI y) := by
  have hc := cel_lt h
  unfold wp_X1_putMark
  rw [q_wordOf h]
  simp (disch := omega) only [l157, iI_lt, iI_le, q_bitOf h, iI_cl, iI_in, q_hasMark h hp]
  rw [Int.toNat_natCast, l0]
  simp (disch := omega) only [iI_lt]
  have a1 : ¬ (((cel x y / 64 : Nat) : Int) < 0) := by omega
  have a2 : ¬ ((157 : Int) ≤ ((cel x y / 64 : Nat) : Int)) := by omega
  have a3 : (0 : Int) ≤ ((cel x y / 64 : Nat) : Int) ∧ ((cel x y / 64 : Nat) : Int) < (157 : Nat) := by omega
  simp only [a1, a2, a3, false_imp_iff, not_false_eq_true, true_imp_iff, true_and, and_true]
  cases hb : b (cel x y)
  · refine ⟨fun _ => ?_, fun e => absurd rfl e⟩
    exact hq _ _ (PRx_set hp hc.1 hb)
  · refine ⟨fun e => absurd e (by decide), fun _ => ?_⟩
    rw [PRx_noop hb] at hq
    exact hq _ _ hp
theorem cnt_far {b : Nat → Bool} (h : ∀ c, 10000 ≤ c → b c = false) : ∀ m, cnt b (10000 + m) = cnt b 10000
  | 0 => by rw [Nat.add_zero]
  | m + 1 => by
    rw [show 10000 + (m + 1) = 10000 + m + 1 by omega]
    show cnt b (10000 + m) + _ = _
    rw [cnt_far h m, h (10000 + m) (by omega), if_neg (by decide), Nat.add_zero]

