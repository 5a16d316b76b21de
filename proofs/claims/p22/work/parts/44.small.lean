/-! the law's small methods -/
theorem l5 : (5 : Int32) = iI 5 := by decide
theorem l6 : (6 : Int32) = iI 6 := by decide
theorem l7 : (7 : Int32) = iI 7 := by decide
theorem l30 : (30 : Int32) = iI 30 := by decide
theorem q_rem {x n : Int} (h1 : 0 ≤ x) (h2 : x < 2147483648) (h3 : 0 < n) (h4 : n < 2147483648) : iI x - iI x / iI n * iI n = iI (x % n) := by
  rw [iI_div (by omega) (by omega) (by omega) (by omega), iI_mul, iI_sub, Int.tdiv_eq_ediv_of_nonneg h1]
  apply iI_inj
  rw [Int.emod_def, Int.mul_comm]
theorem q_quo {x n : Int} (h1 : 0 ≤ x) (h2 : x < 2147483648) (h3 : 0 < n) (h4 : n < 2147483648) : iI x / iI n = iI (x / n) := by
  rw [iI_div (by omega) (by omega) (by omega) (by omega), Int.tdiv_eq_ediv_of_nonneg h1]
theorem mvL {E : EV} {post : (Nat → Int32) → (Nat → Int32) → Prop} {cw mx : Nat → Int32} {n : Nat} (hn : n ≤ 15) (h0 : mx 0 = iI (n : Int)) (hp : ∀ cw', (∀ i, i < 4 * n → cw' i = cw (i + 4)) → post cw' mx) : ∀ (m j : Nat) (cj : Nat → Int32), j + m = 4 * n → (∀ i, i < j → cj i = cw (i + 4)) → (∀ i, j ≤ i → cj i = cw i) → wp_L_moves_L14 E post (m + 1) cj mx (iI (j : Int))
  | 0, j, cj, hj, h1, h2 => by
    rw [wp_L_moves_L14]
    rw [t0, h0, l4, iI_mul, iI_le (by omega) (by omega) (by omega) (by omega)]
    exact if_t (by omega) (hp cj fun i hi => h1 i (by omega))
  | m + 1, j, cj, hj, h1, h2 => by
    have ih := mvL (E := E) hn h0 hp m (j + 1)
    rw [wp_L_moves_L14]
    rw [t0, h0, l4, iI_mul, iI_le (by omega) (by omega) (by omega) (by omega), iI_add, l1, iI_add]
    refine if_f (by omega) ⟨(iI_in (by omega) (by omega)).mpr (by omega), (iI_in (by omega) (by omega)).mpr (by omega), ?_⟩
    rw [iI_cl (by omega) (by omega), iI_cl (by omega) (by omega), show ((j : Int) + 4).toNat = j + 4 by omega, Int.toNat_natCast, h2 (j + 4) (by omega)]
    refine ih _ (by omega) (fun i hi => ?_) (fun i hi => ?_)
    · show upd cj j (cw (j + 4)) i = _
      unfold upd
      split
      · rename_i e; rw [e]
      · exact h1 i (by omega)
    · show upd cj j (cw (j + 4)) i = _
      unfold upd
      rw [if_neg (by omega)]
      exact h2 i (by omega)
/-- the first command is done -/
theorem s_moves {E : EV} {post : (Nat → Int32) → (Nat → Int32) → Prop} {cw mw : Nat → Int32} {n : Nat} (hn : n ≤ 15) (h0 : mw 0 = iI ((n + 1 : Nat) : Int)) (hp : ∀ cw', (∀ i, i < 4 * n → cw' i = cw (i + 4)) → post cw' (upd (upd mw 7 0) 0 (iI (n : Int)))) : wp_L_moves E post cw mw := by
  unfold wp_L_moves
  have e : (upd (upd mw (7 : Int32).toNatClampNeg 0) (0 : Int32).toNatClampNeg (((upd mw (7 : Int32).toNatClampNeg 0) (0 : Int32).toNatClampNeg) - 1)) = upd (upd mw 7 0) 0 (iI (n : Int)) := by
    rw [t0, t7]
    have : upd mw 7 0 0 = iI ((n + 1 : Nat) : Int) := h0
    rw [this, l1, iI_sub]
    rw [show ((n + 1 : Nat) : Int) - 1 = (n : Int) by omega]
  rw [e]
  refine ⟨4 * n + 1, ?_⟩
  have := mvL (E := E) (cw := cw) (mx := upd (upd mw 7 0) 0 (iI (n : Int))) hn rfl hp (4 * n) 0 cw (by omega) (fun i hi => by omega) (fun i hi => rfl)
  exact this
theorem s_queL {E : EV} {post : Int32 → (Nat → Int32) → (Nat → Int32) → Prop} {a : AS} {cw mw : Nat → Int32} {c : Cm} (hR : RA a cw mw) (hi : InvQ a) (hl : (aQ a).length ≤ 15) (hc : ∀ b : Bool, b = rightC a.1 c → ∀ cw' mw', RA (if b = true then aAdd c a else aErr a) cw' mw' → post (if b = true then 1 else 0) cw' mw') : wp_L_queues_L92 E post 1 cw mw (iI c.1) (iI c.2.1) (iI c.2.2) (iI (a.1 9 + cdx c)) (iI (a.1 10 + cdy c)) (if rightC a.1 c = true then 1 else 0) := by
  obtain ⟨⟨h0, h1, h2, h5, h6, h7⟩, hq⟩ := hR
  rw [wp_L_queues_L92]
  have hc := hc _ rfl
  by_cases hr : rightC a.1 c = true
  · simp only [hr, if_true] at hc ⊢
    refine if_f (by decide) ?_
    have e0 : upd mw 1 (mw 1 + 0) 0 = iI ((aQ a).length : Int) := h0
    have e5 : upd mw 1 (mw 1 + 0) 5 = iI (a.1 9) := h5
    have e6 : upd mw 1 (mw 1 + 0) 6 = iI (a.1 10) := h6
    simp only [t0, t1, t5, t6]
    rw [e0, e5, e6, l4, l1, l2, l3, l100, iI_mul, iI_mul, iI_add, iI_add, iI_add, iI_add, iI_add]
    have n0 : (4 * ((aQ a).length : Int)).toNat = 4 * (aQ a).length := by omega
    have n1 : (4 * ((aQ a).length : Int) + 1).toNat = 4 * (aQ a).length + 1 := by omega
    have n2 : (4 * ((aQ a).length : Int) + 2).toNat = 4 * (aQ a).length + 2 := by omega
    have n3 : (4 * ((aQ a).length : Int) + 3).toNat = 4 * (aQ a).length + 3 := by omega
    rw [iI_cl (by omega) (by omega), iI_cl (by omega) (by omega), iI_cl (by omega) (by omega), iI_cl (by omega) (by omega), n0, n1, n2, n3]
    refine ⟨(iI_in (by omega) (by omega)).mpr (by omega), (iI_in (by omega) (by omega)).mpr (by omega), (iI_in (by omega) (by omega)).mpr (by omega), (iI_in (by omega) (by omega)).mpr (by omega), rfl, ?_⟩
    refine hc _ _ ⟨⟨?_, ?_, ?_, ?_, ?_, ?_⟩, ?_⟩
    · show iI (((aQ a).length : Int) + 1) = iI ((aQ a ++ [c]).length : Int)
      rw [List.length_append]
      apply iI_inj
      simp
    · show mw 1 + 0 = iI (a.1 7)
      rw [h1, l0, iI_add, Int.add_zero]
    · have hL : aL (aAdd c a) = aL a := rfl
      rw [hL]
      cases hz : aL a with
      | none => rw [hz] at h2; exact h2
      | some d => rw [hz] at h2; exact h2
    · rfl
    · rfl
    · exact h7
    · show RCq _ 0 (a.1 11) (a.1 12) (aQ a ++ [c])
      refine rcq_app hi.2.2 (rcq_eq hq fun i hi => ?_) ?_
      · unfold upd
        rw [if_neg (by omega), if_neg (by omega), if_neg (by omega), if_neg (by omega)]
      · unfold upd
        simp
  · have hr : rightC a.1 c = false := by simpa using hr
    simp only [hr] at hc ⊢
    refine if_t rfl ?_
    refine ⟨rfl, hc _ _ ⟨⟨?_, ?_, ?_, ?_, ?_, ?_⟩, hq⟩⟩
    · exact h0
    · show mw (1 : Int32).toNatClampNeg + 1 = iI (a.1 7 + 1)
      rw [t1, h1, l1, iI_add]
    · have hL : aL (aErr a) = aL a := rfl
      simp only [Bool.false_eq_true, if_false]
      rw [hL]
      cases hz : aL a with
      | none => rw [hz] at h2; exact h2
      | some d => rw [hz] at h2; exact h2
    · exact h5
    · exact h6
    · exact h7
theorem s_queues {E : EV} {post : Int32 → (Nat → Int32) → (Nat → Int32) → Prop} {a : AS} {cw mw : Nat → Int32} {c : Cm} (hR : RA a cw mw) (hi : InvQ a) (hl : (aQ a).length ≤ 15) (ho : okr c) (hc : ∀ b : Bool, b = rightC a.1 c → ∀ cw' mw', RA (if b = true then aAdd c a else aErr a) cw' mw' → post (if b = true then 1 else 0) cw' mw') : wp_L_queues E post cw mw (iI c.1) (iI c.2.1) (iI c.2.2) := by
  have key := s_queL (E := E) hR hi hl hc
  obtain ⟨⟨h0, h1, h2, h5, h6, h7⟩, hq⟩ := id hR
  have hin := (chain_in hi.2.2).2
  obtain ⟨i1, i2, i3, i4⟩ := hin
  unfold wp_L_queues
  rcases ho with ⟨o1, o2, o3, o4⟩ | ⟨o1, o2, o3, o4, o5⟩
  · have ex : cdx c = 0 := if_pos o1
    have ey : cdy c = 0 := if_pos o1
    refine if_t (by rw [o1]; rfl) ?_
    rw [t5, t6, h5, h6, l0, iI_add, iI_add, l3, iI_le (by omega) (by omega) (by omega) (by omega), ← l0]
    rw [ex, ey] at key
    by_cases e : 3 ≤ c.2.1
    · have er : rightC a.1 c = false := by
        unfold rightC
        rw [if_pos o1]
        exact decide_eq_false (by omega)
      rw [er] at key
      exact if_t e ⟨1, key⟩
    · have er : rightC a.1 c = true := by
        unfold rightC
        rw [if_pos o1]
        exact decide_eq_true (by omega)
      rw [er] at key
      exact if_f e ⟨1, key⟩
  · have n3 : ¬ c.1 = 3 := by omega
    obtain ⟨ex, ey⟩ := okm_d n3
    have b1 : -2147483648 ≤ c.1 := by omega
    refine if_f (by rw [l3, iI_eq (by omega) (by omega) (by omega) (by omega)]; exact n3) ?_
    rw [q_Lsize (by omega) (by omega) (by omega) (by omega)]
    rw [ex, ey] at key
    rw [t5, t6, h5, h6, iI_add, iI_add]
    have hn := nst_rng o2 o3 o4 o5
    have hcond : rightC a.1 c = decide (¬ (c.2.1 = 0 ∧ c.2.2 = 0) ∧ 0 ≤ a.1 9 + c.2.1 ∧ a.1 9 + c.2.1 ≤ 99 ∧ 0 ≤ a.1 10 + c.2.2 ∧ a.1 10 + c.2.2 ≤ 99) := if_neg n3
    have kF : rightC a.1 c = false → ∃ n : Nat, wp_L_queues_L92 E post n cw mw (iI c.1) (iI c.2.1) (iI c.2.2) (iI (a.1 9 + c.2.1)) (iI (a.1 10 + c.2.2)) 0 := fun e => by rw [e] at key; exact ⟨1, key⟩
    have kT : rightC a.1 c = true → ∃ n : Nat, wp_L_queues_L92 E post n cw mw (iI c.1) (iI c.2.1) (iI c.2.2) (iI (a.1 9 + c.2.1)) (iI (a.1 10 + c.2.2)) 1 := fun e => by rw [e] at key; exact ⟨1, key⟩
    have hz : nst c.2.1 c.2.2 ≤ 0 ↔ (c.2.1 = 0 ∧ c.2.2 = 0) := by
      constructor
      · intro e
        exact Classical.byContradiction fun n => by have := nst_pos n; omega
      · intro e
        rw [nst_zero e]; exact Int.le_refl 0
    have c1 : (iI (nst c.2.1 c.2.2) ≤ (0 : Int32)) ↔ (c.2.1 = 0 ∧ c.2.2 = 0) := by rw [l0, iI_le (by omega) (by omega) (by omega) (by omega), hz]
    have c2 : (iI (a.1 9 + c.2.1) < (0 : Int32)) ↔ a.1 9 + c.2.1 < 0 := by rw [l0, iI_lt (by omega) (by omega) (by omega) (by omega)]
    have c3 : ((100 : Int32) ≤ iI (a.1 9 + c.2.1)) ↔ 100 ≤ a.1 9 + c.2.1 := by rw [l100, iI_le (by omega) (by omega) (by omega) (by omega)]
    have c4 : (iI (a.1 10 + c.2.2) < (0 : Int32)) ↔ a.1 10 + c.2.2 < 0 := by rw [l0, iI_lt (by omega) (by omega) (by omega) (by omega)]
    have c5 : ((100 : Int32) ≤ iI (a.1 10 + c.2.2)) ↔ 100 ≤ a.1 10 + c.2.2 := by rw [l100, iI_le (by omega) (by omega) (by omega) (by omega)]
    rw [c1, c2, c3, c4, c5]
    refine ⟨fun e => kF ?_, fun e1 => ⟨fun e => kF ?_, fun e2 => ⟨fun e => kF ?_, fun e3 => ⟨fun e => kF ?_, fun e4 => ⟨fun e => kF ?_, fun e5 => kT ?_⟩⟩⟩⟩⟩
    · rw [hcond]; exact decide_eq_false fun h => h.1 e
    · rw [hcond]; exact decide_eq_false fun h => by omega
    · rw [hcond]; exact decide_eq_false fun h => by omega
    · rw [hcond]; exact decide_eq_false fun h => by omega
    · rw [hcond]; exact decide_eq_false fun h => by omega
    · rw [hcond]; exact decide_eq_true ⟨e1, by omega, by omega, by omega, by omega⟩
theorem s_cell {E : EV} {post : Int32 → Prop} {cw mw : Nat → Int32} {u v s k : Int} (h1 : cw 1 = iI u) (h2 : cw 2 = iI v) (h3 : cw 3 = iI s) (hu : -128 ≤ u ∧ u ≤ 127) (hv : -128 ≤ v ∧ v ≤ 127) (hn : 0 < nst u v) (hk : 0 ≤ k ∧ k ≤ 128) (hp : post (iI (s + (u * k).tdiv (nst u v) + 100 * (v * k).tdiv (nst u v)))) : wp_L_cell E post cw mw (iI k) := by
  unfold wp_L_cell
  have hm := nst_rng hu.1 hu.2 hv.1 hv.2
  have m1 := mul_small hu.1 hu.2 hk.1 hk.2
  have m2 := mul_small hv.1 hv.2 hk.1 hk.2
  rw [t1, t2, t3, h1, h2, h3, q_Lsize (by omega) (by omega) (by omega) (by omega)]
  have hne : ¬ iI (nst u v) = 0 := by rw [l0, iI_eq (by omega) (by omega) (by omega) (by omega)]; omega
  refine ⟨hne, hne, ?_⟩
  rw [iI_mul, iI_mul, iI_div (by omega) (by omega) (by omega) (by omega), iI_div (by omega) (by omega) (by omega) (by omega), l100, iI_mul, iI_add, iI_add]
  exact hp
theorem bI2_1 {d : Bool} : ((1 : Int32) = iI (bI2 d)) ↔ d = true := by cases d <;> decide
theorem bI2_0 {d : Bool} : ((0 : Int32) = iI (bI2 d)) ↔ d = false := by cases d <;> decide
theorem s_dueL {E : EV} {a : AS} {post : Int32 → Prop} {gx : Nat → Int32} {lt : Option Nat} {mo : Int32} {ad : Nat} {ln : Int32} {PL : List Nat} {pf : Nat → va_E} {pw : Nat → Int64} {pk : Int32} {lw : Nat → Int64} {lk : Int32} {ik : Nat → Int32} {cw mw : Nat → Int32} (h0 : mw 0 = iI ((aQ a).length : Int)) (hq : ∀ i c, (aQ a)[i]? = some c → cw (4 * i) = iI c.1 ∧ cw (4 * i + 1) = iI c.2.1 ∧ cw (4 * i + 2) = iI c.2.2) (ho : ∀ c ∈ aQ a, okc c) (hl : (aQ a).length ≤ 16) : ∀ (m i : Nat) (s : Int) (d : Bool), i + m = (aQ a).length → post (iI (s + tl d ((aQ a).drop i))) → wp_L_due_L15 E post gx lt mo ad ln PL pf pw pk lw lk ik cw mw (m + 1) (iI (bI2 d)) (iI s) (iI (i : Int))
  | 0, i, s, d, hm, hp => by
    rw [wp_L_due_L15]
    rw [t0, h0, iI_le (by omega) (by omega) (by omega) (by omega)]
    refine if_t (by omega) ?_
    rw [List.drop_eq_nil_of_le (by omega), show tl d [] = 0 from rfl, Int.add_zero] at hp
    exact hp
  | m + 1, i, s, d, hm, hp => by
    have hlt : i < (aQ a).length := by omega
    have hoc : okc ((aQ a)[i]) := ho _ (List.getElem_mem hlt)
    obtain ⟨q1, q2, q3⟩ := hq i _ (List.getElem?_eq_getElem hlt)
    have hr := okc_rng hoc
    have ed : (aQ a).drop i = (aQ a)[i] :: (aQ a).drop (i + 1) := List.drop_eq_getElem_cons hlt
    rw [ed] at hp
    generalize (aQ a)[i] = c at *
    have IH := s_dueL (E := E) (post := post) (gx := gx) (lt := lt) (mo := mo) (ad := ad) (ln := ln) (PL := PL) (pf := pf) (pw := pw) (pk := pk) (lw := lw) (lk := lk) (ik := ik) h0 hq ho hl m (i + 1)
    have hk : 1 ≤ c.1 ∧ c.1 ≤ 3 := by
      rcases hoc with h | h
      · omega
      · have := h.1; omega
    have hcn : ¬ c.1 = 3 → nst c.2.1 c.2.2 = cn c := fun e => by unfold cn; rw [(okm_d e).1, (okm_d e).2]
    have hc3 : ¬ c.1 = 3 → (-128 ≤ c.2.1 ∧ c.2.1 ≤ 127 ∧ -128 ≤ c.2.2 ∧ c.2.2 ≤ 127) := fun e => by rw [← (okm_d e).1, ← (okm_d e).2]; exact ⟨hr.1, hr.2.1, hr.2.2.1, hr.2.2.2.1⟩
    rw [wp_L_due_L15]
    have n0 : (4 * (i : Int)).toNat = 4 * i := by omega
    have n1 : (4 * (i : Int) + 1).toNat = 4 * i + 1 := by omega
    have n2 : (4 * (i : Int) + 2).toNat = 4 * i + 2 := by omega
    have ei : iI (i : Int) + 1 = iI ((i + 1 : Nat) : Int) := by rw [l1, iI_add]; rfl
    have e4 : (4 : Int32) * iI (i : Int) = iI (4 * (i : Int)) := by rw [l4, iI_mul]
    have e41 : iI (4 * (i : Int)) + 1 = iI (4 * (i : Int) + 1) := by rw [l1, iI_add]
    have e42 : iI (4 * (i : Int)) + 2 = iI (4 * (i : Int) + 2) := by rw [l2, iI_add]
    rw [ei, e4, e41, e42, iI_cl (by omega) (by omega), iI_cl (by omega) (by omega), iI_cl (by omega) (by omega), n0, n1, n2, q1, q2, q3, t0, h0, iI_le (by omega) (by omega) (by omega) (by omega)]
    have x2 : (iI c.1 = (2 : Int32)) ↔ c.1 = 2 := by rw [l2, iI_eq (by omega) (by omega) (by omega) (by omega)]
    have x3 : (iI c.1 = (3 : Int32)) ↔ c.1 = 3 := by rw [l3, iI_eq (by omega) (by omega) (by omega) (by omega)]
    rw [x2, x3, bI2_1, bI2_0]
    have v0 : vp_in (iI (4 * (i : Int))) 64 := (iI_in (by omega) (by omega)).mpr (by omega)
    have v1 : vp_in (iI (4 * (i : Int) + 1)) 64 := (iI_in (by omega) (by omega)).mpr (by omega)
    have v2 : vp_in (iI (4 * (i : Int) + 2)) 64 := (iI_in (by omega) (by omega)).mpr (by omega)
    have f03 : (0 : Int32) + 3 = iI 3 := by decide
    have f23 : (2 : Int32) + 3 = iI 5 := by decide
    have f0 : ∀ x : Int, (0 : Int32) + iI x = iI x := fun x => by rw [l0, iI_add, Int.zero_add]
    have f2 : ∀ x : Int, (2 : Int32) + iI x = iI (2 + x) := fun x => by rw [l2, iI_add]
    have fin : ∀ (t : Int) (b : Bool) (w : Int32), w = iI (bI2 b) → b = decide (c.1 = 2) → t = (if d = decide (c.1 = 2) then 0 else 2) + (if c.1 = 3 then 3 else cn c) → wp_L_due_L15 E post gx lt mo ad ln PL pf pw pk lw lk ik cw mw (m + 1) w (iI (s + t)) (iI ((i + 1 : Nat) : Int)) := by
      intro t b w hw hb ht
      rw [hw]
      refine IH (s + t) b (by omega) ?_
      rw [show s + t + tl b ((aQ a).drop (i + 1)) = s + tl d (c :: (aQ a).drop (i + 1)) by rw [ht, hb, show tl d (c :: (aQ a).drop (i + 1)) = (if d = decide (c.1 = 2) then 0 else 2) + (if c.1 = 3 then 3 else cn c) + tl (decide (c.1 = 2)) ((aQ a).drop (i + 1)) from rfl]; omega]
      exact hp
    refine if_f (by omega) ⟨v0, ⟨fun e2 => ⟨fun e => ?_, fun e => ?_⟩, fun e2 => ⟨fun e => ?_, fun e => ?_⟩⟩⟩
    · refine if_f (by omega) ⟨v1, v2, ?_⟩
      have h3 : ¬ c.1 = 3 := by omega
      have hz := hc3 h3
      rw [q_Lsize (by omega) (by omega) (by omega) (by omega), hcn h3, f0, iI_add]
      exact fin _ true _ rfl (by simp [e2]) (by simp [e, e2])
    · refine if_f (by omega) ⟨v1, v2, ?_⟩
      have h3 : ¬ c.1 = 3 := by omega
      have hz := hc3 h3
      rw [q_Lsize (by omega) (by omega) (by omega) (by omega), hcn h3, f2, iI_add]
      exact fin _ true _ rfl (by simp [e2]) (by simp [e, e2])
    · refine ⟨fun h3 => ?_, fun h3 => ⟨v1, v2, ?_⟩⟩
      · rw [f03, iI_add]
        exact fin _ false _ rfl (by simp [e2]) (by simp [e, e2, h3])
      · have hz := hc3 h3
        rw [q_Lsize (by omega) (by omega) (by omega) (by omega), hcn h3, f0, iI_add]
        exact fin _ false _ rfl (by simp [e2]) (by simp [e, e2, h3])
    · refine ⟨fun h3 => ?_, fun h3 => ⟨v1, v2, ?_⟩⟩
      · rw [f23, iI_add]
        exact fin _ false _ rfl (by simp [e2]) (by simp [e, e2, h3])
      · have hz := hc3 h3
        rw [q_Lsize (by omega) (by omega) (by omega) (by omega), hcn h3, f2, iI_add]
        exact fin _ false _ rfl (by simp [e2]) (by simp [e, e2, h3])
theorem s_due {E : EV} {a : AS} {post : Int32 → Prop} {gx : Nat → Int32} {lt : Option Nat} {mo : Int32} {ad : Nat} {ln : Int32} {PL : List Nat} {pf : Nat → va_E} {pw : Nat → Int64} {pk : Int32} {lw : Nat → Int64} {lk : Int32} {ik : Nat → Int32} {cw mw : Nat → Int32} (h : RX E a gx lt ad ln PL pf pw pk lw lk ik) (hi : Inv a) (hR : RA a cw mw) (hp : post (iI (tl (decide (a.1 15 = 1)) (aQ a) - a.1 13))) : wp_L_due E post gx lt mo ad ln PL pf pw pk lw lk ik cw mw := by
  obtain ⟨⟨h0, h1, h2, h5, h6, h7⟩, hq⟩ := hR
  unfold wp_L_due
  refine s_isDown h hi ⟨(aQ a).length + 1, ?_⟩
  rw [t7, h7, iI_neg]
  have e : a.1 15 = bI2 (decide (a.1 15 = 1)) := by
    unfold bI2
    rcases hi.2.2.1.2.1 with e | e <;> rw [e] <;> rfl
  have key := s_dueL (E := E) (a := a) (post := post) (gx := gx) (lt := lt) (mo := mo) (ad := ad) (ln := ln) (PL := PL) (pf := pf) (pw := pw) (pk := pk) (lw := lw) (lk := lk) (ik := ik) (cw := cw) h0 (fun i c hc => by have := rcq_get hq hc; rw [Nat.zero_add] at this; exact this) hi.1.1 hi.2.2.2.2 (aQ a).length 0 (-a.1 13) (decide (a.1 15 = 1)) (by omega) (by rw [List.drop_zero, show -a.1 13 + tl (decide (a.1 15 = 1)) (aQ a) = tl (decide (a.1 15 = 1)) (aQ a) - a.1 13 by omega]; exact hp)
  rw [← e] at key
  exact key
theorem s_here {E : EV} {a : AS} {post : Int32 → Prop} {gx : Nat → Int32} {lt : Option Nat} {mo : Int32} {ad : Nat} {ln : Int32} {PL : List Nat} {pf : Nat → va_E} {pw : Nat → Int64} {pk : Int32} {lw : Nat → Int64} {lk : Int32} {ik : Nat → Int32} (h : RX E a gx lt ad ln PL pf pw pk lw lk ik) (hi : Inv a) (hj : JA a) (hp : post 1) : wp_L_isMarkedHere E post gx lt mo ad ln PL pf pw pk lw lk ik := by
  unfold wp_L_isMarkedHere
  refine s_isDown h hi ?_
  rcases hi.2.2.1.2.1 with e | e
  · exact if_t (by rw [e]; rfl) hp
  · refine if_f (by rw [e]; decide) (s_at h hi (s_at h hi ?_))
    have hc := car_inv (inv_C hi)
    obtain ⟨c1, c2, c3, c4⟩ := id hc
    rw [l100, q_rem (by omega) (by omega) (by omega) (by omega), q_quo (by omega) (by omega) (by omega) (by omega), show (100 * carY a + carX a) % 100 = carX a by omega, show (100 * carY a + carX a) / 100 = carY a by omega]
    refine g_isMarked h hc ?_
    have hm : aM a (cel (carX a) (carY a)) = true := by rw [car_ccl]; exact hj.2.1 e
    rw [if_pos hm]
    exact if_f (by decide) hp
section ACT
variable {E : EV} {a : AS} {post : Int32 → PX} {gx : Nat → Int32} {lt : Option Nat} {mo : Int32} {ad : Nat} {ln : Int32} {PL : List Nat} {pf : Nat → va_E} {pw : Nat → Int64} {pk : Int32} {lw : Nat → Int64} {lk : Int32} {ik : Nat → Int32} {p2 : Int32}
theorem a_feed {v : Int} (h : RX E a gx lt ad ln PL pf pw pk lw lk ik) (hi : Inv a) (h1 : 0 ≤ v) (h2 : v ≤ 255) (hp : OX E (post (if 8 ≤ (aQ a).length then 0 else 1)) (aFeed v a)) : wp_L_act E post gx lt mo ad ln PL pf pw pk lw lk ik 0 (iI v) p2 := by
  unfold wp_L_act
  refine if_t rfl (s_feed h hi (by omega) (by omega) (fun _ => ?_) (fun n => absurd ⟨h1, h2⟩ n))
  intro gx lt mo ad ln PL pf pw pk lw lk ik h'
  have := hp gx lt mo ad ln PL pf pw pk lw lk ik h'
  by_cases e : 8 ≤ (aQ a).length
  · rw [if_pos e] at this ⊢
    exact if_t rfl this
  · rw [if_neg e] at this ⊢
    exact if_f (by decide) this
theorem a_feedX {v : Int} (h : RX E a gx lt ad ln PL pf pw pk lw lk ik) (hi : Inv a) (h1 : -2147483648 ≤ v) (h2 : v < 2147483648) (hn : ¬ (0 ≤ v ∧ v ≤ 255)) (hp : post (-1152) gx lt mo ad ln PL pf pw pk lw lk ik) : wp_L_act E post gx lt mo ad ln PL pf pw pk lw lk ik 0 (iI v) p2 := by
  unfold wp_L_act
  exact if_t rfl (s_feed h hi h1 h2 (fun n => absurd n hn) (fun _ => Or.inr ⟨rfl, hp⟩))
theorem a_tick (h : RX E a gx lt ad ln PL pf pw pk lw lk ik) (hi : Inv a) (hp : OX E (post (iI ((aDo a).1 17 + (aDo a).1 18 - (a.1 17 + a.1 18)))) (aDo a)) : wp_L_act E post gx lt mo ad ln PL pf pw pk lw lk ik 1 1 p2 := by
  unfold wp_L_act
  refine if_f (by decide) (if_t rfl ?_)
  have := s_tick (E := E) (a := a) (post := post) (postX := fun E9 : String => (E9 = sIB ∧ post (-1151) gx lt mo ad ln PL pf pw pk lw lk ik) ∨ (E9 = sIA ∧ post (-1152) gx lt mo ad ln PL pf pw pk lw lk ik)) (mo := mo) (x := 1) h hi (by omega) (by omega) (fun _ => hp) (fun n => absurd ⟨by omega, by omega⟩ n)
  exact this
theorem a_tickX {v : Int} (h : RX E a gx lt ad ln PL pf pw pk lw lk ik) (hi : Inv a) (h1 : -2147483648 ≤ v) (h2 : v < 2147483648) (hn : ¬ (1 ≤ v ∧ v ≤ 1000)) (hp : post (-1152) gx lt mo ad ln PL pf pw pk lw lk ik) : wp_L_act E post gx lt mo ad ln PL pf pw pk lw lk ik 1 (iI v) p2 := by
  unfold wp_L_act
  exact if_f (by decide) (if_t rfl (s_tick h hi h1 h2 (fun n => absurd n hn) (fun _ => Or.inr ⟨rfl, hp⟩)))
theorem a_refill {v : Int} (h : RX E a gx lt ad ln PL pf pw pk lw lk ik) (h1 : 0 ≤ v) (h2 : v ≤ 2) (hp : OX E (post (iI (aI a v.toNat))) (aInk v.toNat 500 a)) : wp_L_act E post gx lt mo ad ln PL pf pw pk lw lk ik 2 (iI v) p2 := by
  unfold wp_L_act
  exact if_f (by decide) (if_f (by decide) (if_t rfl (s_refill h (by omega) (by omega) (fun _ => hp) (fun n => absurd ⟨h1, h2⟩ n))))
theorem a_refillX {v : Int} (h : RX E a gx lt ad ln PL pf pw pk lw lk ik) (h1 : -2147483648 ≤ v) (h2 : v < 2147483648) (hn : ¬ (0 ≤ v ∧ v ≤ 2)) (hp : post (-1151) gx lt mo ad ln PL pf pw pk lw lk ik) : wp_L_act E post gx lt mo ad ln PL pf pw pk lw lk ik 2 (iI v) p2 := by
  unfold wp_L_act
  exact if_f (by decide) (if_f (by decide) (if_t rfl (s_refill h h1 h2 (fun n => absurd n hn) (fun _ => Or.inl ⟨rfl, hp⟩))))
theorem a_pour {v n : Int} (h : RX E a gx lt ad ln PL pf pw pk lw lk ik) (hi : Inv a) (h1 : 0 ≤ v) (h2 : v ≤ 2) (h3 : 1 ≤ n) (h4 : n ≤ 500) (hp : OX E (post (iI (if aI a v.toNat < n then 0 else aI a v.toNat - n))) (aPour v.toNat n a)) : wp_L_act E post gx lt mo ad ln PL pf pw pk lw lk ik 3 (iI v) (iI n) := by
  unfold wp_L_act
  exact if_f (by decide) (if_f (by decide) (if_f (by decide) (if_t rfl (s_pour h hi (by omega) (by omega) (by omega) (by omega) (fun _ _ => hp) (fun q => absurd ⟨h1, h2⟩ q) (fun _ q => absurd ⟨h3, h4⟩ q)))))
theorem a_pourB {v n : Int} (h : RX E a gx lt ad ln PL pf pw pk lw lk ik) (hi : Inv a) (h1 : -2147483648 ≤ v) (h2 : v < 2147483648) (h3 : -2147483648 ≤ n) (h4 : n < 2147483648) (hn : ¬ (0 ≤ v ∧ v ≤ 2)) (hp : post (-1151) gx lt mo ad ln PL pf pw pk lw lk ik) : wp_L_act E post gx lt mo ad ln PL pf pw pk lw lk ik 3 (iI v) (iI n) := by
  unfold wp_L_act
  exact if_f (by decide) (if_f (by decide) (if_f (by decide) (if_t rfl (s_pour h hi h1 h2 h3 h4 (fun q _ => absurd q hn) (fun _ => Or.inl ⟨rfl, hp⟩) (fun q _ => absurd q hn)))))
theorem a_pourA {v n : Int} (h : RX E a gx lt ad ln PL pf pw pk lw lk ik) (hi : Inv a) (h1 : 0 ≤ v) (h2 : v ≤ 2) (h3 : -2147483648 ≤ n) (h4 : n < 2147483648) (hn : ¬ (1 ≤ n ∧ n ≤ 500)) (hp : post (-1152) gx lt mo ad ln PL pf pw pk lw lk ik) : wp_L_act E post gx lt mo ad ln PL pf pw pk lw lk ik 3 (iI v) (iI n) := by
  unfold wp_L_act
  exact if_f (by decide) (if_f (by decide) (if_f (by decide) (if_t rfl (s_pour h hi (by omega) (by omega) h3 h4 (fun _ q => absurd q hn) (fun q => absurd ⟨h1, h2⟩ q) (fun _ _ => Or.inr ⟨rfl, hp⟩)))))
theorem a_inkX {v : Int} (h : RX E a gx lt ad ln PL pf pw pk lw lk ik) (h1 : -2147483648 ≤ v) (h2 : v < 2147483648) (hn : ¬ (0 ≤ v ∧ v ≤ 2)) (hp : post (-1151) gx lt mo ad ln PL pf pw pk lw lk ik) : wp_L_act E post gx lt mo ad ln PL pf pw pk lw lk ik 4 (iI v) p2 := by
  unfold wp_L_act
  exact if_f (by decide) (if_f (by decide) (if_f (by decide) (if_f (by decide) (if_t rfl (s_ink h h1 h2 (fun n => absurd n hn) (fun _ => Or.inl ⟨rfl, hp⟩))))))
theorem a_markX {v w : Int} (h : RX E a gx lt ad ln PL pf pw pk lw lk ik) (h1 : -2147483648 ≤ v) (h2 : v < 2147483648) (h3 : -2147483648 ≤ w) (h4 : w < 2147483648) (hn : ¬ inP v w) (hp : post (-1151) gx lt mo ad ln PL pf pw pk lw lk ik) : wp_L_act E post gx lt mo ad ln PL pf pw pk lw lk ik 5 (iI v) (iI w) := by
  unfold wp_L_act
  exact if_f (by decide) (if_f (by decide) (if_f (by decide) (if_f (by decide) (if_f (by decide) (s_isMarked h h1 h2 h3 h4 (fun n => absurd n hn) (fun _ => Or.inl ⟨rfl, hp⟩))))))
end ACT
