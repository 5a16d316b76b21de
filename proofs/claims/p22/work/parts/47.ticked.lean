/-! the law's tick -/
theorem kM_rng (a : AS) : 0 ≤ kM a ∧ kM a ≤ 10000 := by
  have := cnt_le (aM a) 10000
  unfold kM
  omega
theorem kB_rng (a : AS) : 0 ≤ kB a ∧ kB a ≤ 10000 := by
  have := cnt_le (aB a) 10000
  unfold kB
  omega
theorem rlm_up {mw mw1 : Nat → Int32} {L : Option Cm} (h : RLm mw L) (e : ∀ i, 2 ≤ i → i ≤ 4 → mw1 i = mw i) : RLm mw1 L := by
  cases L with
  | none => show mw1 2 = iI 0; rw [e 2 (by omega) (by omega)]; exact h
  | some c => exact ⟨by rw [e 2 (by omega) (by omega)]; exact h.1, by rw [e 3 (by omega) (by omega)]; exact h.2.1, by rw [e 4 (by omega) (by omega)]; exact h.2.2⟩
theorem ra_keep {a b : AS} {cw mw mw1 : Nat → Int32} (h : RA a cw mw) (e7 : b.1 7 = a.1 7) (e9 : b.1 9 = a.1 9) (e10 : b.1 10 = a.1 10) (eL : aL b = aL a) (hq : aQ b = aQ a) (e11 : b.1 11 = a.1 11) (e12 : b.1 12 = a.1 12) (hm : ∀ i, i ≠ 7 → mw1 i = mw i) (hm7 : mw1 7 = iI (b.1 13)) : RA b cw mw1 := by
  obtain ⟨⟨h0, h1, h2, h5, h6, h7⟩, hc⟩ := h
  refine ⟨⟨?_, ?_, ?_, ?_, ?_, hm7⟩, ?_⟩
  · rw [hm 0 (by omega), hq]; exact h0
  · rw [hm 1 (by omega), e7]; exact h1
  · rw [eL]; exact rlm_up h2 fun i h1 h2 => hm i (by omega)
  · rw [hm 5 (by omega), e9]; exact h5
  · rw [hm 6 (by omega), e10]; exact h6
  · rw [hq, e11, e12]; exact hc
theorem ra_move {a b : AS} {cw cw' mw mw1 : Nat → Int32} {c : Cm} {r : List Cm} (h : RA a cw mw) (hq : aQ a = c :: r) (hq' : aQ b = r) (e7 : b.1 7 = a.1 7) (e9 : b.1 9 = a.1 9) (e10 : b.1 10 = a.1 10) (eL : aL b = aL a) (e11 : b.1 11 = a.1 11 + cdx c) (e12 : b.1 12 = a.1 12 + cdy c) (e13 : b.1 13 = 0) (hm : ∀ i, i ≠ 7 → mw1 i = mw i) (hc : ∀ i, i < 4 * r.length → cw' i = cw (i + 4)) : RA b cw' (upd (upd mw1 7 0) 0 (iI (r.length : Int))) := by
  obtain ⟨⟨h0, h1, h2, h5, h6, h7⟩, hR⟩ := h
  refine ⟨⟨?_, ?_, ?_, ?_, ?_, ?_⟩, ?_⟩
  · rw [hq']; rfl
  · show mw1 1 = _
    rw [hm 1 (by omega), e7]; exact h1
  · rw [eL]
    refine rlm_up h2 fun i h1 h2 => ?_
    show upd (upd mw1 7 0) 0 (iI (r.length : Int)) i = mw i
    unfold upd
    rw [if_neg (by omega), if_neg (by omega)]
    exact hm i (by omega)
  · show mw1 5 = _
    rw [hm 5 (by omega), e9]; exact h5
  · show mw1 6 = _
    rw [hm 6 (by omega), e10]; exact h6
  · show (0 : Int32) = iI (b.1 13)
    rw [e13]; rfl
  · rw [hq', e11, e12]
    rw [hq] at hR
    exact rcq_move hR.2 fun i hi => hc i (by omega)
section TICK
variable {E : EV} {a b : AS} {post : Int32 → PXL} {gx : Nat → Int32} {lt : Option Nat} {mo : Int32} {ad : Nat} {ln : Int32} {PL : List Nat} {pf : Nat → va_E} {pw : Nat → Int64} {pk : Int32} {lw : Nat → Int64} {lk : Int32} {ik : Nat → Int32} {cw mw : Nat → Int32} {c : Cm} {r : List Cm} {st dn : Bool} {x15 x16 : Int32}
theorem s_tk494 (h : RX E b gx lt ad ln PL pf pw pk lw lk ik) (hI : Inv b) (hJ : JA b) (h6 : b.1 6 = 0) (hR : RA a cw mw) (hia : Inv a) (hq : aQ a = c :: r) (T : TK a b c r st dn) (h15 : x15 = if st = true then 1 else 0) (h16 : x16 = if dn = true then 1 else 0) {mw1 : Nat → Int32} (hm : ∀ i, i ≠ 7 → mw1 i = mw i) (hm7 : mw1 7 = iI (a.1 13 + (if st = true then 1 else 0))) (hp : OL E (post 1)) : wp_L_isTicked_L494 E post 1 gx lt mo ad ln PL pf pw pk lw lk ik cw mw1 (iI c.1) x15 x16 := by
  obtain ⟨T1, T2, T3, T4, T5, T6, T7, T8, T9, ⟨T10, T11, T12, T13⟩, T14⟩ := T
  have hoc := hia.1.1 c (by rw [hq]; exact List.mem_cons_self)
  have hk : 1 ≤ c.1 ∧ c.1 ≤ 3 := by
    rcases hoc with h | h
    · omega
    · have := h.1; omega
  have hl := hia.2.2.2.2
  rw [hq] at hl
  have hl1 : (c :: r).length = r.length + 1 := rfl
  rw [wp_L_isTicked_L494]
  simp only [t1]
  have hc := hR.2
  rw [hq] at hc
  have c1 : cw 1 = iI c.2.1 := hc.1.2.1
  have x3 : (iI c.1 = (3 : Int32)) ↔ c.1 = 3 := by rw [l3, iI_eq (by omega) (by omega) (by omega) (by omega)]
  rw [c1, x3]
  cases dn with
  | false =>
    rw [h16]
    refine if_t (by decide) ?_
    rw [if_neg (by decide)] at T6 T14
    refine hp b _ _ _ _ _ _ _ _ _ _ _ _ _ _ h ⟨hI, hJ, ra_keep hR T10 T11 T12 T13 (by rw [T6, hq]) T14.2.1 T14.2.2 hm (by rw [hm7, T14.1]), h6⟩
  | true =>
    rw [h16]
    refine if_f (by decide) ?_
    rw [if_pos rfl] at T6 T14
    have mv : wp_L_moves E (fun (cw_1 : Nat → Int32) (mw_1 : Nat → Int32) => post 1 gx lt mo ad ln PL pf pw pk lw lk ik cw_1 mw_1) cw mw1 := by
      refine s_moves (n := r.length) (by omega) ?_ fun cw' hc' => ?_
      · rw [hm 0 (by omega), hR.1.1, hq]; rfl
      · exact hp b _ _ _ _ _ _ _ _ _ _ _ _ _ _ h ⟨hI, hJ, ra_move hR hq T6 T10 T11 T12 T13 T14.2.1 T14.2.2 T14.1 hm hc', h6⟩
    refine ⟨fun e3 => g_pen h (if_t ?_ mv), fun e3 => ?_⟩
    · rcases T9 rfl with ⟨-, -, e⟩ | e
      · rw [e]
      · exact absurd e3 (T1.mp e).1
    · have es : st = true := by
        rcases T9 rfl with ⟨e, -, -⟩ | e
        · exact absurd e e3
        · exact e
      refine if_f ?_ mv
      rw [h15, if_pos es]; decide
theorem s_tk319 (h : RX E b gx lt ad ln PL pf pw pk lw lk ik) (hI : Inv b) (hJ : JA b) (h6 : b.1 6 = 0) (hR : RA a cw mw) (hia : Inv a) (hq : aQ a = c :: r) (T : TK a b c r st dn) (h15 : x15 = if st = true then 1 else 0) (h16 : x16 = if dn = true then 1 else 0) (hp : OL E (post 1)) : wp_L_isTicked_L319 E post 1 gx lt mo ad ln PL pf pw pk lw lk ik cw mw (iI (kM a)) (iI (a.1 16)) (iI (aI a (a.1 16).toNat)) (iI (pL a)) (iI (a.1 15)) (iI c.1) x15 x16 := by
  have K : ∀ {mw1 : Nat → Int32}, mw1 = upd mw 7 (mw 7 + (if st = true then 1 else 0)) → ∃ n : Nat, wp_L_isTicked_L494 E post n gx lt mo ad ln PL pf pw pk lw lk ik cw mw1 (iI c.1) x15 x16 := by
    intro mw1 hm
    refine ⟨1, s_tk494 h hI hJ h6 hR hia hq T h15 h16 (fun i hi => ?_) ?_ hp⟩
    · rw [hm]; exact if_neg hi
    · rw [hm]
      show mw 7 + (if st = true then 1 else 0) = _
      rw [hR.1.2.2.2.2.2, l1, l0, iI_if, iI_add]
  obtain ⟨T1, T2, T3, T4, T5, T6, T7, T8, T9, T10, T14⟩ := T
  have hoc := hia.1.1 c (by rw [hq]; exact List.mem_cons_self)
  have hk : 1 ≤ c.1 ∧ c.1 ≤ 3 := by
    rcases hoc with h | h
    · omega
    · have := h.1; omega
  have a15 := hia.2.2.1.2.1
  have a16 := hia.2.2.1.2.2.1
  have b15 := hI.2.2.1.2.1
  have b16 := hI.2.2.1.2.2.1
  rw [wp_L_isTicked_L319]
  simp only [t7]
  have x3 : (iI c.1 = (3 : Int32)) ↔ c.1 = 3 := by rw [l3, iI_eq (by omega) (by omega) (by omega) (by omega)]
  have x2 : (iI c.1 = (2 : Int32)) ↔ c.1 = 2 := by rw [l2, iI_eq (by omega) (by omega) (by omega) (by omega)]
  have d0 : ((0 : Int32) = iI (a.1 15)) ↔ a.1 15 = 0 := by rw [l0, iI_eq (by omega) (by omega) (by omega) (by omega)]; omega
  have d0' : (iI (a.1 15) = (0 : Int32)) ↔ a.1 15 = 0 := by rw [l0, iI_eq (by omega) (by omega) (by omega) (by omega)]
  have d1 : ((1 : Int32) = iI (a.1 15)) ↔ a.1 15 = 1 := by rw [l1, iI_eq (by omega) (by omega) (by omega) (by omega)]; omega
  rw [x3, x2, d0, d0', d1]
  cases st with
  | false =>
    have k := K (mw1 := upd mw 7 (mw 7 + 0)) rfl
    obtain ⟨U1, U2, U3, U4⟩ := T8 rfl
    have D : ¬ iI (b.1 16) = iI (a.1 16) → ¬ x16 = 0 ∧ c.1 = 3 ∧ a.1 15 = 0 := by
      intro n
      rcases U4 with e | ⟨e1, e2, e3⟩
      · exact absurd (iI_inj e) n
      · exact ⟨by rw [h16, if_pos e1]; decide, e2, e3⟩
    refine if_t h15 (s_at h hI (if_t (show iI (100 * carY b + carX b) = iI (pL a) from iI_inj U1) (g_ink h a16.1 a16.2 (if_t (by rw [U2]) (s_isDown h hI ?_)))))
    refine ⟨fun _ => g_pen h ⟨fun _ => k, fun n => ?_⟩, fun nd => ⟨fun e2 => ?_, fun e2 => ?_⟩⟩
    · exact if_f (D n).1 (if_t (D n).2.1 (if_t (D n).2.2 k))
    · have u3 : a.1 15 = 1 ↔ ¬ c.1 = 2 := by
        rcases U3 with e | e
        · exact absurd (iI_inj e) nd
        · exact e
      exact if_t (by omega) (g_pen h ⟨fun _ => k, fun n => if_f (D n).1 (if_t (D n).2.1 (if_t (D n).2.2 k))⟩)
    · have u3 : a.1 15 = 1 ↔ ¬ c.1 = 2 := by
        rcases U3 with e | e
        · exact absurd (iI_inj e) nd
        · exact e
      exact if_t (by omega) (g_pen h ⟨fun _ => k, fun n => if_f (D n).1 (if_t (D n).2.1 (if_t (D n).2.2 k))⟩)
  | true =>
    have k := K (mw1 := upd mw 7 (mw 7 + 1)) rfl
    obtain ⟨U1, U2, U3, U4⟩ := T7 rfl
    refine if_f (by rw [h15]; decide) (s_isDown h hI (if_t (by rw [U1]) (g_ink h a16.1 a16.2 ⟨fun e2 => ?_, fun e2 => ?_⟩)))
    · rw [if_pos e2] at U2
      exact if_t (by rw [U2, l1, iI_sub]) (g_pen h (if_t (by rw [U4]) k))
    · rw [if_neg e2] at U2
      exact if_t (by rw [U2, l0, iI_sub]) (g_marks h (if_t (show iI (kM b) = iI (kM a) by rw [U3 e2]) (g_pen h (if_t (by rw [U4]) k))))
theorem s_tk195 (h : RX E b gx lt ad ln PL pf pw pk lw lk ik) (hI : Inv b) (hJ : JA b) (h6 : b.1 6 = 0) (hR : RA a cw mw) (hia : Inv a) (hq : aQ a = c :: r) (T : TK a b c r st dn) (h15 : x15 = if st = true then 1 else 0) (h16 : x16 = if dn = true then 1 else 0) (hp : OL E (post 1)) {x12 : Int32} : wp_L_isTicked_L195 E post 1 gx lt mo ad ln PL pf pw pk lw lk ik cw mw (iI (tL a)) (iI ((aQ a).length : Int)) (iI (a.1 17)) (iI (a.1 18)) (iI (kM a)) (iI (a.1 16)) (iI (aI a (a.1 16).toNat)) (iI (pL a)) (iI (a.1 15)) x12 (iI c.1) (iI (b.1 17 + b.1 18 - (a.1 17 + a.1 18))) x15 x16 := by
  have K : ∃ n : Nat, wp_L_isTicked_L319 E post n gx lt mo ad ln PL pf pw pk lw lk ik cw mw (iI (kM a)) (iI (a.1 16)) (iI (aI a (a.1 16).toNat)) (iI (pL a)) (iI (a.1 15)) (iI c.1) x15 x16 := ⟨1, s_tk319 h hI hJ h6 hR hia hq T h15 h16 hp⟩
  obtain ⟨T1, T2, T3, T4, T5, T6, T7, T8, T9, T10, T14⟩ := T
  have hoc := hia.1.1 c (by rw [hq]; exact List.mem_cons_self)
  have hk : 1 ≤ c.1 ∧ c.1 ≤ 3 := by
    rcases hoc with h | h
    · omega
    · have := h.1; omega
  have ka := kM_rng a
  have kb := kM_rng b
  have hl : (aQ a).length = r.length + 1 := by rw [hq]; rfl
  have Q : wp_X2_queued E (fun r_1414 : Int32 => ((r_1414 = iI ((aQ a).length : Int) → (∃ n : Nat, wp_L_isTicked_L319 E post n gx lt mo ad ln PL pf pw pk lw lk ik cw mw (iI (kM a)) (iI (a.1 16)) (iI (aI a (a.1 16).toNat)) (iI (pL a)) (iI (a.1 15)) (iI c.1) x15 x16)) ∧ (¬ (r_1414 = iI ((aQ a).length : Int)) → (wp_X2_queued E (fun r_1473 : Int32 => ((r_1473 = (iI ((aQ a).length : Int) - 1) → (∃ n : Nat, wp_L_isTicked_L319 E post n gx lt mo ad ln PL pf pw pk lw lk ik cw mw (iI (kM a)) (iI (a.1 16)) (iI (aI a (a.1 16).toNat)) (iI (pL a)) (iI (a.1 15)) (iI c.1) x15 x16)) ∧ (¬ (r_1473 = (iI ((aQ a).length : Int) - 1)) → False))) gx lt mo ad ln PL pf pw pk lw lk ik)))) gx lt mo ad ln PL pf pw pk lw lk ik := by
    refine g_queued h ⟨fun _ => K, fun n => ?_⟩
    cases dn with
    | false =>
      rw [if_neg (by decide)] at T6
      exact absurd (by rw [T6, hq]) n
    | true =>
      rw [if_pos rfl] at T6
      refine g_queued h (if_t ?_ K)
      rw [T6, hl, l1, iI_sub]
      apply iI_inj
      omega
  have M : wp_X2_marks E (fun r_1410 : Int32 => ((r_1410 < iI (kM a) → False) ∧ (¬ (r_1410 < iI (kM a)) → (wp_X2_marks E (fun r_1412 : Int32 => (((iI (kM a) + 1) < r_1412 → False) ∧ (¬ (iI (kM a) + 1) < r_1412 → (wp_X2_queued E (fun r_1414 : Int32 => ((r_1414 = iI ((aQ a).length : Int) → (∃ n : Nat, wp_L_isTicked_L319 E post n gx lt mo ad ln PL pf pw pk lw lk ik cw mw (iI (kM a)) (iI (a.1 16)) (iI (aI a (a.1 16).toNat)) (iI (pL a)) (iI (a.1 15)) (iI c.1) x15 x16)) ∧ (¬ (r_1414 = iI ((aQ a).length : Int)) → (wp_X2_queued E (fun r_1473 : Int32 => ((r_1473 = (iI ((aQ a).length : Int) - 1) → (∃ n : Nat, wp_L_isTicked_L319 E post n gx lt mo ad ln PL pf pw pk lw lk ik cw mw (iI (kM a)) (iI (a.1 16)) (iI (aI a (a.1 16).toNat)) (iI (pL a)) (iI (a.1 15)) (iI c.1) x15 x16)) ∧ (¬ (r_1473 = (iI ((aQ a).length : Int) - 1)) → False))) gx lt mo ad ln PL pf pw pk lw lk ik)))) gx lt mo ad ln PL pf pw pk lw lk ik)))) gx lt mo ad ln PL pf pw pk lw lk ik)))) gx lt mo ad ln PL pf pw pk lw lk ik := by
    refine g_marks h (if_f ?_ (g_marks h (if_f ?_ Q)))
    · show ¬ iI (kM b) < iI (kM a)
      rw [iI_lt (by omega) (by omega) (by omega) (by omega)]
      omega
    · show ¬ iI (kM a) + 1 < iI (kM b)
      rw [l1, iI_add, iI_lt (by omega) (by omega) (by omega) (by omega)]
      omega
  have z2 : iI (tL b) = iI (tL a) - 1 := by rw [l1, iI_sub, T2]
  have x1 : (iI c.1 = (1 : Int32)) ↔ c.1 = 1 := by rw [l1, iI_eq (by omega) (by omega) (by omega) (by omega)]
  have x2 : (iI c.1 = (2 : Int32)) ↔ c.1 = 2 := by rw [l2, iI_eq (by omega) (by omega) (by omega) (by omega)]
  have f0 : ∀ x : Int, iI x + 0 = iI (x + 0) := fun x => by rw [l0, iI_add]
  have f1 : ∀ x : Int, iI x + 1 = iI (x + 1) := fun x => by rw [l1, iI_add]
  rw [wp_L_isTicked_L195]
  rw [x1, x2]
  cases st with
  | false =>
    have u3 : b.1 17 = a.1 17 + 0 := T3
    have u4 : b.1 18 = a.1 18 + 0 := T4
    refine if_t h15 (if_t ?_ (s_timeLeft h hI (if_t z2 (g_up h (if_t ?_ (g_down h (if_t ?_ M)))))))
    · rw [u3, u4, l0]
      apply iI_inj
      omega
    · rw [u3, f0]
    · rw [u4, f0]
  | true =>
    have hs := T1.mp rfl
    refine if_f (by rw [h15]; decide) (if_t ?_ (s_timeLeft h hI (if_t z2 (g_up h ⟨fun e1 => ?_, fun e1 => ?_⟩))))
    · rw [T3, T4, l1]
      apply iI_inj
      by_cases e : c.1 = 1
      · rw [if_pos ⟨rfl, e⟩, if_neg (fun h => by omega)]; omega
      · rw [if_neg (fun h => e h.2), if_pos ⟨rfl, by omega⟩]; omega
    · rw [if_pos ⟨rfl, e1⟩] at T3
      rw [if_neg (fun h => by omega)] at T4
      refine if_t (by rw [T3, f1]) (g_down h (if_f (by omega) (if_t (by rw [T4, f0]) M)))
    · rw [if_neg (fun h => e1 h.2)] at T3
      rw [if_pos ⟨rfl, by omega⟩] at T4
      refine if_t (by rw [T3, f0]) (g_down h (if_t (by omega) (if_t (by rw [T4, f1]) M)))
theorem s_tk179 (h : RX E b gx lt ad ln PL pf pw pk lw lk ik) (hI : Inv b) (hJ : JA b) (h6 : b.1 6 = 0) (hR : RA a cw mw) (hia : Inv a) (hq : aQ a = c :: r) (T : TK a b c r st dn) (h15 : x15 = if st = true then 1 else 0) (hp : OL E (post 1)) {x12 : Int32} : wp_L_isTicked_L179 E post 1 gx lt mo ad ln PL pf pw pk lw lk ik cw mw (iI (tL a)) (iI ((aQ a).length : Int)) (iI (a.1 17)) (iI (a.1 18)) (iI (kM a)) (iI (a.1 16)) (iI (aI a (a.1 16).toNat)) (iI (pL a)) (iI (a.1 15)) x12 (iI c.1) (iI (b.1 17 + b.1 18 - (a.1 17 + a.1 18))) x15 := by
  have K : ∀ x16 : Int32, (x16 = if dn = true then 1 else 0) → ∃ n : Nat, wp_L_isTicked_L195 E post n gx lt mo ad ln PL pf pw pk lw lk ik cw mw (iI (tL a)) (iI ((aQ a).length : Int)) (iI (a.1 17)) (iI (a.1 18)) (iI (kM a)) (iI (a.1 16)) (iI (aI a (a.1 16).toNat)) (iI (pL a)) (iI (a.1 15)) x12 (iI c.1) (iI (b.1 17 + b.1 18 - (a.1 17 + a.1 18))) x15 x16 := fun x16 h16 => ⟨1, s_tk195 h hI hJ h6 hR hia hq T h15 h16 hp⟩
  obtain ⟨T1, T2, T3, T4, T5, T6, T7, T8, T9, T10, T14⟩ := T
  have hl : (aQ a).length = r.length + 1 := by rw [hq]; rfl
  have ha := hia.2.2.2.2
  have hb := hI.2.2.2.2
  rw [wp_L_isTicked_L179]
  refine g_queued h ?_
  rw [iI_le (by omega) (by omega) (by omega) (by omega)]
  cases dn with
  | false =>
    rw [if_neg (by decide)] at T6
    have e : (aQ b).length = (aQ a).length := by rw [T6, hq]
    exact if_t (by omega) (K _ rfl)
  | true =>
    rw [if_pos rfl] at T6
    have e : (aQ b).length = r.length := by rw [T6]
    exact if_f (by omega) (K _ rfl)
/-- a tick that does nothing -/
theorem s_tkN (h : RX E a gx lt ad ln PL pf pw pk lw lk ik) (hL : LI a cw mw) (hp : OL E (post 1)) : wp_X2_timeLeft E (fun r_1388 : Int32 => ((r_1388 = iI (tL a) → (wp_X2_at E (fun r_1390 : Int32 => ((r_1390 = iI (pL a) → (wp_X2_marks E (fun r_1392 : Int32 => ((r_1392 = iI (kM a) → (wp_X2_stepsUp E (fun r_1394 : Int32 => ((r_1394 = iI (a.1 17) → (wp_X2_stepsDown E (fun r_1396 : Int32 => ((r_1396 = iI (a.1 18) → post 1 gx lt mo ad ln PL pf pw pk lw lk ik cw mw) ∧ (¬ (r_1396 = iI (a.1 18)) → False))) gx lt mo ad ln PL pf pw pk lw lk ik)) ∧ (¬ (r_1394 = iI (a.1 17)) → False))) gx lt mo ad ln PL pf pw pk lw lk ik)) ∧ (¬ (r_1392 = iI (kM a)) → False))) gx lt mo ad ln PL pf pw pk lw lk ik)) ∧ (¬ (r_1390 = iI (pL a)) → False))) gx lt mo ad ln PL pf pw pk lw lk ik)) ∧ (¬ (r_1388 = iI (tL a)) → False))) gx lt mo ad ln PL pf pw pk lw lk ik := by
  have hi := hL.1
  exact s_timeLeft h hi (if_t rfl (s_at h hi (if_t rfl (g_marks h (if_t rfl (g_up h (if_t rfl (g_down h (if_t rfl (hp a _ _ _ _ _ _ _ _ _ _ _ _ _ _ h hL))))))))))
theorem s_tk76 (h : RX E a gx lt ad ln PL pf pw pk lw lk ik) (hL : LI a cw mw) (hp : OL E (post 1)) {x13 : Int32} (hx : ∀ c r, aQ a = c :: r → x13 = iI c.1) (hx0 : aQ a = [] → x13 = 0) : wp_L_isTicked_L76 E post 1 gx lt mo ad ln PL pf pw pk lw lk ik cw mw (iI (tL a)) (iI ((aQ a).length : Int)) (iI (a.1 17)) (iI (a.1 18)) (iI (kM a)) (iI (a.1 16)) (iI (aI a (a.1 16).toNat)) (iI (pL a)) (iI (a.1 15)) (iI (if lacks a = true then 1 else 0)) x13 := by
  obtain ⟨hi, hj, hR, h6⟩ := id hL
  have hid := inv_do hi
  have hjd := ja_do hj hi
  have h6d : (aDo a).1 6 = 0 := by rw [do_lo a (by omega)]; exact h6
  have a15 := hi.2.2.1.2.1
  rw [wp_L_isTicked_L76]
  refine a_tick h hi ?_
  intro gx lt mo ad ln PL pf pw pk lw lk ik h'
  cases hq : aQ a with
  | nil =>
    have ed := aDo_nil hq
    rw [ed] at h' ⊢
    rw [← hq]
    refine if_t (hx0 hq) (if_t ?_ (s_tkN h' hL hp))
    rw [l0]; apply iI_inj; omega
  | cons c r =>
    have hoc := hi.1.1 c (by rw [hq]; exact List.mem_cons_self)
    have hk : 1 ≤ c.1 ∧ c.1 ≤ 3 := by
      rcases hoc with h | h
      · omega
      · have := h.1; omega
    have x0 : (iI c.1 = (0 : Int32)) ↔ c.1 = 0 := by rw [l0, iI_eq (by omega) (by omega) (by omega) (by omega)]
    have x3 : (iI c.1 = (3 : Int32)) ↔ c.1 = 3 := by rw [l3, iI_eq (by omega) (by omega) (by omega) (by omega)]
    have x2 : (iI c.1 = (2 : Int32)) ↔ c.1 = 2 := by rw [l2, iI_eq (by omega) (by omega) (by omega) (by omega)]
    have d0 : (iI (a.1 15) = (0 : Int32)) ↔ a.1 15 = 0 := by rw [l0, iI_eq (by omega) (by omega) (by omega) (by omega)]
    have d1 : (iI (a.1 15) = (1 : Int32)) ↔ a.1 15 = 1 := by rw [l1, iI_eq (by omega) (by omega) (by omega) (by omega)]
    rw [hx c r hq, x0, x3, x2, d0, d1, ← hq]
    refine if_f (by omega) ?_
    by_cases hl : lacks a = true
    · have ed : aDo a = a := by rw [aDo_cons hq, if_pos hl]
      rw [ed] at h' ⊢
      rw [if_pos hl]
      refine if_f (by decide) (if_t ?_ (s_tkN h' hL hp))
      rw [l0]; apply iI_inj; omega
    · have hl : lacks a = false := by simpa using hl
      obtain ⟨st, dn, T⟩ := tk_do hi hj hq hl
      have T1 := T.1
      have K : ∀ x15 : Int32, (x15 = if st = true then 1 else 0) → ∃ n : Nat, wp_L_isTicked_L179 E post n gx lt mo ad ln PL pf pw pk lw lk ik cw mw (iI (tL a)) (iI ((aQ a).length : Int)) (iI (a.1 17)) (iI (a.1 18)) (iI (kM a)) (iI (a.1 16)) (iI (aI a (a.1 16).toNat)) (iI (pL a)) (iI (a.1 15)) (iI (if lacks a = true then 1 else 0)) (iI c.1) (iI ((aDo a).1 17 + (aDo a).1 18 - (a.1 17 + a.1 18))) x15 := fun x15 h15 => ⟨1, s_tk179 h' hid hjd h6d hR hi hq T h15 hp⟩
      have KF : st = false → _ := fun e => K 0 (by rw [e]; rfl)
      have KT : st = true → _ := fun e => K 1 (by rw [e]; rfl)
      have nF : ¬ (¬ c.1 = 3 ∧ (a.1 15 = 1 ↔ c.1 = 2)) → st = false := fun n => by
        cases st with
        | false => rfl
        | true => exact absurd (T1.mp rfl) n
      refine if_t (by rw [hl]; decide) ⟨fun e3 => KF (nF (by omega)), fun e3 => ⟨fun e2 => ⟨fun e => KT (T1.mpr (by omega)), fun e => KF (nF (by omega))⟩, fun e2 => ⟨fun e => KT (T1.mpr (by omega)), fun e => KF (nF (by omega))⟩⟩⟩
theorem s_isTicked (h : RX E a gx lt ad ln PL pf pw pk lw lk ik) (hL : LI a cw mw) (hp : OL E (post 1)) : wp_L_isTicked E post gx lt mo ad ln PL pf pw pk lw lk ik cw mw := by
  obtain ⟨hi, hj, hR, h6⟩ := id hL
  have a16 := hi.2.2.1.2.2.1
  have hl := hi.2.2.2.2
  unfold wp_L_isTicked
  refine s_timeLeft h hi (g_queued h (g_up h (g_down h (g_marks h (g_pen h (g_ink h a16.1 a16.2 (s_at h hi (s_isDown h hi (s_waiting h hi ?_)))))))))
  simp only [t0]
  rw [hR.1.1]
  have z : (iI ((aQ a).length : Int) = (0 : Int32)) ↔ aQ a = [] := by
    rw [l0, iI_eq (by omega) (by omega) (by omega) (by omega)]
    constructor
    · intro e; exact List.length_eq_zero_iff.mp (by omega)
    · intro e; rw [e]; rfl
  rw [z]
  refine ⟨fun e => ⟨1, s_tk76 h hL hp (fun c r hq => by rw [e] at hq; cases hq) (fun _ => rfl)⟩, fun e => ⟨1, s_tk76 h hL hp (fun c r hq => ?_) (fun q => absurd q e)⟩⟩
  have hc := hR.2
  rw [hq] at hc
  exact hc.1.1
end TICK
