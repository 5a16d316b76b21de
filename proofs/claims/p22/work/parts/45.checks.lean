/-! what is refused changes nothing; a cut; the carriage is on the line -/
theorem cmp_self (v : Int64) : lg_cmp v v = 0 := by
  unfold lg_cmp
  rw [if_neg (fun h => Int64.lt_irrefl h), if_pos rfl]
theorem l1001 : (1001 : Int32) = iI 1001 := by decide
theorem l501 : (501 : Int32) = iI 501 := by decide
theorem s_refused {E : EV} {a : AS} {post : Int32 → PX} {gx : Nat → Int32} {lt : Option Nat} {mo : Int32} {ad : Nat} {ln : Int32} {PL : List Nat} {pf : Nat → va_E} {pw : Nat → Int64} {pk : Int32} {lw : Nat → Int64} {lk : Int32} {ik : Nat → Int32} {x : Int} (h : RX E a gx lt ad ln PL pf pw pk lw lk ik) (hi : Inv a) (h0 : 0 ≤ x) (h1 : x < 2147483648) (hp : OX E (post 1) a) : wp_L_isRefused E post gx lt mo ad ln PL pf pw pk lw lk ik (iI x) := by
  have hp := hp _ _ mo _ _ _ _ _ _ _ _ _ h
  have e2 : iI x - iI x / 2 * 2 = iI (x % 2) := by rw [l2]; exact q_rem h0 h1 (by omega) (by omega)
  have e30 : iI x - iI x / 30 * 30 = iI (x % 30) := by rw [l30]; exact q_rem h0 h1 (by omega) (by omega)
  have ed : iI x / 2 = iI (x / 2) := by rw [l2]; exact q_quo h0 h1 (by omega) (by omega)
  have e3 : iI (x / 2) - iI (x / 2) / 3 * 3 = iI (x / 2 % 3) := by rw [l3]; exact q_rem (by omega) (by omega) (by omega) (by omega)
  have em : (-1 : Int32) - iI (x % 30) = iI (-1 - x % 30) := by rw [lm1, iI_sub]
  have ez : (0 : Int32) - iI (x % 30) = iI (0 - x % 30) := by rw [l0, iI_sub]
  have ea : (3 : Int32) + iI (x % 30) = iI (3 + x % 30) := by rw [l3, iI_add]
  have eb : (100 : Int32) + iI (x % 30) = iI (100 + x % 30) := by rw [l100, iI_add]
  have ec : (256 : Int32) + iI (x % 30) = iI (256 + x % 30) := by rw [l256, iI_add]
  unfold wp_L_isRefused
  rw [e2, e30, ed, e3, em, ez, ea, eb, ec, l5, l1001, l501]
  have hz : (iI (x % 2) = 0) ↔ x % 2 = 0 := by rw [l0, iI_eq (by omega) (by omega) (by omega) (by omega)]
  by_cases hx : x % 2 = 0
  · refine if_t (hz.mpr hx) (s_all h hi ?_)
    refine a_feedX h hi (by omega) (by omega) (by omega) (if_t rfl ?_)
    refine a_tickX h hi (by omega) (by omega) (by omega) (if_t rfl ?_)
    refine a_refillX h (by omega) (by omega) (by omega) (if_t rfl ?_)
    rw [l0]
    refine a_pourB h hi (by omega) (by omega) (by omega) (by omega) (by omega) (if_t rfl ?_)
    refine a_pourA h hi (by omega) (by omega) (by omega) (by omega) (by omega) (if_t rfl ?_)
    refine a_inkX h (by omega) (by omega) (by omega) (if_t rfl ?_)
    refine a_markX h (by omega) (by omega) (by omega) (by omega) (by unfold inP; omega) (if_t rfl ?_)
    refine a_markX h (by omega) (by omega) (by omega) (by omega) (by unfold inP; omega) (if_t rfl ?_)
    exact s_all h hi (if_t (cmp_self _) hp)
  · refine if_f (fun e => hx (hz.mp e)) (s_all h hi ?_)
    refine a_feedX h hi (by omega) (by omega) (by omega) (if_t rfl ?_)
    refine a_tickX h hi (by omega) (by omega) (by omega) (if_t rfl ?_)
    refine a_refillX h (by omega) (by omega) (by omega) (if_t rfl ?_)
    rw [l0]
    refine a_pourB h hi (by omega) (by omega) (by omega) (by omega) (by omega) (if_t rfl ?_)
    refine a_pourA h hi (by omega) (by omega) (by omega) (by omega) (by omega) (if_t rfl ?_)
    refine a_inkX h (by omega) (by omega) (by omega) (if_t rfl ?_)
    refine a_markX h (by omega) (by omega) (by omega) (by omega) (by unfold inP; omega) (if_t rfl ?_)
    refine a_markX h (by omega) (by omega) (by omega) (by omega) (by unfold inP; omega) (if_t rfl ?_)
    exact s_all h hi (if_t (cmp_self _) hp)
abbrev PXL : Type := (Nat → Int32) → Option Nat → Int32 → Nat → Int32 → List Nat → (Nat → va_E) → (Nat → Int64) → Int32 → (Nat → Int64) → Int32 → (Nat → Int32) → (Nat → Int32) → (Nat → Int32) → Prop
/-- behind a call: the class stands for some state, and the law's arrays say the same -/
def OL (E : EV) (post : PXL) : Prop := ∀ a gx lt mo ad ln PL pf pw pk lw lk ik cw mw, RX E a gx lt ad ln PL pf pw pk lw lk ik → LI a cw mw → post gx lt mo ad ln PL pf pw pk lw lk ik cw mw
theorem rng13 {a : AS} (hi : Inv a) : 0 ≤ a.1 13 ∧ a.1 13 ≤ 128 := by
  have hp := hi.2.2.1.1
  cases hq : aQ a with
  | nil => rw [hq] at hp; have := hp.1; omega
  | cons c r =>
    rw [hq, prog_cons] at hp
    have := okc_rng (hi.1.1 c (by rw [hq]; exact List.mem_cons_self))
    omega
theorem ra_cut {a : AS} {cw mw : Nat → Int32} (h : RA a cw mw) : RA (aCut a) cw (upd mw 7 (iI (a.1 13 - a.1 13 % 10))) := by
  obtain ⟨⟨h0, h1, h2, h5, h6, h7⟩, hq⟩ := h
  refine ⟨⟨h0, h1, ?_, h5, h6, rfl⟩, hq⟩
  have hL : aL (aCut a) = aL a := rfl
  rw [hL]
  cases hz : aL a with
  | none => rw [hz] at h2; exact h2
  | some d => rw [hz] at h2; exact h2
theorem s_isCut {E : EV} {a : AS} {post : Int32 → PXL} {gx : Nat → Int32} {lt : Option Nat} {mo : Int32} {ad : Nat} {ln : Int32} {PL : List Nat} {pf : Nat → va_E} {pw : Nat → Int64} {pk : Int32} {lw : Nat → Int64} {lk : Int32} {ik : Nat → Int32} {cw mw : Nat → Int32} (h : RX E a gx lt ad ln PL pf pw pk lw lk ik) (hL : LI a cw mw) (hp : OL E (post 1)) : wp_L_isCut E post gx lt mo ad ln PL pf pw pk lw lk ik cw mw := by
  obtain ⟨hi, hj, hR, h6⟩ := hL
  have h13 := rng13 hi
  have m7 : mw 7 = iI (a.1 13) := hR.1.2.2.2.2.2
  unfold wp_L_isCut
  refine g_up h (g_down h (g_marks h (g_pen h (s_cut h h13 ?_))))
  intro gx lt mo ad ln PL pf pw pk lw lk ik h'
  have hi' := inv_cut hi
  have hR' := ra_cut hR
  have hj' := ja_cut hj h13.1
  have e13 : (aCut a).1 13 = a.1 13 - a.1 13 % 10 := rfl
  have e14 : (aCut a).1 14 = 0 := rfl
  have e15 : (aCut a).1 15 = 0 := rfl
  have e6 : (aCut a).1 6 = 0 := rfl
  simp only [t7]
  rw [m7, iI_sub]
  refine if_t (by rw [l10, q_rem (by omega) (by omega) (by omega) (by omega)]) ?_
  refine s_isDown h' hi' (if_t (by rw [e15]; rfl) ?_)
  refine g_pending h' (if_t (by rw [e6]; rfl) ?_)
  refine g_up h' (if_t rfl ?_)
  refine g_down h' (if_t rfl ?_)
  refine g_marks h' (if_t rfl ?_)
  refine g_pen h' (if_t rfl ?_)
  refine s_timeLeft h' hi' (s_due h' hi' hR' (if_t ?_ ?_))
  · rw [e14, Int.sub_zero]
  · refine s_cut h' (rng13 hi') ?_
    intro gx lt mo ad ln PL pf pw pk lw lk ik h2
    have hR2 := ra_cut hR'
    have z : (aCut a).1 13 % 10 = 0 := by rw [e13]; omega
    refine if_t (by rw [z]; rfl) (hp (aCut (aCut a)) _ _ _ _ _ _ _ _ _ _ _ _ _ _ h2 ⟨inv_cut hi', ja_cut hj' (rng13 hi').1, ?_, rfl⟩)
    have e : upd (upd mw 7 (iI (a.1 13 - a.1 13 % 10))) 7 (iI ((aCut a).1 13 - (aCut a).1 13 % 10)) = upd mw 7 (iI (a.1 13 - a.1 13 % 10)) := by
      funext i
      unfold upd
      split
      · rw [z, e13, Int.sub_zero]
      · rfl
    rw [e] at hR2
    exact hR2
theorem s_line167 {E : EV} {a : AS} {post : Int32 → Prop} {gx : Nat → Int32} {lt : Option Nat} {mo : Int32} {ad : Nat} {ln : Int32} {PL : List Nat} {pf : Nat → va_E} {pw : Nat → Int64} {pk : Int32} {lw : Nat → Int64} {lk : Int32} {ik : Nat → Int32} {cw mw : Nat → Int32} {g t : Int} {w : Int32} (h : RX E a gx lt ad ln PL pf pw pk lw lk ik) (hL : LI a cw mw) {c : Cm} {r : List Cm} (hq : aQ a = c :: r) (hg : g = a.1 14) (ht : (t = 0 ∨ t = 1) ∧ (t = 1 ↔ ¬ (a.1 15 = 1 ↔ c.1 = 2))) (hw : w = iI (if lacks a = true then 1 else 0)) (hp : post 1) : wp_L_isOnLine_L167 E post gx lt mo ad ln PL pf pw pk lw lk ik cw mw 1 (iI g) (iI t) w := by
  obtain ⟨hi, hj, hR, h6⟩ := hL
  obtain ⟨⟨h0, h1, h2, h5, h6, h7⟩, hc⟩ := hR
  rw [hq] at hc
  obtain ⟨⟨c0, c1, c2, c3⟩, -⟩ := hc
  have c0 : cw 0 = iI c.1 := c0
  have c1 : cw 1 = iI c.2.1 := c1
  have c2 : cw 2 = iI c.2.2 := c2
  have c3 : cw 3 = iI (100 * a.1 12 + a.1 11) := c3
  have hp' := hi.2.2.1.1
  have h15 := hi.2.2.1.2.1
  rw [hq, prog_cons] at hp'
  have hoc := hi.1.1 c (by rw [hq]; exact List.mem_cons_self)
  have hr := okc_rng hoc
  have hk : 1 ≤ c.1 ∧ c.1 ≤ 3 := by
    rcases hoc with h | h
    · omega
    · have := h.1; omega
  have hJ1 := hj.1 c r hq
  subst hg
  rw [wp_L_isOnLine_L167]
  simp only [t0, t3, t7, t1, t2]
  rw [c0, c1, c2, c3, h7]
  have x3 : (iI c.1 = (3 : Int32)) ↔ c.1 = 3 := by rw [l3, iI_eq (by omega) (by omega) (by omega) (by omega)]
  have y0 : (iI (a.1 14) < (0 : Int32)) ↔ a.1 14 < 0 := by rw [l0, iI_lt (by omega) (by omega) (by omega) (by omega)]
  have y2 : ((2 : Int32) < iI (a.1 14)) ↔ 2 < a.1 14 := by rw [l2, iI_lt (by omega) (by omega) (by omega) (by omega)]
  have y1 : ((1 : Int32) < iI (a.1 14)) ↔ 1 < a.1 14 := by rw [l1, iI_lt (by omega) (by omega) (by omega) (by omega)]
  have y3 : ((0 : Int32) < iI (a.1 14)) ↔ 0 < a.1 14 := by rw [l0, iI_lt (by omega) (by omega) (by omega) (by omega)]
  have yt : (iI t = (0 : Int32)) ↔ t = 0 := by rw [l0, iI_eq (by omega) (by omega) (by omega) (by omega)]
  rw [x3, y0, y1, y2, y3, yt]
  have hX := carX_cons hq
  have hY := carY_cons hq
  have hpen : c.1 = 3 → iI (100 * carY a + carX a) = iI (100 * a.1 12 + a.1 11) := by
    intro e
    apply iI_inj
    rw [hX, hY, show cdx c = 0 from if_pos e, show cdy c = 0 from if_pos e, Int.zero_mul, Int.zero_tdiv]
    omega
  have hmot : ¬ c.1 = 3 → ∀ (Q : Prop), Q → wp_L_cell E (fun r_913 : Int32 => ((iI (100 * carY a + carX a) = r_913 → wp_L_size E (fun r_915 : Int32 => ((r_915 ≤ iI (a.1 13) → False) ∧ (¬ (r_915 ≤ iI (a.1 13)) → Q))) (iI c.2.1) (iI c.2.2)) ∧ (¬ (iI (100 * carY a + carX a) = r_913) → False))) cw mw (iI (a.1 13)) := by
    intro e Q hQ
    have ed := okm_d e
    have hn : nst c.2.1 c.2.2 = cn c := by unfold cn; rw [ed.1, ed.2]
    rw [ed.1, ed.2] at hr
    refine s_cell c1 c2 c3 ⟨hr.1, hr.2.1⟩ ⟨hr.2.2.1, hr.2.2.2.1⟩ (by rw [hn]; omega) (by omega) ?_
    refine if_t ?_ ?_
    · apply iI_inj
      rw [hX, hY, ed.1, ed.2, hn]
      omega
    · rw [q_Lsize (by omega) (by omega) (by omega) (by omega), hn]
      exact if_f (by rw [iI_le (by omega) (by omega) (by omega) (by omega)]; omega) hQ
  refine if_f (by omega) ⟨fun e0 => ⟨fun e3 => ?_, fun e3 => ?_⟩, fun e0 => ?_⟩
  · refine if_f (by omega) (s_at h hi (if_t (hpen e3) (s_waiting h hi (if_t hw.symm hp))))
  · refine if_f ?_ (s_at h hi ?_)
    · have := hJ1 e3 (by omega)
      omega
    · exact hmot e3 _ (s_waiting h hi (if_t hw.symm hp))
  · refine if_f (by omega) (s_at h hi ⟨fun e3 => ?_, fun e3 => ?_⟩)
    · exact if_t (hpen e3) (s_waiting h hi (if_t hw.symm hp))
    · exact hmot e3 _ (s_waiting h hi (if_t hw.symm hp))
theorem s_line135 {E : EV} {a : AS} {post : Int32 → Prop} {gx : Nat → Int32} {lt : Option Nat} {mo : Int32} {ad : Nat} {ln : Int32} {PL : List Nat} {pf : Nat → va_E} {pw : Nat → Int64} {pk : Int32} {lw : Nat → Int64} {lk : Int32} {ik : Nat → Int32} {cw mw : Nat → Int32} {g t : Int} (h : RX E a gx lt ad ln PL pf pw pk lw lk ik) (hL : LI a cw mw) {c : Cm} {r : List Cm} (hq : aQ a = c :: r) (hg : g = a.1 14) (ht : (t = 0 ∨ t = 1) ∧ (t = 1 ↔ ¬ (a.1 15 = 1 ↔ c.1 = 2))) (hp : post 1) : wp_L_isOnLine_L135 E post gx lt mo ad ln PL pf pw pk lw lk ik cw mw 1 (iI g) (iI t) := by
  have key : ∀ w : Int32, w = iI (if lacks a = true then 1 else 0) → ∃ n : Nat, wp_L_isOnLine_L167 E post gx lt mo ad ln PL pf pw pk lw lk ik cw mw n (iI g) (iI t) w := fun w hw => ⟨1, s_line167 h hL hq hg ht hw hp⟩
  obtain ⟨hi, hj, hR, h6⟩ := hL
  have hc := hR.2
  rw [hq] at hc
  have c0 : cw 0 = iI c.1 := hc.1.1
  have h15 := hi.2.2.1.2.1
  have h16 := hi.2.2.1.2.2.1
  have hink := hi.2.2.1.2.2.2 (a.1 16).toNat
  have hoc := hi.1.1 c (by rw [hq]; exact List.mem_cons_self)
  have hk : 1 ≤ c.1 ∧ c.1 ≤ 3 := by
    rcases hoc with h | h
    · omega
    · have := h.1; omega
  have hlk := lacks_cons hq
  rw [wp_L_isOnLine_L135]
  simp only [t0]
  rw [c0]
  have x2 : (iI c.1 = (2 : Int32)) ↔ c.1 = 2 := by rw [l2, iI_eq (by omega) (by omega) (by omega) (by omega)]
  rw [x2]
  refine ⟨fun e2 => s_isDown h hi ⟨fun e => key _ ?_, fun e => g_pen h (g_ink h h16.1 h16.2 ⟨fun e3 => key _ ?_, fun e3 => key _ ?_⟩)⟩, fun e2 => key _ ?_⟩
  · have e : a.1 15 = 0 := by rw [l0, iI_eq (by omega) (by omega) (by omega) (by omega)] at e; exact e
    rw [hlk, decide_eq_false (fun h => h.2.1 e)]; rfl
  · have e : ¬ a.1 15 = 0 := by rw [l0, iI_eq (by omega) (by omega) (by omega) (by omega)] at e; exact e
    have e3 : aI a (a.1 16).toNat = 0 := by rw [l0, iI_eq (by omega) (by omega) (by omega) (by omega)] at e3; exact e3
    rw [hlk, decide_eq_true ⟨e2, e, e3⟩]; rfl
  · have e3 : ¬ aI a (a.1 16).toNat = 0 := by rw [l0, iI_eq (by omega) (by omega) (by omega) (by omega)] at e3; exact e3
    rw [hlk, decide_eq_false (fun h => e3 h.2.2)]; rfl
  · rw [hlk, decide_eq_false (fun h => e2 h.1)]; rfl
theorem s_onLine {E : EV} {a : AS} {post : Int32 → Prop} {gx : Nat → Int32} {lt : Option Nat} {mo : Int32} {ad : Nat} {ln : Int32} {PL : List Nat} {pf : Nat → va_E} {pw : Nat → Int64} {pk : Int32} {lw : Nat → Int64} {lk : Int32} {ik : Nat → Int32} {cw mw : Nat → Int32} (h : RX E a gx lt ad ln PL pf pw pk lw lk ik) (hL : LI a cw mw) (hp : post 1) : wp_L_isOnLine E post gx lt mo ad ln PL pf pw pk lw lk ik cw mw := by
  obtain ⟨hi, hj, hR, h6⟩ := id hL
  obtain ⟨⟨h0, h1, h2, h5, h6, h7⟩, hc⟩ := id hR
  have hl := hi.2.2.2.2
  have h15 := hi.2.2.1.2.1
  unfold wp_L_isOnLine
  simp only [t0, t1, t5, t6, t7]
  refine g_queued h (if_t h0.symm (g_errors h (if_t h1.symm ?_)))
  have z0 : (mw 0 = 0) ↔ aQ a = [] := by
    rw [h0, l0, iI_eq (by omega) (by omega) (by omega) (by omega)]
    constructor
    · intro e; exact List.length_eq_zero_iff.mp (by omega)
    · intro e; rw [e]; rfl
  rw [z0]
  refine ⟨fun hq => ?_, fun hq => ?_⟩
  · have hp13 := hi.2.2.1.1
    rw [hq] at hp13
    obtain ⟨p13, p14⟩ := hp13
    have hch := hi.1.2.2
    rw [hq] at hch
    obtain ⟨q1, q2, -⟩ := hch
    refine if_t (by rw [h7, p13]; rfl) (s_timeLeft h hi (if_t ?_ (s_at h hi (if_t ?_ (s_waiting h hi (if_t ?_ (g_marks h (g_plan h (if_t ?_ hp)))))))))
    · rw [hq, p13, p14]; rfl
    · rw [h5, h6, l100, iI_mul, iI_add, carX_nil hq, carY_nil hq, q1, q2]
    · rw [lacks_nil hq]; rfl
    · rw [ja_eq hj hq]
  · obtain ⟨c, r, hq⟩ : ∃ c r, aQ a = c :: r := by
      cases hz : aQ a with
      | nil => exact absurd hz hq
      | cons c r => exact ⟨c, r, rfl⟩
    have hoc := hi.1.1 c (by rw [hq]; exact List.mem_cons_self)
    have hk : 1 ≤ c.1 ∧ c.1 ≤ 3 := by
      rcases hoc with h | h
      · omega
      · have := h.1; omega
    rw [hq] at hc
    have c0 : cw 0 = iI c.1 := hc.1.1
    refine s_due h hi hR (s_timeLeft h hi ?_)
    rw [iI_sub, c0]
    have x2 : (iI c.1 = (2 : Int32)) ↔ c.1 = 2 := by rw [l2, iI_eq (by omega) (by omega) (by omega) (by omega)]
    rw [x2]
    have eg : tl (decide (a.1 15 = 1)) (aQ a) - a.1 13 - (tl (decide (a.1 15 = 1)) (aQ a) - a.1 13 - a.1 14) = a.1 14 := by omega
    have d1 : ((1 : Int32) = iI (a.1 15)) ↔ a.1 15 = 1 := by rw [l1, iI_eq (by omega) (by omega) (by omega) (by omega)]; omega
    have d0 : ((0 : Int32) = iI (a.1 15)) ↔ a.1 15 = 0 := by rw [l0, iI_eq (by omega) (by omega) (by omega) (by omega)]; omega
    refine ⟨fun e2 => s_isDown h hi ?_, fun e2 => s_isDown h hi ?_⟩
    · rw [d1]
      exact ⟨fun e => ⟨1, s_line135 (t := 0) h hL hq eg (by omega) hp⟩, fun e => ⟨1, s_line135 (t := 1) h hL hq eg (by omega) hp⟩⟩
    · rw [d0]
      exact ⟨fun e => ⟨1, s_line135 (t := 0) h hL hq eg (by omega) hp⟩, fun e => ⟨1, s_line135 (t := 1) h hL hq eg (by omega) hp⟩⟩
