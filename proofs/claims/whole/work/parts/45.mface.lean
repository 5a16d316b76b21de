/-! the model's face -/
theorem ot_use {post : PM} {M : Nat → Int} {t : Int} {a : AS} {gm ks os ts iq mk me : Nat → Int32} (h : OT post t a) (hx : RM M a gm ks os ts iq mk me) (hpb : PB M a) (ht : M 26 = t) : post gm ks os ts iq mk me := h M gm ks os ts iq mk me hx hpb ht
theorem rm_0 {M : Nat → Int} {a : AS} {gm ks os ts iq mk me : Nat → Int32} (h : RM M a gm ks os ts iq mk me) : RM (va_up M 26 0) a (upd gm 26 0) ks os ts iq mk me := rm_free h (by omega) l0
theorem m_cut {E : EV} {M : Nat → Int} {a : AS} {post : Int32 → PM} {gm ks os ts iq mk me : Nat → Int32} (h : RM M a gm ks os ts iq mk me) (hi : Inv a) (h13 : 0 ≤ a.1 13 ∧ a.1 13 ≤ 128) (hp : OT (post (iI (a.1 13 % 10))) 0 (aCut a)) : wp_X3_cut E post gm ks os ts iq mk me := by
  obtain ⟨r3, r4, r11, r12, r13, r14, r15, r16, ⟨r17, r18⟩, r19, r20, r22, r23⟩ := id h.2.1
  have hl := hi.2.2.2.2
  have e11 : (aCut a).1 11 = a.1 11 := rfl
  have e12 : (aCut a).1 12 = a.1 12 := rfl
  have e13 : (aCut a).1 13 = a.1 13 - a.1 13 % 10 := rfl
  have hqc : aQ (aCut a) = aQ a := rfl
  have hpb : ∀ N : Nat → Int, N 0 = 0 → PB N (aCut a) := fun N e => ⟨e, fun n => absurd rfl n, fun n => absurd (show (0 : Int) = 2 from n) (by omega)⟩
  have plain : carX (aCut a) = carX a → carY (aCut a) = carY a → post (iI (a.1 13 % 10)) (upd (upd (upd (upd (upd gm 0 0) 13 (iI (a.1 13 - a.1 13 % 10))) 14 0) 19 0) 26 0) ks os ts iq mk me := by
    intro cx cy
    refine ot_use (M := va_up (va_up (va_up (va_up (va_up M 0 0) 13 (a.1 13 - a.1 13 % 10)) 14 0) 19 0) 26 0) hp ⟨gS (gS (gS (gS (gS h.1 l0) rfl) l0) l0) l0, ⟨r3, r4, r11, r12, rfl, rfl, r15, r16, ⟨?_, ?_⟩, rfl, r20, r22, r23⟩, LM_eq h.2.2.1 rfl rfl rfl, h.2.2.2⟩ (hpb _ rfl) rfl
    · rw [cx]; exact r17
    · rw [cy]; exact r18
  unfold wp_X3_cut
  rw [h.1 13, r13, l10, iI_div (by omega) (by omega) (by omega) (by omega), iI_mul, iI_sub, iI_sub, tmod10 h13.1, h.1 4, r4, show (iI ((aQ a).length : Int) ≤ 0 ↔ ((aQ a).length : Int) ≤ 0) from by rw [l0, iI_le (by omega) (by omega) (by omega) (by omega)]]
  cases hq : aQ a with
  | nil =>
    refine ⟨fun _ => plain ?_ ?_, fun n => absurd (by simp) n⟩
    · rw [carX_nil (hqc.trans hq), carX_nil hq, e11]
    · rw [carY_nil (hqc.trans hq), carY_nil hq, e12]
  | cons c r =>
    have hqc2 := hqc.trans hq
    have ho : okc c := hi.1.1 c (by rw [hq]; exact List.mem_cons_self)
    have hR := h.2.2.2.1 0 c (by rw [hq]; rfl)
    have hk1 : 1 ≤ c.1 ∧ c.1 ≤ 3 := by
      rcases ho with ho | ho
      · omega
      · have := ho.1; omega
    rw [show ks (0 : Int32).toNatClampNeg = iI c.1 from hR.1, show (iI c.1 = 3 ↔ c.1 = 3) from by rw [l3, iI_eq (by omega) (by omega) (by omega) (by omega)]]
    refine ⟨fun e => absurd e (by show ¬ ((r.length + 1 : Nat) : Int) ≤ 0; omega), fun _ => ⟨fun e3 => plain ?_ ?_, fun e3 => ?_⟩⟩
    · rw [carX_cons hqc2, carX_cons hq, e11, show cdx c = 0 from if_pos e3]; simp
    · rw [carY_cons hqc2, carY_cons hq, e12, show cdy c = 0 from if_pos e3]; simp
    · have hm : okm c := by rcases ho with ho | ho; exact absurd ho.1 e3; exact ho
      have hb : ∀ j, upd (upd gm 13 (iI (a.1 13 - a.1 13 % 10))) 26 0 j = iI (va_up (va_up M 13 (a.1 13 - a.1 13 % 10)) 26 0 j) := gS (gS h.1 rfl) l0
      refine m_goesTo (c := c) hb hm hR.2.1 hR.2.2 (by omega) (by omega) ?_
      refine ot_use (M := va_up (va_up (va_up (va_up (va_up (va_up (va_up M 13 (a.1 13 - a.1 13 % 10)) 26 0) 17 (carX (aCut a))) 18 (carY (aCut a))) 0 0) 14 0) 19 0) hp ⟨gS (gS (gS (gS (gS hb ?_) ?_) l0) l0) l0, ⟨r3, r4, r11, r12, rfl, rfl, r15, r16, ⟨rfl, rfl⟩, rfl, r20, r22, r23⟩, LM_eq h.2.2.1 rfl rfl rfl, h.2.2.2⟩ (hpb _ rfl) rfl
      · apply iI_inj
        rw [carX_cons hqc2, e11, e13]
        show M 15 + _ = _
        rw [r15]
      · apply iI_inj
        rw [carY_cons hqc2, e12, e13]
        show M 16 + _ = _
        rw [r16]
theorem m_refill {E : EV} {M : Nat → Int} {a : AS} {post : Int32 → PM} {gm ks os ts iq mk me : Nat → Int32} {x : Int} (h : RM M a gm ks os ts iq mk me) (hpb : PB M a) (h1 : -2147483648 ≤ x) (h2 : x < 2147483648) (hp : 0 ≤ x ∧ x ≤ 2 → OT (post (iI (aI a x.toNat))) 0 (aInk x.toNat 500 a)) (hpX : ¬ (0 ≤ x ∧ x ≤ 2) → OT (post 0) 1 a) : wp_X3_refill E post gm ks os ts iq mk me (iI x) := by
  unfold wp_X3_refill
  rw [q_isPen h1 h2]
  by_cases hx : 0 ≤ x ∧ x ≤ 2
  · rw [if_pos hx]
    refine ⟨fun e => absurd e (by decide), fun _ => ?_⟩
    rw [q_goes0]
    refine ⟨fun e => absurd e (by decide), fun _ => ⟨(iI_in (by omega) (by omega)).mpr (by omega), ?_⟩⟩
    rw [iI_cl (by omega) (by omega), h.2.2.2.2.1 _ (by omega)]
    exact ot_use (hp hx) (rm_ink (rm_0 h) l500) hpb rfl
  · rw [if_neg hx]
    refine ⟨fun _ => ?_, fun e => absurd rfl e⟩
    rw [q_goes1]
    exact ⟨fun _ => ot_use (hpX hx) (rm_free h (by omega) l1) hpb rfl, fun e => absurd rfl e⟩
theorem m_pour {E : EV} {M : Nat → Int} {a : AS} {post : Int32 → PM} {gm ks os ts iq mk me : Nat → Int32} {x n : Int} (h : RM M a gm ks os ts iq mk me) (hpb : PB M a) (hi : Inv a) (h1 : -2147483648 ≤ x) (h2 : x < 2147483648) (h3 : -2147483648 ≤ n) (h4 : n < 2147483648) (hp : 0 ≤ x ∧ x ≤ 2 → 1 ≤ n ∧ n ≤ 500 → OT (post (iI (if aI a x.toNat < n then 0 else aI a x.toNat - n))) 0 (aPour x.toNat n a)) (hp1 : ¬ (0 ≤ x ∧ x ≤ 2) → OT (post 0) 1 a) (hp2 : 0 ≤ x ∧ x ≤ 2 → ¬ (1 ≤ n ∧ n ≤ 500) → OT (post 0) 2 a) : wp_X3_pour E post gm ks os ts iq mk me (iI x) (iI n) := by
  unfold wp_X3_pour
  rw [q_isPen h1 h2]
  by_cases hx : 0 ≤ x ∧ x ≤ 2
  · rw [if_pos hx]
    refine ⟨fun e => absurd e (by decide), fun _ => ?_⟩
    rw [q_isInL (a := 1) (b := 500) l1 l500 h3 h4 (by omega) (by omega) (by omega) (by omega)]
    by_cases hn : 1 ≤ n ∧ n ≤ 500
    · rw [if_pos hn]
      refine ⟨fun e => absurd e (by decide), fun _ => ?_⟩
      have hb := hi.2.2.1.2.2.2 x.toNat
      rw [q_goes0]
      refine ⟨fun e => absurd e (by decide), fun _ => ⟨(iI_in (by omega) (by omega)).mpr (by omega), ?_⟩⟩
      rw [iI_cl (x := x) (by omega) (by omega), h.2.2.2.2.1 _ (by omega), iI_le (by omega) (by omega) (by omega) (by omega), iI_sub]
      have hp := hp hx hn
      unfold aPour at hp
      refine ⟨fun e => ?_, fun e => ?_⟩
      · rw [if_neg (by omega)] at hp
        rw [show ∀ v, upd iq x.toNat v x.toNat = v from fun v => if_pos rfl]
        exact ot_use hp (rm_ink (rm_0 h) rfl) hpb rfl
      · rw [if_pos (by omega)] at hp
        rw [show ∀ v, upd iq x.toNat v x.toNat = v from fun v => if_pos rfl]
        exact ot_use hp (rm_ink (rm_0 h) l0) hpb rfl
    · rw [if_neg hn]
      refine ⟨fun _ => ?_, fun e => absurd rfl e⟩
      rw [q_goes2]
      exact ⟨fun _ => ot_use (hp2 hx hn) (rm_free h (by omega) l2) hpb rfl, fun e => absurd rfl e⟩
  · rw [if_neg hx]
    refine ⟨fun _ => ?_, fun e => absurd rfl e⟩
    rw [q_goes1]
    exact ⟨fun _ => ot_use (hp1 hx) (rm_free h (by omega) l1) hpb rfl, fun e => absurd rfl e⟩
theorem m_ink {E : EV} {M : Nat → Int} {a : AS} {post : Int32 → PM} {gm ks os ts iq mk me : Nat → Int32} {x : Int} (h : RM M a gm ks os ts iq mk me) (hpb : PB M a) (h1 : -2147483648 ≤ x) (h2 : x < 2147483648) (hp : 0 ≤ x ∧ x ≤ 2 → OT (post (iI (aI a x.toNat))) 0 a) (hpX : ¬ (0 ≤ x ∧ x ≤ 2) → OT (post 0) 1 a) : wp_X3_ink E post gm ks os ts iq mk me (iI x) := by
  unfold wp_X3_ink
  rw [q_isPen h1 h2]
  by_cases hx : 0 ≤ x ∧ x ≤ 2
  · rw [if_pos hx]
    refine ⟨fun e => absurd e (by decide), fun _ => ?_⟩
    rw [q_goes0]
    refine ⟨fun e => absurd e (by decide), fun _ => ⟨(iI_in (by omega) (by omega)).mpr (by omega), ?_⟩⟩
    rw [iI_cl (by omega) (by omega), h.2.2.2.2.1 _ (by omega)]
    exact ot_use (hp hx) (rm_0 h) hpb rfl
  · rw [if_neg hx]
    refine ⟨fun _ => ?_, fun e => absurd rfl e⟩
    rw [q_goes1]
    exact ⟨fun _ => ot_use (hpX hx) (rm_free h (by omega) l1) hpb rfl, fun e => absurd rfl e⟩
theorem m_at {E : EV} {M : Nat → Int} {a : AS} {post : Int32 → PM} {gm ks os ts iq mk me : Nat → Int32} (h : RM M a gm ks os ts iq mk me) (hpb : PB M a) (hp : OT (post (iI (100 * carY a + carX a))) 0 a) : wp_X3_at E post gm ks os ts iq mk me := by
  obtain ⟨r3, r4, r11, r12, r13, r14, r15, r16, ⟨r17, r18⟩, r19, r20, r22, r23⟩ := id h.2.1
  unfold wp_X3_at
  rw [h.1 18, h.1 17, r17, r18, l100, iI_mul, iI_add]
  exact ot_use hp (rm_0 h) hpb rfl
theorem m_isDown {E : EV} {M : Nat → Int} {a : AS} {post : Int32 → PM} {gm ks os ts iq mk me : Nat → Int32} (h : RM M a gm ks os ts iq mk me) (hpb : PB M a) (hi : Inv a) (hp : OT (post (iI (a.1 15))) 0 a) : wp_X3_isDown E post gm ks os ts iq mk me := by
  obtain ⟨r3, r4, r11, r12, r13, r14, r15, r16, ⟨r17, r18⟩, r19, r20, r22, r23⟩ := id h.2.1
  unfold wp_X3_isDown
  rw [h.1 19, r19]
  refine ⟨?_, ot_use hp (rm_0 h) hpb rfl⟩
  rcases hi.2.2.1.2.1 with e | e <;> rw [e] <;> rfl
theorem m_errors {E : EV} {M : Nat → Int} {a : AS} {post : Int32 → PM} {gm ks os ts iq mk me : Nat → Int32} (h : RM M a gm ks os ts iq mk me) (hpb : PB M a) (hp : OT (post (iI (a.1 7))) 0 a) : wp_X3_errors E post gm ks os ts iq mk me := by
  have h2 := h.2.1
  unfold wp_X3_errors
  rw [h.1 3, h2.1]
  exact ot_use hp (rm_0 h) hpb rfl
theorem m_queued {E : EV} {M : Nat → Int} {a : AS} {post : Int32 → PM} {gm ks os ts iq mk me : Nat → Int32} (h : RM M a gm ks os ts iq mk me) (hpb : PB M a) (hp : OT (post (iI ((aQ a).length : Int))) 0 a) : wp_X3_queued E post gm ks os ts iq mk me := by
  have h2 := h.2.1
  unfold wp_X3_queued
  rw [h.1 4, h2.2.1]
  exact ot_use hp (rm_0 h) hpb rfl
theorem m_pending {E : EV} {M : Nat → Int} {a : AS} {post : Int32 → PM} {gm ks os ts iq mk me : Nat → Int32} (h : RM M a gm ks os ts iq mk me) (hpb : PB M a) (hp : OT (post (iI (a.1 6))) 0 a) : wp_X3_pending E post gm ks os ts iq mk me := by
  unfold wp_X3_pending
  rw [h.1 0, hpb.1]
  exact ot_use hp (rm_0 h) hpb rfl
theorem m_pen {E : EV} {M : Nat → Int} {a : AS} {post : Int32 → PM} {gm ks os ts iq mk me : Nat → Int32} (h : RM M a gm ks os ts iq mk me) (hpb : PB M a) (hp : OT (post (iI (a.1 16))) 0 a) : wp_X3_pen E post gm ks os ts iq mk me := by
  obtain ⟨r3, r4, r11, r12, r13, r14, r15, r16, ⟨r17, r18⟩, r19, r20, r22, r23⟩ := id h.2.1
  unfold wp_X3_pen
  rw [h.1 20, r20]
  exact ot_use hp (rm_0 h) hpb rfl
theorem m_stepsUp {E : EV} {M : Nat → Int} {a : AS} {post : Int32 → PM} {gm ks os ts iq mk me : Nat → Int32} (h : RM M a gm ks os ts iq mk me) (hpb : PB M a) (hp : OT (post (iI (a.1 17))) 0 a) : wp_X3_stepsUp E post gm ks os ts iq mk me := by
  obtain ⟨r3, r4, r11, r12, r13, r14, r15, r16, ⟨r17, r18⟩, r19, r20, r22, r23⟩ := id h.2.1
  unfold wp_X3_stepsUp
  rw [h.1 22, r22]
  exact ot_use hp (rm_0 h) hpb rfl
theorem m_stepsDown {E : EV} {M : Nat → Int} {a : AS} {post : Int32 → PM} {gm ks os ts iq mk me : Nat → Int32} (h : RM M a gm ks os ts iq mk me) (hpb : PB M a) (hp : OT (post (iI (a.1 18))) 0 a) : wp_X3_stepsDown E post gm ks os ts iq mk me := by
  obtain ⟨r3, r4, r11, r12, r13, r14, r15, r16, ⟨r17, r18⟩, r19, r20, r22, r23⟩ := id h.2.1
  unfold wp_X3_stepsDown
  rw [h.1 23, r23]
  exact ot_use hp (rm_0 h) hpb rfl
theorem m_waiting {E : EV} {M : Nat → Int} {a : AS} {post : Int32 → PM} {gm ks os ts iq mk me : Nat → Int32} (h : RM M a gm ks os ts iq mk me) (hpb : PB M a) (hi : Inv a) (hp : OT (post (iI (if lacks a = true then 1 else 0))) 0 a) : wp_X3_isWaiting E post gm ks os ts iq mk me := by
  unfold wp_X3_isWaiting
  refine m_lacks (rm_0 h) hi ⟨?_, ?_⟩
  · split <;> rfl
  · have := ot_use hp (rm_0 h) hpb rfl
    by_cases hL : lacks a = true
    · rw [if_pos hL] at this ⊢; exact this
    · rw [if_neg hL] at this ⊢; exact this
theorem bI2_1 {d : Bool} : (iI (bI2 d) = 1) ↔ d = true := by cases d <;> decide
theorem bI2_0 {d : Bool} : (iI (bI2 d) = 0) ↔ d = false := by cases d <;> decide
theorem m_tlL {E : EV} {M : Nat → Int} {a : AS} {post : Int32 → PM} {gm ks os ts iq mk me : Nat → Int32} (h : RM M a gm ks os ts iq mk me) (hi : Inv a) : ∀ (m i : Nat) (s : Int) (d : Bool), i + m = (aQ a).length → (aQ a = [] → s = 0) → post (iI (s + tl d ((aQ a).drop i) - a.1 13 - a.1 14)) gm ks os ts iq mk me → wp_X3_timeLeft_L14 E post (m + 1) gm ks os ts iq mk me (iI s) (iI (bI2 d)) (iI (i : Int))
  | 0, i, s, d, hm, hs, hp => by
    obtain ⟨r3, r4, r11, r12, r13, r14, r15, r16, ⟨r17, r18⟩, r19, r20, r22, r23⟩ := id h.2.1
    have hl := hi.2.2.2.2
    rw [List.drop_eq_nil_of_le (by omega), show tl d [] = 0 from rfl, Int.add_zero] at hp
    show (gm 4 ≤ iI (i : Int) → _) ∧ (¬ _ → _)
    rw [h.1 4, r4, iI_le (by omega) (by omega) (by omega) (by omega), show (iI ((aQ a).length : Int) = 0 ↔ ((aQ a).length : Int) = 0) from by rw [l0, iI_eq (by omega) (by omega) (by omega) (by omega)], h.1 13, h.1 14, r13, r14, iI_sub, iI_sub]
    refine ⟨fun _ => ⟨fun e => ?_, fun _ => hp⟩, fun e => absurd (show ((aQ a).length : Int) ≤ (i : Int) by omega) e⟩
    have hq : aQ a = [] := List.length_eq_zero_iff.mp (by omega)
    have hpr := hi.2.2.1.1
    rw [hq] at hpr
    rw [hs hq, hpr.1, hpr.2] at hp
    exact hp
  | m + 1, i, s, d, hm, hs, hp => by
    obtain ⟨r3, r4, r11, r12, r13, r14, r15, r16, ⟨r17, r18⟩, r19, r20, r22, r23⟩ := id h.2.1
    have hl := hi.2.2.2.2
    have hlt : i < (aQ a).length := by omega
    have ho : okc ((aQ a)[i]) := hi.1.1 _ (List.getElem_mem hlt)
    have hr := okc_rng ho
    have hk1 : 1 ≤ ((aQ a)[i]).1 ∧ ((aQ a)[i]).1 ≤ 3 := by
      rcases ho with ho | ho
      · omega
      · have := ho.1; omega
    have hne : ∀ s' : Int, aQ a = [] → s' = 0 := fun s' e => by rw [e] at hlt; exact absurd hlt (by simp)
    have hR := h.2.2.2.1 i _ (List.getElem?_eq_getElem hlt)
    have ed : (aQ a).drop i = (aQ a)[i] :: (aQ a).drop (i + 1) := List.drop_eq_getElem_cons hlt
    rw [ed] at hp
    have IH := fun s d => m_tlL (E := E) (post := post) h hi m (i + 1) s d (by omega) (hne s)
    have ei : iI (i : Int) + 1 = iI ((i + 1 : Nat) : Int) := by rw [l1, iI_add]; rfl
    have b1 : (1 : Int32) = iI (bI2 true) := by decide
    have b0 : (0 : Int32) = iI (bI2 false) := by decide
    unfold wp_X3_timeLeft_L14
    rw [h.1 4, r4, iI_le (by omega) (by omega) (by omega) (by omega), ei, iI_cl (by omega) (by omega), Int.toNat_natCast, hR.1, bI2_1, bI2_0, show (iI ((aQ a)[i]).1 = 2 ↔ ((aQ a)[i]).1 = 2) from by rw [l2, iI_eq (by omega) (by omega) (by omega) (by omega)], show (iI ((aQ a)[i]).1 = 3 ↔ ((aQ a)[i]).1 = 3) from by rw [l3, iI_eq (by omega) (by omega) (by omega) (by omega)]]
    have stq : ∀ post' : Int32 → Prop, ¬ ((aQ a)[i]).1 = 3 → wp_X3_steps E post' (os i) (ts i) = post' (iI (cn ((aQ a)[i]))) := by
      intro post' h3
      have ed := okm_d h3
      rw [hR.2.1, hR.2.2, ← ed.1, ← ed.2, q_stepsM hr.1 hr.2.1 hr.2.2.1 hr.2.2.2.1]
      rfl
    refine ⟨fun e => by omega, fun _ => ⟨(iI_in (by omega) (by omega)).mpr (by omega), fun e2 => ?_, fun e2 => ?_⟩⟩
    · have ed2 : decide (((aQ a)[i]).1 = 2) = true := by rw [decide_eq_true_eq]; exact e2
      unfold tl at hp
      rw [ed2, if_neg (show ¬ ((aQ a)[i]).1 = 3 by omega)] at hp
      have n3 : ¬ ((aQ a)[i]).1 = 3 := by omega
      refine ⟨fun e => ⟨fun q => absurd q n3, fun _ => ?_⟩, fun e => ⟨fun q => absurd q n3, fun _ => ?_⟩⟩
      · rw [stq _ n3, b1, l0, iI_add, iI_add]
        rw [if_pos e] at hp
        exact IH _ _ (by rw [show s + 0 + cn ((aQ a)[i]) + tl true ((aQ a).drop (i + 1)) = s + (0 + cn ((aQ a)[i]) + tl true ((aQ a).drop (i + 1))) by omega]; exact hp)
      · rw [stq _ n3, b1, l2, iI_add, iI_add]
        rw [if_neg e] at hp
        exact IH _ _ (by rw [show s + 2 + cn ((aQ a)[i]) + tl true ((aQ a).drop (i + 1)) = s + (2 + cn ((aQ a)[i]) + tl true ((aQ a).drop (i + 1))) by omega]; exact hp)
    · have ed2 : decide (((aQ a)[i]).1 = 2) = false := by rw [decide_eq_false_iff_not]; exact e2
      unfold tl at hp
      rw [ed2] at hp
      refine ⟨fun e => ⟨fun q => ?_, fun q => ?_⟩, fun e => ⟨fun q => ?_, fun q => ?_⟩⟩
      · rw [l3, l0, iI_add, iI_add, ← l0, b0]
        rw [if_pos e, if_pos q] at hp
        exact IH _ _ (by rw [show s + 0 + 3 + tl false ((aQ a).drop (i + 1)) = s + (0 + 3 + tl false ((aQ a).drop (i + 1))) by omega]; exact hp)
      · rw [stq _ q, l0, iI_add, iI_add, ← l0, b0]
        rw [if_pos e, if_neg q] at hp
        exact IH _ _ (by rw [show s + 0 + cn ((aQ a)[i]) + tl false ((aQ a).drop (i + 1)) = s + (0 + cn ((aQ a)[i]) + tl false ((aQ a).drop (i + 1))) by omega]; exact hp)
      · rw [l3, l2, iI_add, iI_add, b0]
        rw [if_neg e, if_pos q] at hp
        exact IH _ _ (by rw [show s + 2 + 3 + tl false ((aQ a).drop (i + 1)) = s + (2 + 3 + tl false ((aQ a).drop (i + 1))) by omega]; exact hp)
      · rw [stq _ q, l2, iI_add, iI_add, b0]
        rw [if_neg e, if_neg q] at hp
        exact IH _ _ (by rw [show s + 2 + cn ((aQ a)[i]) + tl false ((aQ a).drop (i + 1)) = s + (2 + cn ((aQ a)[i]) + tl false ((aQ a).drop (i + 1))) by omega]; exact hp)
theorem m_timeLeft {E : EV} {M : Nat → Int} {a : AS} {post : Int32 → PM} {gm ks os ts iq mk me : Nat → Int32} (h : RM M a gm ks os ts iq mk me) (hpb : PB M a) (hi : Inv a) (hp : OT (post (iI (tl (decide (a.1 15 = 1)) (aQ a) - a.1 13 - a.1 14))) 0 a) : wp_X3_timeLeft E post gm ks os ts iq mk me := by
  obtain ⟨r3, r4, r11, r12, r13, r14, r15, r16, ⟨r17, r18⟩, r19, r20, r22, r23⟩ := id h.2.1
  refine ⟨(aQ a).length + 1, ?_⟩
  have := m_tlL (E := E) (post := post) (rm_0 h) hi (aQ a).length 0 0 (decide (a.1 15 = 1)) (by omega) (fun _ => rfl) (by rw [List.drop_zero, Int.zero_add]; exact ot_use hp (rm_0 h) hpb rfl)
  rw [h.1 19, r19]
  have e : a.1 15 = bI2 (decide (a.1 15 = 1)) := by
    unfold bI2
    rcases hi.2.2.1.2.1 with e | e <;> rw [e] <;> rfl
  rw [← e] at this
  exact this
theorem m_isMarked {E : EV} {M : Nat → Int} {a : AS} {post : Int32 → PM} {gm ks os ts iq mk me : Nat → Int32} {x y : Int} (h : RM M a gm ks os ts iq mk me) (hpb : PB M a) (h1 : -2147483648 ≤ x) (h2 : x < 2147483648) (h3 : -2147483648 ≤ y) (h4 : y < 2147483648) (hp : inP x y → OT (post (if aM a (cel x y) = true then 1 else 0)) 0 a) (hpX : ¬ inP x y → OT (post 0) 1 a) : wp_X3_isMarked E post gm ks os ts iq mk me (iI x) (iI y) := by
  unfold wp_X3_isMarked
  rw [q_isCell h1 h2 h3 h4]
  by_cases hx : 0 ≤ x ∧ x ≤ 99 ∧ 0 ≤ y ∧ y ≤ 99
  · rw [if_pos hx]
    refine ⟨fun e => absurd e (by decide), fun _ => ?_⟩
    rw [q_goes0]
    refine ⟨fun e => absurd e (by decide), fun _ => ?_⟩
    have hc := cel_lt hx
    have hcm := m_cellmark hx h.2.2.2.2.2.1
    have hpq := ot_use (hp hx) (rm_0 h) hpb rfl
    rw [l100]
    refine ⟨hcm.1, ?_⟩
    rw [iI_mul, iI_add, hc.2, l32, iI_div (by omega) (by omega) (by omega) (by omega), iI_mul, iI_sub]
    have e1 : (cel x y : Int).tdiv 32 = ((cel x y / 32 : Nat) : Int) := rfl
    have e2 := cel_q (cel x y) 32 (by omega)
    rw [show ((32 : Nat) : Int) = 32 from rfl] at e2
    rw [e2, e1, iI_cl (by omega) (by omega), Int.toNat_natCast, PRm_get h.2.2.2.2.2.1 hc.1]
    refine ⟨fun e => ?_, fun e => ?_⟩
    · rw [if_pos e] at hpq; exact hpq
    · rw [if_neg e] at hpq; exact hpq
  · rw [if_neg hx]
    refine ⟨fun _ => ?_, fun e => absurd rfl e⟩
    rw [q_goes1]
    exact ⟨fun _ => ot_use (hpX hx) (rm_free h (by omega) l1) hpb rfl, fun e => absurd rfl e⟩
theorem m_marksL {E : EV} {post : Int32 → PM} {b : Nat → Bool} {gm ks os ts iq mk me : Nat → Int32} (hb : PRm b mk) (hp : post (iI (cnt b 10240 : Int)) gm ks os ts iq mk me) : ∀ (m k : Nat), k + m = 320 → wp_X3_marks_L9 E post (m + 1) gm ks os ts iq mk me (iI (cnt b (32 * k) : Int)) (iI (k : Int))
  | 0, k, hk => by
    show ((320 : Int32) ≤ iI (k : Int) → _) ∧ (¬ _ → _)
    rw [l320, iI_le (by omega) (by omega) (by omega) (by omega)]
    refine ⟨fun _ => ?_, fun e => absurd (show (320 : Int) ≤ (k : Int) by omega) e⟩
    rw [show 32 * k = 10240 by omega]; exact hp
  | m + 1, k, hk => by
    have IH := m_marksL (E := E) hb hp m (k + 1) (by omega)
    unfold wp_X3_marks_L9
    have ei : iI (k : Int) + 1 = iI ((k + 1 : Nat) : Int) := by rw [l1, iI_add]; rfl
    rw [l320, iI_le (by omega) (by omega) (by omega) (by omega), ei, iI_cl (by omega) (by omega), Int.toNat_natCast]
    refine ⟨fun e => by omega, fun _ => ⟨(iI_in (by omega) (by omega)).mpr (by omega), q_bits (b := b) (o := 32 * k) (fun j hj => hb k j (by omega) hj) ?_⟩⟩
    rw [iI_add, show (cnt b (32 * k) : Int) + ((cnt b (32 * k + 32) : Int) - cnt b (32 * k)) = (cnt b (32 * (k + 1)) : Int) from by rw [show 32 * (k + 1) = 32 * k + 32 by omega]; omega]
    exact IH
theorem m_marks {E : EV} {M : Nat → Int} {a : AS} {post : Int32 → PM} {gm ks os ts iq mk me : Nat → Int32} (h : RM M a gm ks os ts iq mk me) (hpb : PB M a) (hi : Inv a) (hp : OT (post (iI (cnt (aM a) 10000 : Int))) 0 a) : wp_X3_marks E post gm ks os ts iq mk me := by
  refine ⟨321, ?_⟩
  rw [l0]
  refine m_marksL (b := aM a) (post := post) h.2.2.2.2.2.1 ?_ 320 0 (by omega)
  have := cnt_far (b := aM a) (fun c hc => (hi.2.2.2.1 c hc).1) 240
  rw [show cnt (aM a) 10240 = cnt (aM a) 10000 from this]
  exact ot_use hp (rm_0 h) hpb rfl
theorem m_marksEL {E : EV} {post : Int32 → PM} {b : Nat → Bool} {gm ks os ts iq mk me : Nat → Int32} (hb : PRm b me) (hp : post (iI (cnt b 10240 : Int)) gm ks os ts iq mk me) : ∀ (m k : Nat), k + m = 320 → wp_X3_marksInTheEnd_L9 E post (m + 1) gm ks os ts iq mk me (iI (cnt b (32 * k) : Int)) (iI (k : Int))
  | 0, k, hk => by
    show ((320 : Int32) ≤ iI (k : Int) → _) ∧ (¬ _ → _)
    rw [l320, iI_le (by omega) (by omega) (by omega) (by omega)]
    refine ⟨fun _ => ?_, fun e => absurd (show (320 : Int) ≤ (k : Int) by omega) e⟩
    rw [show 32 * k = 10240 by omega]; exact hp
  | m + 1, k, hk => by
    have IH := m_marksEL (E := E) hb hp m (k + 1) (by omega)
    unfold wp_X3_marksInTheEnd_L9
    have ei : iI (k : Int) + 1 = iI ((k + 1 : Nat) : Int) := by rw [l1, iI_add]; rfl
    rw [l320, iI_le (by omega) (by omega) (by omega) (by omega), ei, iI_cl (by omega) (by omega), Int.toNat_natCast]
    refine ⟨fun e => by omega, fun _ => ⟨(iI_in (by omega) (by omega)).mpr (by omega), q_bits (b := b) (o := 32 * k) (fun j hj => hb k j (by omega) hj) ?_⟩⟩
    rw [iI_add, show (cnt b (32 * k) : Int) + ((cnt b (32 * k + 32) : Int) - cnt b (32 * k)) = (cnt b (32 * (k + 1)) : Int) from by rw [show 32 * (k + 1) = 32 * k + 32 by omega]; omega]
    exact IH
theorem m_marksE {E : EV} {M : Nat → Int} {a : AS} {post : Int32 → PM} {gm ks os ts iq mk me : Nat → Int32} (h : RM M a gm ks os ts iq mk me) (hpb : PB M a) (hi : Inv a) (hp : OT (post (iI (cnt (aB a) 10000 : Int))) 0 a) : wp_X3_marksInTheEnd E post gm ks os ts iq mk me := by
  refine ⟨321, ?_⟩
  rw [l0]
  refine m_marksEL (b := aB a) (post := post) h.2.2.2.2.2.2 ?_ 320 0 (by omega)
  have := cnt_far (b := aB a) (fun c hc => (hi.2.2.2.1 c hc).2) 240
  rw [show cnt (aB a) 10240 = cnt (aB a) 10000 from this]
  exact ot_use hp (rm_0 h) hpb rfl
