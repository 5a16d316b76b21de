/-! the model's ticks, 2 -/
theorem om_use {post : PM} {M M' : Nat → Int} {a : AS} {gm ks os ts iq mk me : Nat → Int32} (h : OM post M a) (hx : RM M' a gm ks os ts iq mk me) (e0 : M' 0 = M 0) (e1 : M' 1 = M 1) (e2 : M' 2 = M 2) (e26 : M' 26 = M 26) : post gm ks os ts iq mk me := h M' gm ks os ts iq mk me e0 e1 e2 e26 hx
theorem m_step {E : EV} {M : Nat → Int} {a : AS} {post : Int32 → PM} {c : Cm} {r : List Cm} {gm ks os ts iq mk me : Nat → Int32} (h : RM M a gm ks os ts iq mk me) (hi : Inv a) (hq : aQ a = c :: r) (h3 : ¬ c.1 = 3) (hp : OM (post 1) M (aStp c a)) : wp_X3_step E post gm ks os ts iq mk me := by
  have ho : okc c := hi.1.1 c (by rw [hq]; exact List.mem_cons_self)
  have hm : okm c := by rcases ho with ho | ho; exact absurd ho.1 h3; exact ho
  have hr := okc_rng ho
  have hn := okm_pos hm
  have hk1 := hm.1
  have hpr := hi.2.2.1.1
  rw [hq, prog_cons] at hpr
  have h16 := hi.2.2.1.2.2.1
  have hl := hi.2.2.2.2
  have hR := h.2.2.2.1 0 c (by rw [hq]; rfl)
  obtain ⟨r3, r4, r11, r12, r13, r14, r15, r16, ⟨r17, r18⟩, r19, r20, r22, r23⟩ := id h.2.1
  have ed := okm_d h3
  have hcn : nst (cdx c) (cdy c) = cn c := rfl
  have hstep : ∀ post' : Int32 → Prop, wp_X3_steps E post' (os (0 : Int32).toNatClampNeg) (ts (0 : Int32).toNatClampNeg) = post' (iI (cn c)) := by
    intro post'
    rw [show os (0 : Int32).toNatClampNeg = iI (cdx c) from by rw [ed.1]; exact hR.2.1, show ts (0 : Int32).toNatClampNeg = iI (cdy c) from by rw [ed.2]; exact hR.2.2, q_stepsM hr.1 hr.2.1 hr.2.2.1 hr.2.2.2.1, hcn]
  have eqb : (iI (a.1 13 + 1) = iI (cn c)) ↔ a.1 13 + 1 = cn c := iI_eq (by omega) (by omega) (by omega) (by omega)
  unfold aStp aPut at hp
  unfold wp_X3_step
  rw [h.1 13, r13, l1, iI_add]
  have hb : ∀ j, upd gm 13 (iI (a.1 13 + 1)) j = iI (va_up M 13 (a.1 13 + 1) j) := gS h.1 rfl
  refine m_goesTo (c := c) hb hm hR.2.1 hR.2.2 (by omega) (by omega) ?_
  have hq0 : aQ (aSet 13 (a.1 13 + 1) a) = c :: r := hq
  have cx0 : carX (aSet 13 (a.1 13 + 1) a) = a.1 11 + (cdx c * (a.1 13 + 1)).tdiv (cn c) := carX_cons hq0
  have cy0 : carY (aSet 13 (a.1 13 + 1) a) = a.1 12 + (cdy c * (a.1 13 + 1)).tdiv (cn c) := carY_cons hq0
  have h0 : RM (va_up (va_up (va_up M 13 (a.1 13 + 1)) 17 (a.1 11 + (cdx c * (a.1 13 + 1)).tdiv (cn c))) 18 (a.1 12 + (cdy c * (a.1 13 + 1)).tdiv (cn c))) (aSet 13 (a.1 13 + 1) a) (upd (upd (upd gm 13 (iI (a.1 13 + 1))) 17 (iI (va_up M 13 (a.1 13 + 1) 15 + (cdx c * (a.1 13 + 1)).tdiv (cn c)))) 18 (iI (va_up M 13 (a.1 13 + 1) 16 + (cdy c * (a.1 13 + 1)).tdiv (cn c)))) ks os ts iq mk me := by
    refine ⟨gS (gS hb ?_) ?_, ⟨r3, r4, r11, r12, rfl, r14, r15, r16, ⟨?_, ?_⟩, r19, r20, r22, r23⟩, LM_eq h.2.2.1 rfl rfl rfl, h.2.2.2⟩
    · apply iI_inj
      show M 15 + _ = _
      rw [r15]
    · apply iI_inj
      show M 16 + _ = _
      rw [r16]
    · rw [cx0]; rfl
    · rw [cy0]; rfl
  have hks : ks (0 : Int32).toNatClampNeg = iI c.1 := hR.1
  rw [hks, show (iI c.1 = 2 ↔ c.1 = 2) from by rw [l2, iI_eq (by omega) (by omega) (by omega) (by omega)]]
  have g20 : upd (upd (upd gm 13 (iI (a.1 13 + 1))) 17 (iI (va_up M 13 (a.1 13 + 1) 15 + (cdx c * (a.1 13 + 1)).tdiv (cn c)))) 18 (iI (va_up M 13 (a.1 13 + 1) 16 + (cdy c * (a.1 13 + 1)).tdiv (cn c))) 20 = iI (a.1 16) := by
    show gm 20 = _
    rw [h.1, r20]
  have g23 : upd (upd (upd gm 13 (iI (a.1 13 + 1))) 17 (iI (va_up M 13 (a.1 13 + 1) 15 + (cdx c * (a.1 13 + 1)).tdiv (cn c)))) 18 (iI (va_up M 13 (a.1 13 + 1) 16 + (cdy c * (a.1 13 + 1)).tdiv (cn c))) 23 = iI (a.1 18) := by
    show gm 23 = _
    rw [h.1, r23]
  have g22 : upd (upd (upd gm 13 (iI (a.1 13 + 1))) 17 (iI (va_up M 13 (a.1 13 + 1) 15 + (cdx c * (a.1 13 + 1)).tdiv (cn c)))) 18 (iI (va_up M 13 (a.1 13 + 1) 16 + (cdy c * (a.1 13 + 1)).tdiv (cn c))) 22 = iI (a.1 17) := by
    show gm 22 = _
    rw [h.1, r22]
  rw [g20, g23, g22, iI_add, iI_add, hstep]
  have full : ∀ b : AS, aQ b = c :: r → b.1 11 = a.1 11 → b.1 12 = a.1 12 → b.1 13 = a.1 13 + 1 → a.1 13 + 1 = cn c → carX b = b.1 11 + cdx c ∧ carY b = b.1 12 + cdy c := by
    intro b qb b11 b12 b13 hf
    rw [carX_cons qb, carY_cons qb, b13, hf, tdiv_full hn, tdiv_full hn]
    exact ⟨rfl, rfl⟩
  refine ⟨fun e2 => ⟨?_, ?_⟩, fun e2 => ?_⟩
  · rw [iI_in (by omega) (by omega)]; omega
  · rw [if_pos e2] at hp
    rw [iI_cl (by omega) (by omega), h.2.2.2.2.1 _ (by omega), iI_sub]
    have h1 := rm_ink (k := (a.1 16).toNat) (v := iI (aI a (a.1 16).toNat - 1)) (w := aI a (a.1 16).toNat - 1) (rm_18 (w := a.1 18 + 1) (v := iI (a.1 18 + 1)) h0 rfl) rfl
    refine m_marksCell h1 ?_ fun mk' hx => ?_
    · refine car_cons (c := c) (r := r) hi.1 hq ?_ ?_
      · show 0 ≤ a.1 13 + 1; omega
      · show a.1 13 + 1 ≤ cn c; omega
    · rw [hstep]
      rw [show upd (upd (upd (upd gm 13 (iI (a.1 13 + 1))) 17 (iI (va_up M 13 (a.1 13 + 1) 15 + (cdx c * (a.1 13 + 1)).tdiv (cn c)))) 18 (iI (va_up M 13 (a.1 13 + 1) 16 + (cdy c * (a.1 13 + 1)).tdiv (cn c)))) 23 (iI (a.1 18 + 1)) 13 = iI (a.1 13 + 1) from rfl, eqb]
      refine ⟨fun e => ?_, fun e => ?_⟩
      · rw [if_pos (by omega)] at hp
        have hf := full _ (show aQ (aMark (aInk (a.1 16).toNat (aI a (a.1 16).toNat - 1) (aSet 18 (a.1 18 + 1) (aSet 13 (a.1 13 + 1) a)))) = c :: r from hq) rfl rfl rfl e
        exact m_done hx hq hl hf.1 hf.2 (om_tr hp rfl rfl rfl rfl)
      · rw [if_neg (by omega)] at hp
        exact om_use hp hx rfl rfl rfl rfl
  · rw [if_neg e2] at hp
    have h1 := rm_17 (w := a.1 17 + 1) (v := iI (a.1 17 + 1)) h0 rfl
    rw [show upd (upd (upd gm 13 (iI (a.1 13 + 1))) 17 (iI (va_up M 13 (a.1 13 + 1) 15 + (cdx c * (a.1 13 + 1)).tdiv (cn c)))) 18 (iI (va_up M 13 (a.1 13 + 1) 16 + (cdy c * (a.1 13 + 1)).tdiv (cn c))) 13 = iI (a.1 13 + 1) from rfl, eqb]
    refine ⟨fun e => ?_, fun e => ?_⟩
    · rw [if_pos (by omega)] at hp
      have hf := full _ (show aQ (aSet 17 (a.1 17 + 1) (aSet 13 (a.1 13 + 1) a)) = c :: r from hq) rfl rfl rfl e
      exact m_done h1 hq hl hf.1 hf.2 (om_tr hp rfl rfl rfl rfl)
    · rw [if_neg (by omega)] at hp
      exact om_use hp h1 rfl rfl rfl rfl
theorem m_lacks {E : EV} {M : Nat → Int} {a : AS} {post : Int32 → Prop} {gm ks os ts iq mk me : Nat → Int32} (h : RM M a gm ks os ts iq mk me) (hi : Inv a) (hp : post (if lacks a = true then 1 else 0)) : wp_X3_lacksInk E post gm ks os ts iq mk me := by
  obtain ⟨r3, r4, r11, r12, r13, r14, r15, r16, ⟨r17, r18⟩, r19, r20, r22, r23⟩ := id h.2.1
  have hl := hi.2.2.2.2
  have h15 := hi.2.2.1.2.1
  have h16 := hi.2.2.1.2.2.1
  have hink := hi.2.2.1.2.2.2 (a.1 16).toNat
  unfold wp_X3_lacksInk
  rw [h.1 4, r4, h.1 19, r19, h.1 20, r20, iI_cl (x := a.1 16) (by omega) (by omega), h.2.2.2.2.1 _ (by omega)]
  rw [show (iI ((aQ a).length : Int) ≤ 0 ↔ ((aQ a).length : Int) ≤ 0) from by rw [l0, iI_le (by omega) (by omega) (by omega) (by omega)], show (iI (a.1 15) = 0 ↔ a.1 15 = 0) from by rw [l0, iI_eq (by omega) (by omega) (by omega) (by omega)], show (iI (aI a (a.1 16).toNat) = 0 ↔ aI a (a.1 16).toNat = 0) from by rw [l0, iI_eq (by omega) (by omega) (by omega) (by omega)]]
  cases hq : aQ a with
  | nil =>
    rw [lacks_nil hq] at hp
    exact ⟨fun _ => hp, fun n => absurd (by simp) n⟩
  | cons c r =>
    have ho : okc c := hi.1.1 c (by rw [hq]; exact List.mem_cons_self)
    have hk1 : 1 ≤ c.1 ∧ c.1 ≤ 3 := by
      rcases ho with ho | ho
      · omega
      · have := ho.1; omega
    have hR := h.2.2.2.1 0 c (by rw [hq]; rfl)
    rw [lacks_cons hq] at hp
    rw [show ks (0 : Int32).toNatClampNeg = iI c.1 from hR.1, show (iI c.1 = 2 ↔ c.1 = 2) from by rw [l2, iI_eq (by omega) (by omega) (by omega) (by omega)]]
    have no : ¬ (c.1 = 2 ∧ ¬ a.1 15 = 0 ∧ aI a (a.1 16).toNat = 0) → post 0 := fun n => by rw [if_neg (by rw [decide_eq_true_eq]; exact n)] at hp; exact hp
    refine ⟨fun e => absurd e (by show ¬ ((r.length + 1 : Nat) : Int) ≤ 0; omega), fun _ => ⟨fun e2 => ⟨fun e3 => no (by omega), fun e3 => ⟨?_, fun e4 => ?_, fun e4 => no (by omega)⟩⟩, fun e2 => no (by omega)⟩⟩
    · rw [iI_in (by omega) (by omega)]; omega
    · rw [if_pos (by rw [decide_eq_true_eq]; exact ⟨e2, e3, e4⟩)] at hp; exact hp
theorem m_ticks {E : EV} {M : Nat → Int} {a : AS} {post : Int32 → PM} {gm ks os ts iq mk me : Nat → Int32} (h : RM M a gm ks os ts iq mk me) (hi : Inv a) (hp : OM (post (iI (sDo a))) M (aDo a)) : wp_X3_ticks E post gm ks os ts iq mk me := by
  obtain ⟨r3, r4, r11, r12, r13, r14, r15, r16, ⟨r17, r18⟩, r19, r20, r22, r23⟩ := id h.2.1
  have hl := hi.2.2.2.2
  have h15 := hi.2.2.1.2.1
  unfold sDo at hp
  have still : aDo a = a → post 0 gm ks os ts iq mk me := by
    intro e
    rw [e, show a.1 17 + a.1 18 - (a.1 17 + a.1 18) = 0 by omega] at hp
    exact hp _ _ _ _ _ _ _ _ rfl rfl rfl rfl h
  unfold wp_X3_ticks
  rw [h.1 4, r4, show (iI ((aQ a).length : Int) = 0 ↔ ((aQ a).length : Int) = 0) from by rw [l0, iI_eq (by omega) (by omega) (by omega) (by omega)]]
  refine ⟨fun e => still (aDo_nil (List.length_eq_zero_iff.mp (by omega))), fun e => ?_⟩
  refine m_lacks h hi ?_
  cases hq : aQ a with
  | nil => rw [hq] at e; exact absurd rfl e
  | cons c r =>
    have ho : okc c := hi.1.1 c (by rw [hq]; exact List.mem_cons_self)
    have hk1 : 1 ≤ c.1 ∧ c.1 ≤ 3 := by
      rcases ho with ho | ho
      · omega
      · have := ho.1; omega
    have hpr := hi.2.2.1.1
    rw [hq, prog_cons] at hpr
    have hR := h.2.2.2.1 0 c (by rw [hq]; rfl)
    by_cases hL : lacks a = true
    · rw [if_pos hL]
      exact ⟨fun e => absurd e (by decide), fun _ => still (by rw [aDo_cons hq, if_pos hL])⟩
    · rw [if_neg hL]
      rw [aDo_cons hq, if_neg hL] at hp
      unfold aDoC at hp
      refine ⟨fun _ => ?_, fun e => absurd rfl e⟩
      rw [show ks (0 : Int32).toNatClampNeg = iI c.1 from hR.1, show (iI c.1 = 2 ↔ c.1 = 2) from by rw [l2, iI_eq (by omega) (by omega) (by omega) (by omega)], show (iI c.1 = 3 ↔ c.1 = 3) from by rw [l3, iI_eq (by omega) (by omega) (by omega) (by omega)], h.1 19, r19, show (iI (a.1 15) = 0 ↔ a.1 15 = 0) from by rw [l0, iI_eq (by omega) (by omega) (by omega) (by omega)]]
      have turn : (a.1 15 = 0 ↔ c.1 = 2) → ∀ p : Int32, ((p = 0) ↔ a.1 15 = 0) → wp_X3_lifts E (post 0) gm ks os ts iq mk me p := by
        intro ht p hpp
        rw [if_pos ht, turn_sum, show a.1 17 + a.1 18 - (a.1 17 + a.1 18) = 0 by omega] at hp
        exact m_lifts h hi (by omega) hpp hp
      have chg : ¬ (a.1 15 = 0 ↔ c.1 = 2) → c.1 = 3 → wp_X3_changes E (post 0) gm ks os ts iq mk me := by
        intro ht h3
        rw [if_neg ht, if_pos h3, chg_sum, show a.1 17 + a.1 18 - (a.1 17 + a.1 18) = 0 by omega] at hp
        exact m_changes h hi (by omega) hq h3 hp
      have stp : ¬ (a.1 15 = 0 ↔ c.1 = 2) → ¬ c.1 = 3 → wp_X3_step E post gm ks os ts iq mk me := by
        intro ht h3
        rw [if_neg ht, if_neg h3, stp_sum, show a.1 17 + a.1 18 + 1 - (a.1 17 + a.1 18) = 1 by omega] at hp
        exact m_step h hi hq h3 hp
      refine ⟨fun e2 => ⟨fun e3 => ?_, fun e3 => ⟨fun e4 => chg (by omega) e4, fun e4 => stp (by omega) e4⟩⟩, fun e2 => ⟨fun e3 => ⟨fun e4 => chg (by omega) e4, fun e4 => stp (by omega) e4⟩, fun e3 => ?_⟩⟩
      · exact turn (by omega) 0 ⟨fun _ => e3, fun _ => rfl⟩
      · exact turn (by omega) 1 ⟨fun q => absurd q (by decide), fun q => absurd q e3⟩
theorem m_tickL {E : EV} {post : Int32 → PM} {x1 w : Int} (h1 : 0 ≤ x1) (h2 : x1 ≤ 1000) : ∀ (n : Nat) (j : Int) {M : Nat → Int} {a : AS} {gm ks os ts iq mk me : Nat → Int32}, RM M a gm ks os ts iq mk me → Inv a → 0 ≤ j → j + n = x1 → OM (post (iI ((aTicks n a).1 17 + (aTicks n a).1 18 - w))) M (aTicks n a) → wp_X3_tick_L29 E post (n + 1) gm ks os ts iq mk me (iI x1) (iI (a.1 17 + a.1 18 - w)) (iI j)
  | 0, j, M, a, gm, ks, os, ts, iq, mk9, me, h, hi, hj, hn, hp => by
    show (iI x1 ≤ iI j → _) ∧ (¬ _ → _)
    rw [iI_le (by omega) (by omega) (by omega) (by omega)]
    exact ⟨fun _ => hp _ _ _ _ _ _ _ _ rfl rfl rfl rfl h, fun e => absurd (show x1 ≤ j by omega) e⟩
  | n + 1, j, M, a, gm, ks, os, ts, iq, mk9, me, h, hi, hj, hn, hp => by
    show (iI x1 ≤ iI j → _) ∧ (¬ _ → wp_X3_ticks E (fun (r_418 : Int32) (gm_419 : Nat → Int32) (ks_420 : Nat → Int32) (os_421 : Nat → Int32) (ts_422 : Nat → Int32) (iq_423 : Nat → Int32) (mk_424 : Nat → Int32) (me_425 : Nat → Int32) => (wp_X3_tick_L29 E post (n + 1) gm_419 ks_420 os_421 ts_422 iq_423 mk_424 me_425 (iI x1) (iI (a.1 17 + a.1 18 - w) + r_418) (iI j + 1))) gm ks os ts iq mk9 me)
    rw [iI_le (by omega) (by omega) (by omega) (by omega)]
    refine ⟨fun e => by omega, fun _ => ?_⟩
    have hp' : OM (post (iI ((aTicks n (aDo a)).1 17 + (aTicks n (aDo a)).1 18 - w))) M (aTicks n (aDo a)) := hp
    refine m_ticks h hi ?_
    intro M' g1 g2 g3 g4 g5 g6 g7 e0 e1 e2 e26 hx
    have := m_tickL (E := E) h1 h2 n (j + 1) hx (inv_do hi) (by omega) (by omega) (om_tr hp' e0 e1 e2 e26)
    rw [l1, iI_add, iI_add]
    unfold sDo
    rw [show a.1 17 + a.1 18 - w + ((aDo a).1 17 + (aDo a).1 18 - (a.1 17 + a.1 18)) = (aDo a).1 17 + (aDo a).1 18 - w by omega]
    exact this
theorem ticks_lo : ∀ (n : Nat) (a : AS) {k : Nat}, k < 9 → (aTicks n a).1 k = a.1 k
  | 0, _, _, _ => rfl
  | n + 1, a, k, hk => (ticks_lo n (aDo a) hk).trans (do_lo a hk)
theorem pb_lo {M M' : Nat → Int} {a b : AS} (h : PB M a) (h0 : M' 0 = M 0) (h1 : M' 1 = M 1) (h2 : M' 2 = M 2) (hs : ∀ k, k < 9 → b.1 k = a.1 k) : PB M' b := by
  unfold PB at h ⊢
  rw [h0, h1, h2, hs 6 (by omega), hs 4 (by omega), hs 5 (by omega)]
  exact h
theorem m_tick {E : EV} {M : Nat → Int} {a : AS} {post : Int32 → PM} {gm ks os ts iq mk me : Nat → Int32} {x : Int} (h : RM M a gm ks os ts iq mk me) (hpb : PB M a) (hi : Inv a) (h1 : -2147483648 ≤ x) (h2 : x < 2147483648) (hp : 1 ≤ x ∧ x ≤ 1000 → OT (post (iI ((aTicks x.toNat a).1 17 + (aTicks x.toNat a).1 18 - (a.1 17 + a.1 18)))) 0 (aTicks x.toNat a)) (hpX : ¬ (1 ≤ x ∧ x ≤ 1000) → OT (post 0) 1 a) : wp_X3_tick E post gm ks os ts iq mk me (iI x) := by
  unfold wp_X3_tick
  rw [q_isInL (a := 1) (b := 1000) l1 l1000 h1 h2 (by omega) (by omega) (by omega) (by omega)]
  by_cases hv : 1 ≤ x ∧ x ≤ 1000
  · rw [if_pos hv]
    have hp := hp hv
    refine ⟨fun e => absurd e (by decide), fun _ => ?_⟩
    rw [q_goes0]
    refine ⟨fun e => absurd e (by decide), fun _ => ⟨x.toNat + 1, ?_⟩⟩
    have h' : RM (va_up M 26 0) a (upd gm 26 0) ks os ts iq mk me := rm_free h (by omega) l0
    have := m_tickL (E := E) (post := post) (x1 := x) (w := a.1 17 + a.1 18) (by omega) (by omega) x.toNat 0 h' hi (by omega) (by omega) (fun M' g1 g2 g3 g4 g5 g6 g7 e0 e1 e2 e26 hx => hp M' _ _ _ _ _ _ _ hx (pb_lo hpb e0 e1 e2 fun k hk => ticks_lo _ _ hk) e26)
    rw [show a.1 17 + a.1 18 - (a.1 17 + a.1 18) = 0 by omega] at this
    exact this
  · rw [if_neg hv]
    refine ⟨fun _ => ?_, fun e => absurd rfl e⟩
    rw [q_goes1]
    exact ⟨fun _ => hpX hv _ _ _ _ _ _ _ _ (rm_free h (by omega) l1) hpb rfl, fun e => absurd rfl e⟩
