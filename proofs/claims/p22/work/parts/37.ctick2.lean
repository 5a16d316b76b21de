/-! the class's ticks -/
theorem ge2 {x : Int} (h1 : 0 ≤ x) (h2 : x ≤ 2) : ((2 : Int32) ≤ iI (x + 1)) ↔ ¬ x + 1 < 2 := by
  rw [l2, iI_le (by omega) (by omega) (by omega) (by omega)]; omega
theorem hk_eq {a b : AS} (h : HK a) (e : a.2 = b.2) (h13 : b.1 13 = a.1 13) : HK b := by
  have e1 : aQ b = aQ a := by unfold aQ; rw [e]
  refine ⟨?_, ?_, ?_⟩
  · rw [e1]; exact h.1
  · intro c r hq; rw [h13]; rw [e1] at hq; exact h.2.1 c r hq
  · rw [e1]; exact h.2.2
theorem s_turn {E : EV} {a : AS} {post : PX} {gx : Nat → Int32} {lt : Option Nat} {mo : Int32} {ad : Nat} {ln : Int32} {PL : List Nat} {pf : Nat → va_E} {pw : Nat → Int64} {pk : Int32} {lw : Nat → Int64} {lk : Int32} {ik : Nat → Int32} (h : RX E a gx lt ad ln PL pf pw pk lw lk ik) (hi : Inv a) (h14 : 0 ≤ a.1 14 ∧ a.1 14 ≤ 2) (hp : OX E post (aTurn a)) : wp_X2_turnPen E post gx lt mo ad ln PL pf pw pk lw lk ik := by
  unfold wp_X2_turnPen
  have h15 := hi.2.2.1.2.1
  unfold aTurn at hp
  rw [h.1 14, l1, iI_add, h.1 15, ge2 h14.1 h14.2]
  refine ⟨fun h9 => ?_, fun h9 => ?_⟩
  · rw [if_neg h9] at hp
    rw [l0]
    simp (disch := omega) only [iI_eq]
    refine ⟨fun h8 => ?_, fun h8 => ?_⟩
    · rw [if_pos h8] at hp
      have hr : RX E (aSet 15 1 (aSet 14 0 a)) (upd (upd gx 14 (iI 0)) 15 (iI 1)) lt ad ln PL pf pw pk lw lk ik := rx_set (rx_set h rfl) rfl
      refine s_markHere hr (hk_eq (hk_inv hi) rfl rfl) (car_inv (a := a) (inv_C hi)) (fun pw' pk' hq => hp _ _ _ _ _ _ _ _ _ _ _ _ hq)
    · rw [if_neg h8] at hp
      exact hp _ _ _ _ _ _ _ _ _ _ _ _ (rx_set (rx_set h rfl) rfl)
  · rw [if_pos (by omega)] at hp
    exact hp _ _ _ _ _ _ _ _ _ _ _ _ (rx_set h rfl)
theorem s_change {E : EV} {a : AS} {post : PX} {gx : Nat → Int32} {lt : Option Nat} {mo : Int32} {ad : Nat} {ln : Int32} {PL : List Nat} {pf : Nat → va_E} {pw : Nat → Int64} {pk : Int32} {lw : Nat → Int64} {lk : Int32} {ik : Nat → Int32} {cm : Nat} {c : Cm} {r : List Cm} (h : RX E a gx lt ad ln PL pf pw pk lw lk ik) (hi : Inv a) (h14 : 0 ≤ a.1 14 ∧ a.1 14 ≤ 2) (hq : aQ a = c :: r) (h3 : c.1 = 3) (hc : isC PL pf cm c) (hp : OX E post (aChg c a)) : wp_X2_changePen E post gx lt mo ad ln PL pf pw pk lw lk ik cm := by
  unfold wp_X2_changePen
  unfold aChg at hp
  rw [h.1 14, l1, iI_add, l3]
  simp (disch := omega) only [iI_le]
  refine ⟨fun h9 => ?_, fun h9 => ?_⟩
  · rw [if_neg (by omega)] at hp
    refine ⟨_, _, _, _, hc.1, hc.2, ?_⟩
    have hr := rx_set (s := 16) (v := iI (cpn c)) (w := c.2.1) (rx_set (s := 14) (v := iI (a.1 14 + 1)) (w := a.1 14 + 1) h rfl) (by rw [show cpn c = c.2.1 from if_pos h3])
    exact s_end hr hq hi.2.2.2.2 hc hp
  · rw [if_pos (by omega)] at hp
    exact hp _ _ _ _ _ _ _ _ _ _ _ _ (rx_set h rfl)
theorem s_step {E : EV} {a : AS} {post : PX} {gx : Nat → Int32} {lt : Option Nat} {mo : Int32} {ad : Nat} {ln : Int32} {PL : List Nat} {pf : Nat → va_E} {pw : Nat → Int64} {pk : Int32} {lw : Nat → Int64} {lk : Int32} {ik : Nat → Int32} {cm : Nat} {c : Cm} {r : List Cm} (h : RX E a gx lt ad ln PL pf pw pk lw lk ik) (hi : Inv a) (hq : aQ a = c :: r) (h3 : ¬ c.1 = 3) (hc : isC PL pf cm c) (hp : OX E post (aStp c a)) : wp_X2_doStep E post gx lt mo ad ln PL pf pw pk lw lk ik cm := by
  have ho : okc c := hi.1.1 c (by rw [hq]; exact List.mem_cons_self)
  have hm : okm c := by rcases ho with ho | ho; exact absurd ho.1 h3; exact ho
  have hr := okc_rng ho
  have hpr := hi.2.2.1.1
  rw [hq, prog_cons] at hpr
  have h16 := hi.2.2.1.2.2.1
  have hl := hi.2.2.2.2
  unfold wp_X2_doStep
  refine ⟨_, _, _, _, hc.1, hc.2, ?_⟩
  have hk1 := hm.1
  rw [q_draws (by omega) (by omega)]
  unfold aStp aPut at hp
  rw [l0, l1]
  simp (disch := omega) only [iI_eq]
  refine ⟨fun h9 => ?_, fun h9 => ?_⟩
  · have h2 : ¬ c.1 = 2 := fun e => by rw [if_pos e] at h9; omega
    rw [if_neg h2] at hp
    rw [q_steps hr.1 hr.2.1 hr.2.2.1 hr.2.2.2.1, h.1 13, h.1 17, iI_add, iI_add]
    have hcn : nst (cdx c) (cdy c) = cn c := rfl
    rw [hcn, iI_lt (by omega) (by omega) (by omega) (by omega)]
    have hx := rx_set (s := 17) (v := iI (a.1 17 + 1)) (w := (aSet 13 (a.1 13 + 1) a).1 17 + 1) (rx_set (s := 13) (v := iI (a.1 13 + 1)) (w := a.1 13 + 1) h rfl) rfl
    refine ⟨fun h8 => ?_, fun h8 => ?_⟩
    · rw [if_neg (by omega)] at hp
      exact hp _ _ _ _ _ _ _ _ _ _ _ _ hx
    · rw [if_pos (by omega)] at hp
      exact s_end hx hq hl hc hp
  · have h2 : c.1 = 2 := Decidable.byContradiction fun e => by rw [if_neg e] at h9; omega
    rw [if_pos h2] at hp
    rw [h.1 16, h.1 13, h.1 18, iI_add, iI_add]
    have hx := rx_set (s := 18) (v := iI (a.1 18 + 1)) (w := (aSet 13 (a.1 13 + 1) a).1 18 + 1) (rx_set (s := 13) (v := iI (a.1 13 + 1)) (w := a.1 13 + 1) h rfl) rfl
    refine s_inkOf hx h16.1 h16.2 ?_
    rw [iI_sub]
    refine s_setInk hx h16.1 h16.2 fun ik' hx2 => ?_
    have e13 : (aInk (a.1 16).toNat (aI a (a.1 16).toNat - 1) (aSet 18 ((aSet 13 (a.1 13 + 1) a).1 18 + 1) (aSet 13 (a.1 13 + 1) a))).1 13 = a.1 13 + 1 := rfl
    have hcar : inP (carX (aInk (a.1 16).toNat (aI a (a.1 16).toNat - 1) (aSet 18 ((aSet 13 (a.1 13 + 1) a).1 18 + 1) (aSet 13 (a.1 13 + 1) a)))) (carY (aInk (a.1 16).toNat (aI a (a.1 16).toNat - 1) (aSet 18 ((aSet 13 (a.1 13 + 1) a).1 18 + 1) (aSet 13 (a.1 13 + 1) a)))) := by
      refine car_cons (c := c) (r := r) hi.1 hq ?_ ?_
      · rw [e13]; omega
      · rw [e13]; omega
    refine s_markHere hx2 ⟨hi.1.1, fun d s hd => ?_, hl⟩ hcar fun pw' pk' hx3 => ?_
    · have hd2 : c :: r = d :: s := hq.symm.trans hd
      show 0 ≤ a.1 13 + 1 ∧ a.1 13 + 1 ≤ cn d
      rw [← (List.cons.inj hd2).1]; omega
    · refine ⟨_, _, _, _, hc.1, hc.2, ?_⟩
      rw [q_steps hr.1 hr.2.1 hr.2.2.1 hr.2.2.2.1]
      have hcn : nst (cdx c) (cdy c) = cn c := rfl
      have eg : ∀ g : Nat → Int32, upd (upd g 13 (iI (a.1 13 + 1))) 18 (iI (a.1 18 + 1)) 13 = iI (a.1 13 + 1) := fun g => rfl
      rw [hcn, eg, iI_lt (by omega) (by omega) (by omega) (by omega)]
      refine ⟨fun h8 => ?_, fun h8 => ?_⟩
      · rw [if_neg (by omega)] at hp
        exact hp _ _ _ _ _ _ _ _ _ _ _ _ hx3
      · rw [if_pos (by omega)] at hp
        exact s_end hx3 hq hl hc hp
theorem s_lacks {E : EV} {a : AS} {post : Int32 → Prop} {gx : Nat → Int32} {lt : Option Nat} {mo : Int32} {ad : Nat} {ln : Int32} {PL : List Nat} {pf : Nat → va_E} {pw : Nat → Int64} {pk : Int32} {lw : Nat → Int64} {lk : Int32} {ik : Nat → Int32} {cm : Nat} {c : Cm} {r : List Cm} (h : RX E a gx lt ad ln PL pf pw pk lw lk ik) (hi : Inv a) (hq : aQ a = c :: r) (hc : isC PL pf cm c) (hp : post (iI (if lacks a = true then 1 else 0))) : wp_X2_lacksInk E post gx lt mo ad ln PL pf pw pk lw lk ik cm := by
  have ho : okc c := hi.1.1 c (by rw [hq]; exact List.mem_cons_self)
  have hk1 : 1 ≤ c.1 ∧ c.1 ≤ 3 := by
    rcases ho with ho | ho
    · omega
    · have := ho.1; omega
  have h15 := hi.2.2.1.2.1
  have h16 := hi.2.2.1.2.2.1
  have hink := hi.2.2.1.2.2.2 (a.1 16).toNat
  rw [lacks_cons hq] at hp
  unfold wp_X2_lacksInk
  refine ⟨_, _, _, _, hc.1, hc.2, ?_⟩
  rw [q_draws (by omega) (by omega), l0, h.1 15, h.1 16]
  simp (disch := omega) only [iI_eq]
  refine ⟨fun h9 => ?_, fun h9 => ⟨fun h8 => ?_, fun h8 => s_inkOf h h16.1 h16.2 ?_⟩⟩
  · have h2 : ¬ c.1 = 2 := fun e => by rw [if_pos e] at h9; omega
    rw [if_neg (by rw [decide_eq_true_eq]; omega)] at hp
    exact hp
  · rw [if_neg (by rw [decide_eq_true_eq]; omega)] at hp
    exact hp
  · have h2 : c.1 = 2 := Decidable.byContradiction fun e => by rw [if_neg e] at h9; omega
    simp (disch := omega) only [iI_eq]
    refine ⟨fun h7 => ?_, fun h7 => ?_⟩
    · rw [if_pos (by rw [decide_eq_true_eq]; exact ⟨h2, h8, h7⟩)] at hp
      exact hp
    · rw [if_neg (by rw [decide_eq_true_eq]; exact fun e => h7 e.2.2)] at hp
      exact hp
theorem s_doTick {E : EV} {a : AS} {post : Int32 → PX} {gx : Nat → Int32} {lt : Option Nat} {mo : Int32} {ad : Nat} {ln : Int32} {PL : List Nat} {pf : Nat → va_E} {pw : Nat → Int64} {pk : Int32} {lw : Nat → Int64} {lk : Int32} {ik : Nat → Int32} (h : RX E a gx lt ad ln PL pf pw pk lw lk ik) (hi : Inv a) (hp : OX E (post 1) (aDo a)) (hp0 : aDo a = a → OX E (post 0) a) : wp_X2_doTick E post gx lt mo ad ln PL pf pw pk lw lk ik := by
  unfold wp_X2_doTick
  refine s_first h hi.2.2.2.2 (fun hq => ⟨fun _ => ?_, fun y e => (nomatch e)⟩) (fun c r y hq hc => ⟨fun e => (nomatch e), fun z e => ?_⟩)
  · exact hp0 (aDo_nil hq) _ _ _ _ _ _ _ _ _ _ _ _ h
  · rw [← Option.some.inj e]
    have ho : okc c := hi.1.1 c (by rw [hq]; exact List.mem_cons_self)
    have hk1 : 1 ≤ c.1 ∧ c.1 ≤ 3 := by
      rcases ho with ho | ho
      · omega
      · have := ho.1; omega
    have hpr := hi.2.2.1.1
    rw [hq, prog_cons] at hpr
    have h15 := hi.2.2.1.2.1
    refine s_lacks h hi hq hc ?_
    rw [l0, ← l0]
    by_cases hL : lacks a = true
    · rw [if_pos hL]
      refine ⟨fun e => absurd e (by decide), fun _ => hp0 ?_ _ _ _ _ _ _ _ _ _ _ _ _ h⟩
      rw [aDo_cons hq, if_pos hL]
    · rw [if_neg hL]
      rw [aDo_cons hq, if_neg hL] at hp
      refine ⟨fun _ => ?_, fun e => absurd rfl e⟩
      refine ⟨_, _, _, _, hc.1, hc.2, ?_⟩
      rw [q_draws (by omega) (by omega), h.1 15, l3]
      rw [iI_eq (by omega) (by omega) (by split <;> omega) (by split <;> omega), iI_eq (by omega) (by omega) (by omega) (by omega)]
      unfold aDoC at hp
      refine ⟨fun h9 => ?_, fun h9 => ?_⟩
      · have ht : ¬ (a.1 15 = 0 ↔ c.1 = 2) := by
          by_cases e : c.1 = 2
          · rw [if_pos e] at h9; omega
          · rw [if_neg e] at h9; omega
        rw [if_neg ht] at hp
        refine ⟨fun h3 => ?_, fun h3 => ?_⟩
        · rw [if_pos h3] at hp
          exact s_change h hi (by omega) hq h3 hc hp
        · rw [if_neg h3] at hp
          exact s_step h hi hq h3 hc hp
      · have ht : (a.1 15 = 0 ↔ c.1 = 2) := by
          by_cases e : c.1 = 2
          · rw [if_pos e] at h9; omega
          · rw [if_neg e] at h9; omega
        rw [if_pos ht] at hp
        exact s_turn h hi (by omega) hp
theorem s_tickL {E : EV} {post : Int32 → PX} {x1 w : Int} (h1 : 0 ≤ x1) (h2 : x1 ≤ 1000) : ∀ (n : Nat) (j : Int) (g : Int32) {a : AS} {gx : Nat → Int32} {lt : Option Nat} {mo : Int32} {ad : Nat} {ln : Int32} {PL : List Nat} {pf : Nat → va_E} {pw : Nat → Int64} {pk : Int32} {lw : Nat → Int64} {lk : Int32} {ik : Nat → Int32}, RX E a gx lt ad ln PL pf pw pk lw lk ik → Inv a → 0 ≤ j → j + n = x1 → (g = 0 → aDo a = a) → OX E (post (iI ((aTicks n a).1 17 + (aTicks n a).1 18 - w))) (aTicks n a) → wp_X2_tick_L37 E post (n + 1) gx lt mo ad ln PL pf pw pk lw lk ik (iI x1) (iI w) g (iI j)
  | 0, j, g, a, gx, lt, mo, ad, ln, PL, pf, pw, pk, lw, lk, ik, h, hi, hj, hn, hg, hp => by
    show (iI x1 ≤ iI j → _) ∧ (¬ _ → _)
    rw [iI_le (by omega) (by omega) (by omega) (by omega)]
    refine ⟨fun _ => ?_, fun e => absurd (show x1 ≤ j by omega) e⟩
    rw [h.1, h.1, iI_add, iI_sub]
    exact hp _ _ _ _ _ _ _ _ _ _ _ _ h
  | n + 1, j, g, a, gx, lt, mo, ad, ln, PL, pf, pw, pk, lw, lk, ik, h, hi, hj, hn, hg, hp => by
    show (iI x1 ≤ iI j → _) ∧ (¬ _ → (_ ∧ (_ → wp_X2_doTick E (fun r_1114 gx_1115 lt_1116 mo_1117 ad_1118 ln_1119 PL_1120 pf_1121 pw_1122 pk_1123 lw_1124 lk_1125 ik_1126 => wp_X2_tick_L37 E post (n + 1) gx_1115 lt_1116 mo_1117 ad_1118 ln_1119 PL_1120 pf_1121 pw_1122 pk_1123 lw_1124 lk_1125 ik_1126 (iI x1) (iI w) r_1114 (iI j + 1)) gx lt mo ad ln PL pf pw pk lw lk ik)))
    rw [iI_le (by omega) (by omega) (by omega) (by omega)]
    refine ⟨fun e => by omega, fun _ => ⟨fun hz => ?_, fun hz => ?_⟩⟩
    · have e := hg hz
      rw [ticks_still e] at hp
      rw [h.1, h.1, iI_add, iI_sub]
      exact hp _ _ _ _ _ _ _ _ _ _ _ _ h
    · have hp' : OX E (post (iI ((aTicks n (aDo a)).1 17 + (aTicks n (aDo a)).1 18 - w))) (aTicks n (aDo a)) := hp
      rw [l1, iI_add]
      refine s_doTick h hi ?_ ?_
      · intro gx' lt' mo' ad' ln' PL' pf' pw' pk' lw' lk' ik' h'
        exact s_tickL h1 h2 n (j + 1) 1 h' (inv_do hi) (by omega) (by omega) (fun e => absurd e (by decide)) hp'
      · intro e gx' lt' mo' ad' ln' PL' pf' pw' pk' lw' lk' ik' h'
        rw [e] at hp'
        exact s_tickL h1 h2 n (j + 1) 0 h' hi (by omega) (by omega) (fun _ => e) hp'
theorem s_tick {E : EV} {a : AS} {post : Int32 → PX} {postX : String → Prop} {gx : Nat → Int32} {lt : Option Nat} {mo : Int32} {ad : Nat} {ln : Int32} {PL : List Nat} {pf : Nat → va_E} {pw : Nat → Int64} {pk : Int32} {lw : Nat → Int64} {lk : Int32} {ik : Nat → Int32} {x : Int} (h : RX E a gx lt ad ln PL pf pw pk lw lk ik) (hi : Inv a) (hx : -2147483648 ≤ x) (hx2 : x < 2147483648) (hp : 1 ≤ x ∧ x ≤ 1000 → OX E (post (iI ((aTicks x.toNat a).1 17 + (aTicks x.toNat a).1 18 - (a.1 17 + a.1 18)))) (aTicks x.toNat a)) (hpX : ¬ (1 ≤ x ∧ x ≤ 1000) → postX sIA) : wp_X2_tick E post postX gx lt mo ad ln PL pf pw pk lw lk ik (iI x) := by
  unfold wp_X2_tick
  rw [h.1, h.1, iI_add, l0, l1, l1000]
  simp (disch := omega) only [iI_lt, iI_le]
  refine ⟨fun e => hpX (by omega), fun e => ⟨fun e2 => ⟨x.toNat + 1, ?_⟩, fun e2 => hpX (by omega)⟩⟩
  exact s_tickL (by omega) (by omega) x.toNat 0 (iI 1) h hi (by omega) (by omega) (fun e => absurd e (by decide)) (hp ⟨by omega, e2⟩)
theorem tmod10 {x : Int} (h : 0 ≤ x) : x - x.tdiv 10 * 10 = x % 10 := by
  rw [Int.tdiv_eq_ediv_of_nonneg h]; omega
theorem s_cut {E : EV} {a : AS} {post : Int32 → PX} {gx : Nat → Int32} {lt : Option Nat} {mo : Int32} {ad : Nat} {ln : Int32} {PL : List Nat} {pf : Nat → va_E} {pw : Nat → Int64} {pk : Int32} {lw : Nat → Int64} {lk : Int32} {ik : Nat → Int32} (h : RX E a gx lt ad ln PL pf pw pk lw lk ik) (h13 : 0 ≤ a.1 13 ∧ a.1 13 ≤ 128) (hp : OX E (post (iI (a.1 13 % 10))) (aCut a)) : wp_X2_cut E post gx lt mo ad ln PL pf pw pk lw lk ik := by
  unfold wp_X2_cut
  rw [h.1 13, l10, iI_div (by omega) (by omega) (by omega) (by omega), iI_mul, iI_sub, iI_sub, tmod10 h13.1]
  refine hp _ _ _ _ _ _ _ _ _ _ _ _ ⟨?_, h.2⟩
  intro k
  show upd (upd (upd (upd gx 6 0) 13 (iI (a.1 13 - a.1 13 % 10))) 14 0) 15 0 k = iI (va_up (va_up (va_up (va_up a.1 13 (a.1 13 - a.1 13 % 10)) 14 0) 15 0) 6 0 k)
  unfold upd va_up
  have := h.1 k
  by_cases e6 : k = 6
  · simp [e6]; exact l0
  · by_cases e15 : k = 15
    · simp [e15]; exact l0
    · by_cases e14 : k = 14
      · simp [e14]; exact l0
      · by_cases e13 : k = 13
        · simp [e13]
        · simp [e6, e15, e14, e13]; exact this
