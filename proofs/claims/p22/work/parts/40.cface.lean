/-! the class's face -/
theorem q_size8 {E : EV} {post : Int32 → Prop} {mo : Int32} {ad : Nat} {ln : Int32} {PL : List Nat} {pf : Nat → va_E} : wp_Jx4a65c_size_8abf5 E post mo ad ln PL pf = post ln := rfl
theorem s_take {E : EV} {a : AS} {post : PX} {gx : Nat → Int32} {lt : Option Nat} {mo : Int32} {ad : Nat} {ln : Int32} {PL : List Nat} {pf : Nat → va_E} {pw : Nat → Int64} {pk : Int32} {lw : Nat → Int64} {lk : Int32} {ik : Nat → Int32} {v : Int} (h : RX E a gx lt ad ln PL pf pw pk lw lk ik) (hi : Inv a) (hl : (aQ a).length ≤ 7) (h1 : 0 ≤ v) (h2 : v ≤ 255) (hp : OX E post (aTake v a)) : wp_X2_takeByte E post gx lt mo ad ln PL pf pw pk lw lk ik (iI v) := by
  obtain ⟨hb1, hb2, hb3⟩ := hi.2.1
  unfold aTake at hp
  unfold wp_X2_takeByte
  have hend : ¬ a.1 6 = 0 → ¬ (a.1 6 = 1 ∧ a.1 4 ≤ 2) → wp_X2_endCommand E post (upd gx 6 0) lt mo ad ln PL pf pw pk lw lk ik (iI v) := by
    intro n0 n1
    rw [if_neg n0, if_neg n1] at hp
    have hb2 := hb2 n0
    have e4 : (aSet 6 0 a).1 4 = a.1 4 := aSet_ne (by omega)
    have e5 : (aSet 6 0 a).1 5 = a.1 5 := aSet_ne (by omega)
    exact s_endC (rx_set h l0) (invC_set (inv_C hi) (by omega)) hl h1 h2 (by rw [e4]; exact hb2) (by rw [e4, e5]; intro h2; exact (hb3 (by omega)).2) hp
  rw [h.1 6, h.1 4, l0, iI_eq (by omega) (by omega) (by omega) (by omega)]
  refine ⟨fun e0 => ?_, fun e0 => ?_⟩
  · rw [if_pos e0] at hp
    unfold aBeg at hp
    unfold wp_X2_beginCommand
    rw [l0, l1, l4]
    simp (disch := omega) only [iI_lt, iI_eq]
    have he : 4 < v ∨ v < 1 → ¬ v = 0 → post (upd gx 7 (gx 7 + iI 1)) lt mo ad ln PL pf pw pk lw lk ik := by
      intro q1 q2
      rw [if_neg (by omega), if_neg q2] at hp
      exact hp _ _ _ _ _ _ _ _ _ _ _ _ (rx_set h (by rw [h.1, iI_add]))
    have hz : v = 0 → post gx lt mo ad ln PL pf pw pk lw lk ik := by
      intro q
      rw [if_neg (by omega), if_pos q] at hp
      exact hp _ _ _ _ _ _ _ _ _ _ _ _ h
    refine ⟨fun q => ⟨fun q2 => hz q2, fun q2 => he (Or.inr q) q2⟩, fun q => ⟨fun q2 => ⟨fun q3 => hz q3, fun q3 => he (Or.inl q2) q3⟩, fun q2 => ?_⟩⟩
    rw [if_pos (by omega)] at hp
    exact hp _ _ _ _ _ _ _ _ _ _ _ _ (rx_set (rx_set h rfl) rfl)
  · have hb2 := hb2 e0
    rw [← l0, l1, l2, iI_eq (by omega) (by omega) (by omega) (by omega), iI_eq (by omega) (by omega) (by omega) (by omega), iI_eq (by omega) (by omega) (by omega) (by omega)]
    have hset : a.1 6 = 1 → a.1 4 ≤ 2 → post (upd (upd gx 5 (iI v)) 6 (iI 2)) lt mo ad ln PL pf pw pk lw lk ik := by
      intro q1 q2
      rw [if_neg e0, if_pos ⟨q1, q2⟩] at hp
      exact hp _ _ _ _ _ _ _ _ _ _ _ _ (rx_set (rx_set h rfl) rfl)
    refine ⟨fun q => ⟨fun q2 => hset q (by omega), fun q2 => ⟨fun q3 => hset q (by omega), fun q3 => hend e0 (by omega)⟩⟩, fun q => hend e0 (by omega)⟩
theorem s_feed {E : EV} {a : AS} {post : Int32 → PX} {postX : String → Prop} {gx : Nat → Int32} {lt : Option Nat} {mo : Int32} {ad : Nat} {ln : Int32} {PL : List Nat} {pf : Nat → va_E} {pw : Nat → Int64} {pk : Int32} {lw : Nat → Int64} {lk : Int32} {ik : Nat → Int32} {v : Int} (h : RX E a gx lt ad ln PL pf pw pk lw lk ik) (hi : Inv a) (h1 : -2147483648 ≤ v) (h2 : v < 2147483648) (hp : 0 ≤ v ∧ v ≤ 255 → OX E (post (if 8 ≤ (aQ a).length then 0 else 1)) (aFeed v a)) (hpX : ¬ (0 ≤ v ∧ v ≤ 255) → postX sIA) : wp_X2_feed E post postX gx lt mo ad ln PL pf pw pk lw lk ik (iI v) := by
  have hl := hi.2.2.2.2
  unfold wp_X2_feed
  rw [q_size8, h.2.1]
  rw [show ((iI v) < 0 ↔ v < 0) from by rw [l0, iI_lt (by omega) (by omega) (by omega) (by omega)], l255, iI_le (by omega) (by omega) (by omega) (by omega), l8, iI_lt (by omega) (by omega) (by omega) (by omega)]
  refine ⟨fun e => hpX (by omega), fun e => ⟨fun e2 => ⟨fun e3 => ?_, fun e3 => ?_⟩, fun e2 => hpX (by omega)⟩⟩
  · have hp := hp (by omega)
    unfold aFeed at hp
    rw [if_neg (by omega), if_neg (by omega)] at hp
    rw [← h.2.1]
    exact s_take h hi (by omega) (by omega) (by omega) hp
  · have hp := hp (by omega)
    unfold aFeed at hp
    rw [if_pos (by omega), if_pos (by omega)] at hp
    rw [← h.2.1]
    exact hp _ _ _ _ _ _ _ _ _ _ _ _ h
theorem s_refill {E : EV} {a : AS} {post : Int32 → PX} {postX : String → Prop} {gx : Nat → Int32} {lt : Option Nat} {mo : Int32} {ad : Nat} {ln : Int32} {PL : List Nat} {pf : Nat → va_E} {pw : Nat → Int64} {pk : Int32} {lw : Nat → Int64} {lk : Int32} {ik : Nat → Int32} {x : Int} (h : RX E a gx lt ad ln PL pf pw pk lw lk ik) (h1 : -2147483648 ≤ x) (h2 : x < 2147483648) (hp : 0 ≤ x ∧ x ≤ 2 → OX E (post (iI (aI a x.toNat))) (aInk x.toNat 500 a)) (hpX : ¬ (0 ≤ x ∧ x ≤ 2) → postX sIB) : wp_X2_refill E post postX gx lt mo ad ln PL pf pw pk lw lk ik (iI x) := by
  unfold wp_X2_refill
  rw [q_hasPen h1 h2]
  by_cases hx : 0 ≤ x ∧ x ≤ 2
  · rw [if_pos hx]
    refine ⟨fun e => absurd e (by decide), fun _ => s_inkOf h hx.1 hx.2 ?_⟩
    rw [l500]
    exact s_setInk h hx.1 hx.2 fun ik' h' => hp hx _ _ _ _ _ _ _ _ _ _ _ _ h'
  · rw [if_neg hx]
    exact ⟨fun _ => hpX hx, fun e => absurd rfl e⟩
def aPour (k : Nat) (n : Int) (a : AS) : AS := aInk k (if aI a k < n then 0 else aI a k - n) a
theorem inv_pour {a : AS} (h : Inv a) {k : Nat} {n : Int} (h1 : 1 ≤ n) : Inv (aPour k n a) := by
  have := h.2.2.1.2.2.2 k
  exact inv_inkset h (by split <;> omega) (by split <;> omega)
theorem s_pour {E : EV} {a : AS} {post : Int32 → PX} {postX : String → Prop} {gx : Nat → Int32} {lt : Option Nat} {mo : Int32} {ad : Nat} {ln : Int32} {PL : List Nat} {pf : Nat → va_E} {pw : Nat → Int64} {pk : Int32} {lw : Nat → Int64} {lk : Int32} {ik : Nat → Int32} {x n : Int} (h : RX E a gx lt ad ln PL pf pw pk lw lk ik) (hi : Inv a) (h1 : -2147483648 ≤ x) (h2 : x < 2147483648) (h3 : -2147483648 ≤ n) (h4 : n < 2147483648) (hp : 0 ≤ x ∧ x ≤ 2 → 1 ≤ n ∧ n ≤ 500 → OX E (post (iI (if aI a x.toNat < n then 0 else aI a x.toNat - n))) (aPour x.toNat n a)) (hpB : ¬ (0 ≤ x ∧ x ≤ 2) → postX sIB) (hpA : 0 ≤ x ∧ x ≤ 2 → ¬ (1 ≤ n ∧ n ≤ 500) → postX sIA) : wp_X2_pour E post postX gx lt mo ad ln PL pf pw pk lw lk ik (iI x) (iI n) := by
  unfold wp_X2_pour
  rw [q_hasPen h1 h2]
  by_cases hx : 0 ≤ x ∧ x ≤ 2
  · rw [if_pos hx]
    refine ⟨fun e => absurd e (by decide), fun _ => ?_⟩
    rw [l500, iI_le h3 h4 (by omega) (by omega), show ((iI n) < 1 ↔ n < 1) from by rw [l1, iI_lt (by omega) (by omega) (by omega) (by omega)]]
    refine ⟨fun e => hpA hx (by omega), fun e => ⟨fun e2 => ?_, fun e2 => hpA hx (by omega)⟩⟩
    refine s_inkOf h hx.1 hx.2 ?_
    have hb := hi.2.2.1.2.2.2 x.toNat
    have ev : (if 0 < iI (aI a x.toNat) - iI n then iI (aI a x.toNat) - iI n else 0) = iI (if aI a x.toNat < n then 0 else aI a x.toNat - n) := by
      rw [iI_sub, l0]
      have e7 : (iI 0 < iI (aI a x.toNat - n)) ↔ 0 < aI a x.toNat - n := iI_lt (by omega) (by omega) (by omega) (by omega)
      by_cases e8 : 0 < aI a x.toNat - n
      · rw [if_pos (e7.mpr e8), if_neg (by omega)]
      · rw [if_neg (fun e9 => e8 (e7.mp e9))]
        apply iI_inj
        split <;> omega
    rw [ev]
    exact s_setInk h hx.1 hx.2 fun ik' h' => hp hx (by omega) _ _ _ _ _ _ _ _ _ _ _ _ h'
  · rw [if_neg hx]
    exact ⟨fun _ => hpB hx, fun e => absurd rfl e⟩
theorem s_ink {E : EV} {a : AS} {post : Int32 → PX} {postX : String → Prop} {gx : Nat → Int32} {lt : Option Nat} {mo : Int32} {ad : Nat} {ln : Int32} {PL : List Nat} {pf : Nat → va_E} {pw : Nat → Int64} {pk : Int32} {lw : Nat → Int64} {lk : Int32} {ik : Nat → Int32} {x : Int} (h : RX E a gx lt ad ln PL pf pw pk lw lk ik) (h1 : -2147483648 ≤ x) (h2 : x < 2147483648) (hp : 0 ≤ x ∧ x ≤ 2 → OX E (post (iI (aI a x.toNat))) a) (hpX : ¬ (0 ≤ x ∧ x ≤ 2) → postX sIB) : wp_X2_ink E post postX gx lt mo ad ln PL pf pw pk lw lk ik (iI x) := by
  unfold wp_X2_ink
  rw [q_hasPen h1 h2]
  by_cases hx : 0 ≤ x ∧ x ≤ 2
  · rw [if_pos hx]
    exact ⟨fun e => absurd e (by decide), fun _ => s_inkOf h hx.1 hx.2 (hp hx _ _ _ _ _ _ _ _ _ _ _ _ h)⟩
  · rw [if_neg hx]
    exact ⟨fun _ => hpX hx, fun e => absurd rfl e⟩
theorem s_isMarked {E : EV} {a : AS} {post : Int32 → PX} {postX : String → Prop} {gx : Nat → Int32} {lt : Option Nat} {mo : Int32} {ad : Nat} {ln : Int32} {PL : List Nat} {pf : Nat → va_E} {pw : Nat → Int64} {pk : Int32} {lw : Nat → Int64} {lk : Int32} {ik : Nat → Int32} {x y : Int} (h : RX E a gx lt ad ln PL pf pw pk lw lk ik) (h1 : -2147483648 ≤ x) (h2 : x < 2147483648) (h3 : -2147483648 ≤ y) (h4 : y < 2147483648) (hp : inP x y → OX E (post (if aM a (cel x y) = true then 1 else 0)) a) (hpX : ¬ inP x y → postX sIB) : wp_X2_isMarked E post postX gx lt mo ad ln PL pf pw pk lw lk ik (iI x) (iI y) := by
  unfold wp_X2_isMarked
  rw [q_hasCell h1 h2 h3 h4]
  by_cases hx : 0 ≤ x ∧ x ≤ 99 ∧ 0 ≤ y ∧ y ≤ 99
  · rw [if_pos hx]
    refine ⟨fun e => absurd e (by decide), fun _ => ?_⟩
    rw [q_hasMark hx h.2.2.2.2.1]
    refine ⟨?_, hp hx _ _ _ _ _ _ _ _ _ _ _ _ h⟩
    split <;> rfl
  · rw [if_neg hx]
    exact ⟨fun _ => hpX hx, fun e => absurd rfl e⟩
theorem s_at {E : EV} {a : AS} {post : Int32 → Prop} {gx : Nat → Int32} {lt : Option Nat} {mo : Int32} {ad : Nat} {ln : Int32} {PL : List Nat} {pf : Nat → va_E} {pw : Nat → Int64} {pk : Int32} {lw : Nat → Int64} {lk : Int32} {ik : Nat → Int32} (h : RX E a gx lt ad ln PL pf pw pk lw lk ik) (hi : Inv a) (hp : post (iI (100 * carY a + carX a))) : wp_X2_at E post gx lt mo ad ln PL pf pw pk lw lk ik := by
  unfold wp_X2_at
  refine s_carY h (hk_inv hi) (s_carX h (hk_inv hi) ?_)
  rw [l100, iI_mul, iI_add]
  exact hp
theorem s_isDown {E : EV} {a : AS} {post : Int32 → Prop} {gx : Nat → Int32} {lt : Option Nat} {mo : Int32} {ad : Nat} {ln : Int32} {PL : List Nat} {pf : Nat → va_E} {pw : Nat → Int64} {pk : Int32} {lw : Nat → Int64} {lk : Int32} {ik : Nat → Int32} (h : RX E a gx lt ad ln PL pf pw pk lw lk ik) (hi : Inv a) (hp : post (iI (a.1 15))) : wp_X2_isDown E post gx lt mo ad ln PL pf pw pk lw lk ik := by
  unfold wp_X2_isDown
  rw [h.1]
  refine ⟨?_, hp⟩
  rcases hi.2.2.1.2.1 with e | e <;> rw [e] <;> rfl
theorem s_waiting {E : EV} {a : AS} {post : Int32 → Prop} {gx : Nat → Int32} {lt : Option Nat} {mo : Int32} {ad : Nat} {ln : Int32} {PL : List Nat} {pf : Nat → va_E} {pw : Nat → Int64} {pk : Int32} {lw : Nat → Int64} {lk : Int32} {ik : Nat → Int32} (h : RX E a gx lt ad ln PL pf pw pk lw lk ik) (hi : Inv a) (hp : post (iI (if lacks a = true then 1 else 0))) : wp_X2_isWaiting E post gx lt mo ad ln PL pf pw pk lw lk ik := by
  unfold wp_X2_isWaiting
  refine s_first h hi.2.2.2.2 (fun hq => ⟨fun _ => ?_, fun y e => (nomatch e)⟩) (fun c r y hq hc => ⟨fun e => (nomatch e), fun z e => ?_⟩)
  · rw [lacks_nil hq] at hp; exact hp
  · rw [← Option.some.inj e]
    refine s_lacks h hi hq hc ?_
    by_cases hL : lacks a = true
    · rw [if_pos hL] at hp ⊢
      exact ⟨fun e => absurd e (by decide), fun _ => hp⟩
    · rw [if_neg hL] at hp ⊢
      exact ⟨fun _ => hp, fun e => absurd rfl e⟩
abbrev bI2 (d : Bool) : Int := if d = true then 1 else 0
theorem bI2_eq {d : Bool} {p : Prop} [Decidable p] : (iI (bI2 d) = iI (if p then 1 else 0)) ↔ d = decide p := by
  unfold bI2
  by_cases hp : p <;> cases d <;> simp [hp] <;> decide
theorem s_tlL {E : EV} {a : AS} {post : Int32 → Prop} {gx : Nat → Int32} {lt : Option Nat} {mo : Int32} {ad : Nat} {ln : Int32} {PL : List Nat} {pf : Nat → va_E} {pw : Nat → Int64} {pk : Int32} {lw : Nat → Int64} {lk : Int32} {ik : Nat → Int32} (h : RX E a gx lt ad ln PL pf pw pk lw lk ik) (hi : Inv a) : ∀ (m i : Nat) (s : Int) (d : Bool), i + m = (aQ a).length → post (iI (s + tl d ((aQ a).drop i) - a.1 13 - a.1 14)) → wp_X2_timeLeft_L9 E post gx lt mo ad ln PL pf pw pk lw lk ik (m + 1) (iI s) (iI (bI2 d)) (iI (i : Int))
  | 0, i, s, d, hm, hp => by
    have hl := hi.2.2.2.2
    show wp_Jx4a65c_size_8abf5 E (fun r_85 : Int32 => ((r_85 ≤ iI (i : Int) → post ((iI s - (gx 13)) - (gx 14))) ∧ (¬ (r_85 ≤ iI (i : Int)) → _))) mo ad ln PL pf
    rw [q_size8, h.2.1, iI_le (by omega) (by omega) (by omega) (by omega), h.1, h.1, iI_sub, iI_sub]
    refine ⟨fun _ => ?_, fun e => absurd (show ((aQ a).length : Int) ≤ (i : Int) by omega) e⟩
    rw [List.drop_eq_nil_of_le (by omega), show tl d [] = 0 from rfl, Int.add_zero] at hp
    exact hp
  | m + 1, i, s, d, hm, hp => by
    have hl := hi.2.2.2.2
    have hlt : i < (aQ a).length := by omega
    have ho : okc ((aQ a)[i]) := hi.1.1 _ (List.getElem_mem hlt)
    have hr := okc_rng ho
    have hk1 : 1 ≤ ((aQ a)[i]).1 ∧ ((aQ a)[i]).1 ≤ 3 := by
      rcases ho with ho | ho
      · omega
      · have := ho.1; omega
    have ed : (aQ a).drop i = (aQ a)[i] :: (aQ a).drop (i + 1) := List.drop_eq_getElem_cons hlt
    rw [ed] at hp
    rw [show wp_X2_timeLeft_L9 E post gx lt mo ad ln PL pf pw pk lw lk ik (m + 1 + 1) = _ from rfl]
    unfold wp_X2_timeLeft_L9
    rw [q_size8, h.2.1, iI_le (by omega) (by omega) (by omega) (by omega)]
    refine ⟨fun e => by omega, fun _ => ?_⟩
    refine s_get h.2.2.1 hl (List.getElem?_eq_getElem hlt) fun y hc => ⟨fun e => (nomatch e), fun z ez => ?_⟩
    rw [← Option.some.inj ez]
    refine ⟨_, _, _, _, hc.1, hc.2, ?_⟩
    have hcn : nst (cdx ((aQ a)[i])) (cdy ((aQ a)[i])) = cn ((aQ a)[i]) := rfl
    have IH := s_tlL (post := post) (mo := mo) h hi m (i + 1)
    have ei : iI (i : Int) + 1 = iI ((i + 1 : Nat) : Int) := by rw [l1, iI_add]; rfl
    have eb : iI (if ((aQ a)[i]).1 = 2 then 1 else 0) = iI (bI2 (decide (((aQ a)[i]).1 = 2))) := by
      unfold bI2; simp only [decide_eq_true_eq]
    rw [q_draws (by omega) (by omega), bI2_eq, l3, iI_eq (by omega) (by omega) (by omega) (by omega), q_draws (by omega) (by omega), q_steps hr.1 hr.2.1 hr.2.2.1 hr.2.2.2.1, q_draws (by omega) (by omega), hcn, ei, eb, h.2.1.symm, l2]
    simp only [iI_add]
    unfold tl at hp
    refine ⟨fun e1 => ⟨fun e3 => ?_, fun e3 => ?_⟩, fun e1 => ⟨fun e3 => ?_, fun e3 => ?_⟩⟩
    · rw [if_pos e1, if_pos e3] at hp
      exact IH _ _ (by omega) (by rw [show s + 3 + tl (decide (((aQ a)[i]).1 = 2)) ((aQ a).drop (i + 1)) = s + (0 + 3 + tl (decide (((aQ a)[i]).1 = 2)) ((aQ a).drop (i + 1))) by omega]; exact hp)
    · rw [if_pos e1, if_neg e3] at hp
      exact IH _ _ (by omega) (by rw [show s + cn ((aQ a)[i]) + tl (decide (((aQ a)[i]).1 = 2)) ((aQ a).drop (i + 1)) = s + (0 + cn ((aQ a)[i]) + tl (decide (((aQ a)[i]).1 = 2)) ((aQ a).drop (i + 1))) by omega]; exact hp)
    · rw [if_neg e1, if_pos e3] at hp
      rw [q_draws (by omega) (by omega), eb]
      exact IH _ _ (by omega) (by rw [show s + 2 + 3 + tl (decide (((aQ a)[i]).1 = 2)) ((aQ a).drop (i + 1)) = s + (2 + 3 + tl (decide (((aQ a)[i]).1 = 2)) ((aQ a).drop (i + 1))) by omega]; exact hp)
    · rw [if_neg e1, if_neg e3] at hp
      rw [q_steps hr.1 hr.2.1 hr.2.2.1 hr.2.2.2.1, q_draws (by omega) (by omega), eb, hcn, iI_add]
      exact IH _ _ (by omega) (by rw [show s + 2 + cn ((aQ a)[i]) + tl (decide (((aQ a)[i]).1 = 2)) ((aQ a).drop (i + 1)) = s + (2 + cn ((aQ a)[i]) + tl (decide (((aQ a)[i]).1 = 2)) ((aQ a).drop (i + 1))) by omega]; exact hp)
theorem s_timeLeft {E : EV} {a : AS} {post : Int32 → Prop} {gx : Nat → Int32} {lt : Option Nat} {mo : Int32} {ad : Nat} {ln : Int32} {PL : List Nat} {pf : Nat → va_E} {pw : Nat → Int64} {pk : Int32} {lw : Nat → Int64} {lk : Int32} {ik : Nat → Int32} (h : RX E a gx lt ad ln PL pf pw pk lw lk ik) (hi : Inv a) (hp : post (iI (tl (decide (a.1 15 = 1)) (aQ a) - a.1 13 - a.1 14))) : wp_X2_timeLeft E post gx lt mo ad ln PL pf pw pk lw lk ik := by
  refine ⟨(aQ a).length + 1, ?_⟩
  have := s_tlL (post := post) (mo := mo) h hi (aQ a).length 0 0 (decide (a.1 15 = 1)) (by omega) (by rw [List.drop_zero, Int.zero_add]; exact hp)
  rw [h.1 15]
  have e : a.1 15 = bI2 (decide (a.1 15 = 1)) := by
    unfold bI2
    rcases hi.2.2.1.2.1 with e | e <;> rw [e] <;> rfl
  rw [← e] at this
  exact this
