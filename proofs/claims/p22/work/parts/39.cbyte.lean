/-! the class's bytes -/
def okr (c : Cm) : Prop := (c.1 = 3 ∧ 0 ≤ c.2.1 ∧ c.2.1 ≤ 255 ∧ c.2.2 = 0) ∨ ((c.1 = 1 ∨ c.1 = 2) ∧ -128 ≤ c.2.1 ∧ c.2.1 ≤ 127 ∧ -128 ≤ c.2.2 ∧ c.2.2 ≤ 127)
theorem okr_m {c : Cm} (h : okm c) : okr c := Or.inr ⟨h.1, h.2.1, h.2.2.1, h.2.2.2.1, h.2.2.2.2.1⟩
theorem okr_rng {c : Cm} (h : okr c) : (-128 ≤ cdx c ∧ cdx c ≤ 127 ∧ -128 ≤ cdy c ∧ cdy c ≤ 127) ∧ (1 ≤ c.1 ∧ c.1 ≤ 3) ∧ (0 ≤ cpn c ∧ cpn c ≤ 255) := by
  unfold cdx cdy cpn
  rcases h with ⟨h1, h2⟩ | ⟨h1, h2⟩
  · simp [h1]; omega
  · have h3 : ¬ c.1 = 3 := by omega
    rw [if_neg h3, if_neg h3, if_neg h3]; omega
theorem okr_c {c : Cm} (h : okr c) {A : Nat → Int} (hr : rightC A c = true) : okc c := by
  unfold rightC at hr
  rcases h with ⟨h1, h2, h3, h4⟩ | ⟨h1, h2, h3, h4, h5⟩
  · rw [if_pos h1] at hr
    have := of_decide_eq_true hr
    exact Or.inl ⟨h1, this.1, this.2, h4⟩
  · rw [if_neg (by omega)] at hr
    have := of_decide_eq_true hr
    exact Or.inr ⟨h1, h2, h3, h4, h5, this.1⟩
theorem nst_zero {u v : Int} (h : u = 0 ∧ v = 0) : nst u v = 0 := by rw [h.1, h.2]; rfl
theorem s_isRight {E : EV} {a : AS} {post : Int32 → Prop} {gx : Nat → Int32} {lt : Option Nat} {mo : Int32} {ad : Nat} {ln : Int32} {PL : List Nat} {pf : Nat → va_E} {pw : Nat → Int64} {pk : Int32} {lw : Nat → Int64} {lk : Int32} {ik : Nat → Int32} {cm : Nat} {c : Cm} (h : RX E a gx lt ad ln PL pf pw pk lw lk ik) (hi : inP (a.1 9) (a.1 10)) (ho : okr c) (hc : isC PL pf cm c) (hp : post (iI (if rightC a.1 c = true then 1 else 0))) : wp_X2_isRight E post gx lt mo ad ln PL pf pw pk lw lk ik cm := by
  have hr := okr_rng ho
  obtain ⟨i1, i2, i3, i4⟩ := hi
  unfold wp_X2_isRight
  refine ⟨_, _, _, _, hc.1, hc.2, ?_⟩
  rw [l3, iI_eq (by omega) (by omega) (by omega) (by omega)]
  unfold rightC at hp
  refine ⟨fun h3 => ?_, fun h3 => ?_⟩
  · rw [q_hasPen (by omega) (by omega)]
    rw [if_pos h3] at hp
    have e : cpn c = c.2.1 := if_pos h3
    rw [e]
    have e2 : (if 0 ≤ c.2.1 ∧ c.2.1 ≤ 2 then (1 : Int) else 0) = if decide (0 ≤ c.2.1 ∧ c.2.1 ≤ 2) = true then 1 else 0 := by simp only [decide_eq_true_eq]
    rw [e2]
    refine ⟨?_, hp⟩
    split <;> rfl
  · rw [if_neg h3] at hp
    rw [q_steps hr.1.1 hr.1.2.1 hr.1.2.2.1 hr.1.2.2.2, l0]
    have hn := nst_rng hr.1.1 hr.1.2.1 hr.1.2.2.1 hr.1.2.2.2
    rw [iI_le (by omega) (by omega) (by omega) (by omega)]
    have ex := (okm_d h3).1
    have ey := (okm_d h3).2
    refine ⟨fun hz => ?_, fun hz => ?_⟩
    · rw [if_neg] at hp
      · exact hp
      · rw [decide_eq_true_eq]
        intro hw
        have := nst_pos hw.1
        rw [← ex, ← ey] at this
        omega
    · rw [h.1, h.1, iI_add, iI_add, q_hasCell (by omega) (by omega) (by omega) (by omega), ← l0]
      have hw : ¬ (c.2.1 = 0 ∧ c.2.2 = 0) := by
        intro hw
        rw [← ex, ← ey] at hw
        have := nst_zero hw
        omega
      rw [ex, ey]
      by_cases hin : 0 ≤ a.1 9 + c.2.1 ∧ a.1 9 + c.2.1 ≤ 99 ∧ 0 ≤ a.1 10 + c.2.2 ∧ a.1 10 + c.2.2 ≤ 99
      · rw [if_pos hin]
        rw [if_pos (by rw [decide_eq_true_eq]; exact ⟨hw, hin⟩)] at hp
        exact ⟨fun e => absurd e (by decide), fun _ => hp⟩
      · rw [if_neg hin]
        rw [if_neg (by rw [decide_eq_true_eq]; exact fun e => hin e.2)] at hp
        exact ⟨fun _ => hp, fun e => absurd rfl e⟩
theorem s_planL {E : EV} {post : PX} {cm : Nat} {c : Cm} {gx : Nat → Int32} {lt : Option Nat} {mo : Int32} {ad : Nat} {ln : Int32} {PL : List Nat} {pf : Nat → va_E} {pw : Nat → Int64} {pk : Int32} {ik : Nat → Int32} {x y : Int} {f : Nat → Bool} (ho : okc c) (hn : 0 < cn c) (hc : isC PL pf cm c) (h9 : gx 9 = iI x) (h10 : gx 10 = iI y) (hi : inP x y) (hi2 : inP (x + cdx c) (y + cdy c)) (hp : ∀ lw' lk', PRx (lineC x y (cdx c) (cdy c) (cn c) ((cn c).toNat + 1) f) lw' lk' → post gx lt mo ad ln PL pf pw pk lw' lk' ik) : ∀ (m k : Nat) (lw : Nat → Int64) (lk : Int32), k + m = (cn c).toNat + 1 → PRx (lineC x y (cdx c) (cdy c) (cn c) k f) lw lk → wp_X2_planLine_L7 E post cm (m + 1) gx lt mo ad ln PL pf pw pk lw lk ik (iI (cn c)) (iI (k : Int))
  | 0, k, lw, lk, hk, hl => by
    have hr := okc_rng ho
    show (iI (cn c) < iI (k : Int) → _) ∧ (¬ _ → _)
    rw [iI_lt (by omega) (by omega) (by omega) (by omega)]
    refine ⟨fun _ => hp _ _ ?_, fun e => absurd (show cn c < (k : Int) by omega) e⟩
    rw [show (cn c).toNat + 1 = k by omega]; exact hl
  | m + 1, k, lw, lk, hk, hl => by
    have hr := okc_rng ho
    show (iI (cn c) < iI (k : Int) → _) ∧ (¬ _ → _)
    rw [iI_lt (by omega) (by omega) (by omega) (by omega)]
    refine ⟨fun e => by omega, fun _ => ?_⟩
    refine ⟨_, _, _, _, hc.1, hc.2, ?_⟩
    rw [q_wayX hr.1 hr.2.1 hr.2.2.1 hr.2.2.2.1 (by omega) (by omega), q_wayY hr.1 hr.2.1 hr.2.2.1 hr.2.2.2.1 (by omega) (by omega), h9, h10, iI_add, iI_add]
    have hcn : nst (cdx c) (cdy c) = cn c := rfl
    rw [hcn]
    refine q_putMark (line_in hn hi hi2 (by omega) (by omega)) hl fun lw' lk' hl' => ?_
    rw [l1, iI_add, show ((k : Int) + 1) = ((k + 1 : Nat) : Int) by omega]
    exact s_planL ho hn hc h9 h10 hi hi2 hp m (k + 1) lw' lk' (by omega) hl'
theorem s_plan {E : EV} {a : AS} {post : PX} {gx : Nat → Int32} {lt : Option Nat} {mo : Int32} {ad : Nat} {ln : Int32} {PL : List Nat} {pf : Nat → va_E} {pw : Nat → Int64} {pk : Int32} {lw : Nat → Int64} {lk : Int32} {ik : Nat → Int32} {cm : Nat} {c : Cm} (h : RX E a gx lt ad ln PL pf pw pk lw lk ik) (ho : okc c) (hn : 0 < cn c) (hc : isC PL pf cm c) (hi : inP (a.1 9) (a.1 10)) (hi2 : inP (a.1 9 + cdx c) (a.1 10 + cdy c)) (h2 : c.1 = 2) (hp : ∀ lw' lk', PRx (aPlan c a) lw' lk' → post gx lt mo ad ln PL pf pw pk lw' lk' ik) : wp_X2_planLine E post gx lt mo ad ln PL pf pw pk lw lk ik cm := by
  have hr := okc_rng ho
  unfold wp_X2_planLine
  refine ⟨_, _, _, _, hc.1, hc.2, ?_⟩
  rw [q_steps hr.1 hr.2.1 hr.2.2.1 hr.2.2.2.1]
  refine ⟨(cn c).toNat + 1 + 1, ?_⟩
  refine s_planL (f := aB a) ho hn hc (h.1 9) (h.1 10) hi hi2 (fun lw' lk' hl => hp lw' lk' ?_) ((cn c).toNat + 1) 0 lw lk (by omega) h.2.2.2.2.2.1
  unfold aPlan
  rw [if_pos h2]
  exact hl
def OXc (E : EV) (post : PX) (cm : Nat) (c : Cm) (a : AS) : Prop := ∀ gx lt mo ad ln PL pf pw pk lw lk ik, RX E a gx lt ad ln PL pf pw pk lw lk ik → isC PL pf cm c → post gx lt mo ad ln PL pf pw pk lw lk ik
theorem add_gx {gx : Nat → Int32} {A : Nat → Int} (h : ∀ k, gx k = iI (A k)) {u v : Int} : ∀ k, upd (upd gx 9 (gx 9 + iI u)) 10 (gx 10 + iI v) k = iI (va_up (va_up A 9 (A 9 + u)) 10 (A 10 + v) k) := by
  refine gS (gS h ?_) ?_
  · rw [h, iI_add]
  · rw [h, iI_add]
theorem s_queue {E : EV} {a : AS} {post : Int32 → PX} {gx : Nat → Int32} {lt : Option Nat} {mo : Int32} {ad : Nat} {ln : Int32} {PL : List Nat} {pf : Nat → va_E} {pw : Nat → Int64} {pk : Int32} {lw : Nat → Int64} {lk : Int32} {ik : Nat → Int32} {cm : Nat} {c : Cm} (h : RX E a gx lt ad ln PL pf pw pk lw lk ik) (hi : InvC a) (hl : (aQ a).length ≤ 15) (ho : okr c) (hc : isC PL pf cm c) (hp : rightC a.1 c = true → OXc E (post 1) cm c (aAdd c a)) (hp0 : ¬ rightC a.1 c = true → OXc E (post 0) cm c (aErr a)) : wp_X2_queueIfRight E post gx lt mo ad ln PL pf pw pk lw lk ik cm := by
  have hin := (chain_in hi.1.2.2).2
  have hr := okr_rng ho
  unfold wp_X2_queueIfRight
  refine s_isRight h hin ho hc ?_
  by_cases hR : rightC a.1 c = true
  · rw [if_pos hR]
    refine ⟨fun e => absurd e (by decide), fun _ => ?_⟩
    refine ⟨_, _, _, _, hc.1, hc.2, ?_⟩
    have hoc := okr_c ho hR
    have hin2 := right_in hi.1 hoc hR
    rw [q_draws (by omega) (by omega)]
    have fin : ∀ lw' lk', PRx (aPlan c a) lw' lk' → wp_Jx4a65c_add_9ea2d E (fun (r_911 : Int32) (mo_912 : Int32) (ad_913 : Nat) (ln_914 : Int32) (PL_915 : List Nat) (pf_916 : Nat → va_E) => (∃ ckz_917 cxz_917 cyz_917 cpz_917 : Int32, cm ∈ PL_915 ∧ pf_916 cm = .inr (1, [.int ckz_917, .int cxz_917, .int cyz_917, .int cpz_917]) ∧ post 1 (upd (upd gx 9 ((gx 9) + cxz_917)) 10 ((gx 10) + cyz_917)) lt mo_912 ad_913 ln_914 PL_915 pf_916 pw pk lw' lk' ik)) mo ad ln PL pf cm := by
      intro lw' lk' hl'
      rw [h.2.1]
      refine s_add h.2.2.1 hl hc fun mo' ad' PL' pf' hq hk => ?_
      have hc' := hk cm c hc
      refine ⟨_, _, _, _, hc'.1, hc'.2, hp hR _ _ _ _ _ _ _ _ _ _ _ _ ⟨add_gx h.1, ?_, hq, RLt_keep h.2.2.2.1 hk, h.2.2.2.2.1, hl', h.2.2.2.2.2.2⟩ hc'⟩
      show _ = iI ((aQ a ++ [c]).length : Int)
      rw [List.length_append]
      rfl
    by_cases h2 : c.1 = 2
    · rw [if_pos h2]
      refine ⟨fun e => absurd e (by decide), fun _ => ?_⟩
      have hn : 0 < cn c := by rcases okc_pos hoc with e | e <;> omega
      exact s_plan h hoc hn hc hin hin2 h2 fun lw' lk' hl' => fin lw' lk' hl'
    · rw [if_neg h2]
      refine ⟨fun _ => fin lw lk ?_, fun e => absurd rfl e⟩
      unfold aPlan
      rw [if_neg h2]
      exact h.2.2.2.2.2.1
  · rw [if_neg hR]
    refine ⟨fun _ => hp0 hR _ _ _ _ _ _ _ _ _ _ _ _ (rx_set h ?_) hc, fun e => absurd rfl e⟩
    rw [h.1, l1, iI_add]
theorem s_queueI {E : EV} {a : AS} {post : PX} {gx : Nat → Int32} {lt : Option Nat} {mo : Int32} {ad : Nat} {ln : Int32} {PL : List Nat} {pf : Nat → va_E} {pw : Nat → Int64} {pk : Int32} {lw : Nat → Int64} {lk : Int32} {ik : Nat → Int32} {cm : Nat} {c : Cm} (h : RX E a gx lt ad ln PL pf pw pk lw lk ik) (hi : InvC a) (hl : (aQ a).length ≤ 15) (ho : okr c) (hc : isC PL pf cm c) (hp : OX E post (aQue c a)) : wp_X2_queueIfRight E (fun _ => post) gx lt mo ad ln PL pf pw pk lw lk ik cm := by
  unfold aQue at hp
  refine s_queue h hi hl ho hc (fun hR => ?_) (fun hR => ?_)
  · rw [if_pos hR] at hp
    intro g1 g2 g3 g4 g5 g6 g7 g8 g9 g10 g11 g12 hx _
    exact hp _ _ _ _ _ _ _ _ _ _ _ _ hx
  · rw [if_neg hR] at hp
    intro g1 g2 g3 g4 g5 g6 g7 g8 g9 g10 g11 g12 hx _
    exact hp _ _ _ _ _ _ _ _ _ _ _ _ hx
theorem s_motion {E : EV} {a : AS} {post : PX} {gx : Nat → Int32} {lt : Option Nat} {mo : Int32} {ad : Nat} {ln : Int32} {PL : List Nat} {pf : Nat → va_E} {pw : Nat → Int64} {pk : Int32} {lw : Nat → Int64} {lk : Int32} {ik : Nat → Int32} {cm : Nat} {c : Cm} (h : RX E a gx lt ad ln PL pf pw pk lw lk ik) (hi : InvC a) (hl : (aQ a).length ≤ 15) (ho : okr c) (hc : isC PL pf cm c) (hp : OX E post (aMot c a)) : wp_X2_queueMotion E post gx lt mo ad ln PL pf pw pk lw lk ik cm := by
  unfold aMot at hp
  unfold wp_X2_queueMotion
  refine s_queue h hi hl ho hc (fun hR => ?_) (fun hR => ?_)
  · rw [if_pos hR] at hp
    intro g1 g2 g3 g4 g5 g6 g7 g8 g9 g10 g11 g12 hx hc'
    exact ⟨fun e => absurd e (by decide), fun _ => hp _ _ _ _ _ _ _ _ _ _ _ _ ⟨hx.1, hx.2.1, hx.2.2.1, ⟨cm, rfl, hc'⟩, hx.2.2.2.2⟩⟩
  · rw [if_neg hR] at hp
    intro g1 g2 g3 g4 g5 g6 g7 g8 g9 g10 g11 g12 hx _
    exact ⟨fun _ => hp _ _ _ _ _ _ _ _ _ _ _ _ hx, fun e => absurd rfl e⟩
theorem s_repL {E : EV} {post : PX} {c : Cm} (ho : okm c) {T : Nat} (hT : T ≤ 9) : ∀ (m j : Nat) {a : AS} {gx : Nat → Int32} {lt : Option Nat} {mo : Int32} {ad : Nat} {ln : Int32} {PL : List Nat} {pf : Nat → va_E} {pw : Nat → Int64} {pk : Int32} {lw : Nat → Int64} {lk : Int32} {ik : Nat → Int32}, RX E a gx lt ad ln PL pf pw pk lw lk ik → InvC a → j + m = T → (aQ a).length + m ≤ 16 → aL a = some c → OX E post (aRep c m a) → wp_X2_repeatLatest_L31 E post (m + 1) gx lt mo ad ln PL pf pw pk lw lk ik (iI (T : Int)) (iI (j : Int)) j (32 * j)
  | 0, j, a, gx, lt, mo, ad, ln, PL, pf, pw, pk, lw, lk, ik, h, hi, hj, hl, hL, hp => by
    show (iI (T : Int) ≤ iI (j : Int) → _) ∧ (¬ _ → _)
    rw [iI_le (by omega) (by omega) (by omega) (by omega)]
    exact ⟨fun _ => ⟨by omega, hp _ _ _ _ _ _ _ _ _ _ _ _ h⟩, fun e => absurd (show (T : Int) ≤ (j : Int) by omega) e⟩
  | m + 1, j, a, gx, lt, mo, ad, ln, PL, pf, pw, pk, lw, lk, ik, h, hi, hj, hl, hL, hp => by
    have hlt := h.2.2.2.1
    rw [hL] at hlt
    obtain ⟨y, hy, hc⟩ := hlt
    show (iI (T : Int) ≤ iI (j : Int) → _) ∧ (¬ _ → _)
    rw [iI_le (by omega) (by omega) (by omega) (by omega)]
    refine ⟨fun e => by omega, fun _ => ⟨y, hy, by omega, ?_⟩⟩
    rw [hy] at h
    refine s_queueI (post := fun gx_964 lt_965 mo_966 ad_967 ln_968 PL_969 pf_970 pw_971 pk_972 lw_973 lk_974 ik_975 => wp_X2_repeatLatest_L31 E post (m + 1) gx_964 lt_965 mo_966 ad_967 ln_968 PL_969 pf_970 pw_971 pk_972 lw_973 lk_974 ik_975 (iI (T : Int)) (iI (j : Int) + 1) (j + 1) (32 * j + 32)) h hi (by omega) (okr_m ho) hc ?_
    intro g1 g2 g3 g4 g5 g6 g7 g8 g9 g10 g11 g12 hx
    have hlen := len_que a c
    have := s_repL ho hT m (j + 1) (mo := g3) hx (invC_que hi (Or.inr ho)) (by omega) (by omega) ((lat_que a c).trans hL) hp
    rw [l1, iI_add, show ((j : Int) + 1) = ((j + 1 : Nat) : Int) by omega, show 32 * j + 32 = 32 * (j + 1) by omega]
    exact this
theorem s_repeat {E : EV} {a : AS} {post : PX} {gx : Nat → Int32} {lt : Option Nat} {mo : Int32} {ad : Nat} {ln : Int32} {PL : List Nat} {pf : Nat → va_E} {pw : Nat → Int64} {pk : Int32} {lw : Nat → Int64} {lk : Int32} {ik : Nat → Int32} {v : Int} (h : RX E a gx lt ad ln PL pf pw pk lw lk ik) (hi : InvC a) (hl : (aQ a).length ≤ 7) (h1 : 0 ≤ v) (h2 : v ≤ 255) (hp : OX E post (aRpt v a)) : wp_X2_repeatLatest E post gx lt mo ad ln PL pf pw pk lw lk ik (iI v) := by
  have he : ∀ b, OX E post (aErr a) → b = a → RX E b gx lt ad ln PL pf pw pk lw lk ik → post (upd gx 7 (gx 7 + 1)) lt mo ad ln PL pf pw pk lw lk ik := by
    intro b ho _ _
    exact ho _ _ _ _ _ _ _ _ _ _ _ _ (rx_set h (by rw [h.1, l1, iI_add]))
  unfold aRpt at hp
  unfold wp_X2_repeatLatest
  rw [l9, l0]
  rw [show ((iI v) < 1 ↔ v < 1) from by rw [l1, iI_lt (by omega) (by omega) (by omega) (by omega)], iI_lt (x := 9) (by omega) (by omega) (by omega) (by omega)]
  refine ⟨fun e => ?_, fun e => ⟨fun e2 => ?_, fun e2 => ?_⟩⟩
  · rw [if_neg (by omega)] at hp
    exact he a hp rfl h
  · rw [if_neg (by omega)] at hp
    exact he a hp rfl h
  · rw [if_pos (by omega)] at hp
    have hL := h.2.2.2.1
    cases hlat : aL a with
    | none =>
      rw [hlat] at hp hL
      refine ⟨fun _ => ?_, fun y e3 => ?_⟩
      · have := he a hp rfl h
        rw [show lt = none from hL] at this
        exact this
      · rw [show lt = none from hL] at e3; exact nomatch e3
    | some c =>
      rw [hlat] at hp hL
      obtain ⟨y, hy, hc⟩ := hL
      refine ⟨fun e3 => absurd (hy.symm.trans e3) (fun e9 => nomatch e9), fun z ez => ⟨v.toNat + 1, ?_⟩⟩
      rw [← ez]
      have := s_repL (E := E) (post := post) (hi.1.2.1 c hlat) (T := v.toNat) (by omega) v.toNat 0 (mo := mo) h hi (by omega) (by omega) hlat hp
      rw [show ((v.toNat : Nat) : Int) = v by omega] at this
      exact this
theorem rx_push {E : EV} {a : AS} {gx : Nat → Int32} {lt : Option Nat} {ad : Nat} {ln : Int32} {PL : List Nat} {pf : Nat → va_E} {pw : Nat → Int64} {pk : Int32} {lw : Nat → Int64} {lk : Int32} {ik : Nat → Int32} {q : Nat} {w w2 : va_E} (h : RX E a gx lt ad ln PL pf pw pk lw lk ik) (hq : q ∉ PL) : RX E a gx lt ad ln (PL ++ [q]) (va_up (va_up pf q w) q w2) pw pk lw lk ik := by
  have hk : ∀ y, y ∈ PL → va_up (va_up pf q w) q w2 y = pf y := by
    intro y hy
    have : y ≠ q := fun e => hq (by rw [← e]; exact hy)
    rw [va_up_ne _ _ this, va_up_ne _ _ this]
  have hk2 : ∀ y d, isC PL pf y d → isC (PL ++ [q]) (va_up (va_up pf q w) q w2) y d := fun y d hy => ⟨List.mem_append_left _ hy.1, by rw [hk y hy.1]; exact hy.2⟩
  refine ⟨h.1, h.2.1, ?_, RLt_keep h.2.2.2.1 hk2, h.2.2.2.2⟩
  rcases h.2.2.1 with h1 | ⟨n0, N, af, h1, h2, h3, h4, h5, h6⟩
  · exact Or.inl h1
  · refine Or.inr ⟨n0, N, af, List.mem_append_left _ h1, by rw [hk ad h1]; exact h2, h3, h4, h5, fun i d hi => ?_⟩
    obtain ⟨y, y1, y2⟩ := h6 i d hi
    exact ⟨y, y1, hk2 y d y2⟩
theorem s_endC {E : EV} {a : AS} {post : PX} {gx : Nat → Int32} {lt : Option Nat} {mo : Int32} {ad : Nat} {ln : Int32} {PL : List Nat} {pf : Nat → va_E} {pw : Nat → Int64} {pk : Int32} {lw : Nat → Int64} {lk : Int32} {ik : Nat → Int32} {v : Int} (h : RX E a gx lt ad ln PL pf pw pk lw lk ik) (hi : InvC a) (hl : (aQ a).length ≤ 7) (h1 : 0 ≤ v) (h2 : v ≤ 255) (h4 : 1 ≤ a.1 4 ∧ a.1 4 ≤ 4) (h5 : a.1 4 ≤ 2 → 0 ≤ a.1 5 ∧ a.1 5 ≤ 255) (hp : OX E post (aCore v a)) : wp_X2_endCommand E post gx lt mo ad ln PL pf pw pk lw lk ik (iI v) := by
  unfold aCore at hp
  unfold wp_X2_endCommand
  rw [h.1 4, l4, l3, iI_eq (by omega) (by omega) (by omega) (by omega), iI_eq (by omega) (by omega) (by omega) (by omega)]
  refine ⟨fun e4 => ?_, fun e4 => ⟨fun e3 => ?_, fun e3 => ?_⟩⟩
  · rw [if_pos e4] at hp
    exact s_repeat h hi hl h1 h2 hp
  · rw [if_neg e4, if_pos e3] at hp
    intro q hq pf1 e1
    unfold wp_X0_init
    intro pf2 e2
    rw [e1] at e2
    have hx := rx_push (w := .inr (1, [.int 0, .int 0, .int 0, .int 0])) (w2 := cmE (3, v, 0)) h hq
    rw [e2]
    refine s_queueI hx hi (by omega) (Or.inl ⟨rfl, h1, h2, rfl⟩) ⟨List.mem_append_right _ (List.mem_singleton.mpr rfl), va_up_self _ _ _⟩ hp
  · rw [if_neg e4, if_neg e3] at hp
    intro q hq pf1 e1
    have h5 := h5 (by omega)
    have r1 := sg_rng h5.1 h5.2
    have r2 := sg_rng h1 h2
    rw [h.1 5, q_signed h5.1 h5.2, q_signed h1 h2]
    unfold wp_X0_init
    intro pf2 e2
    rw [e1] at e2
    have hx := rx_push (w := .inr (1, [.int 0, .int 0, .int 0, .int 0])) (w2 := cmE (a.1 4, sg (a.1 5), sg v)) h hq
    have ec : cmE (a.1 4, sg (a.1 5), sg v) = .inr (1, [.int (iI (a.1 4)), .int (iI (sg (a.1 5))), .int (iI (sg v)), .int 0]) := by
      unfold cmE cdx cdy cpn
      rw [if_neg e3, if_neg e3, if_neg e3]
      rfl
    rw [e2, ← ec]
    exact s_motion hx hi (by omega) (Or.inr ⟨by show a.1 4 = 1 ∨ a.1 4 = 2; omega, r1.1, r1.2, r2.1, r2.2⟩) ⟨List.mem_append_right _ (List.mem_singleton.mpr rfl), va_up_self _ _ _⟩ hp
