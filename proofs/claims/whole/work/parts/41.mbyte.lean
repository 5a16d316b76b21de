/-! the model's state: what it stands for -/
def LM (M : Nat → Int) (L : Option Cm) : Prop := match L with
  | none => M 8 = 0
  | some c => M 8 = c.1 ∧ M 9 = c.2.1 ∧ M 10 = c.2.2
def MR (M : Nat → Int) (a : AS) : Prop := M 3 = a.1 7 ∧ M 4 = ((aQ a).length : Int) ∧ M 11 = a.1 9 ∧ M 12 = a.1 10 ∧ M 13 = a.1 13 ∧ M 14 = a.1 14 ∧ M 15 = a.1 11 ∧ M 16 = a.1 12 ∧ (M 17 = carX a ∧ M 18 = carY a) ∧ M 19 = a.1 15 ∧ M 20 = a.1 16 ∧ M 22 = a.1 17 ∧ M 23 = a.1 18
def RK (q : List Cm) (ks os ts : Nat → Int32) : Prop := ∀ (i : Nat) (c : Cm), q[i]? = some c → ks i = iI c.1 ∧ os i = iI c.2.1 ∧ ts i = iI c.2.2
def RM (M : Nat → Int) (a : AS) (gm ks os ts iq mk me : Nat → Int32) : Prop := (∀ k, gm k = iI (M k)) ∧ MR M a ∧ LM M (aL a) ∧ RK (aQ a) ks os ts ∧ (∀ i, i < 3 → iq i = iI (aI a i)) ∧ PRm (aM a) mk ∧ PRm (aB a) me
abbrev PM : Type := (Nat → Int32) → (Nat → Int32) → (Nat → Int32) → (Nat → Int32) → (Nat → Int32) → (Nat → Int32) → (Nat → Int32) → Prop
def OM (post : PM) (M : Nat → Int) (a : AS) : Prop := ∀ M' gm ks os ts iq mk me, M' 0 = M 0 → M' 1 = M 1 → M' 2 = M 2 → M' 26 = M 26 → RM M' a gm ks os ts iq mk me → post gm ks os ts iq mk me
theorem q_goes0 {E : EV} {post : Int32 → PM} {gm ks os ts iq mk me : Nat → Int32} : wp_X3_goes E post gm ks os ts iq mk me 0 = post 1 (upd gm 26 0) ks os ts iq mk me := by
  unfold wp_X3_goes
  simp
theorem q_goes1 {E : EV} {post : Int32 → PM} {gm ks os ts iq mk me : Nat → Int32} : wp_X3_goes E post gm ks os ts iq mk me 1 = post 0 (upd gm 26 1) ks os ts iq mk me := by
  unfold wp_X3_goes
  simp
theorem q_goes2 {E : EV} {post : Int32 → PM} {gm ks os ts iq mk me : Nat → Int32} : wp_X3_goes E post gm ks os ts iq mk me 2 = post 0 (upd gm 26 2) ks os ts iq mk me := by
  unfold wp_X3_goes
  simp
theorem q_isInL {E : EV} {post : Int32 → Prop} {x a b : Int} {u v : Int32} (hu : u = iI a) (hv : v = iI b) (h1 : -2147483648 ≤ x) (h2 : x < 2147483648) (h3 : -2147483648 ≤ a) (h4 : a < 2147483648) (h5 : -2147483648 ≤ b) (h6 : b < 2147483648) : wp_X3_isIn E post (iI x) u v = post (iI (if a ≤ x ∧ x ≤ b then 1 else 0)) := by
  rw [hu, hv]; exact q_isIn h1 h2 h3 h4 h5 h6
theorem m_cellmark {x y : Int} (h : inP x y) {b : Nat → Bool} {w : Nat → Int32} (hb : PRm b w) : vp_in ((iI 100 * iI y + iI x) / 32) 320 ∧ PRm (va_up b (cel x y) true) (upd w ((iI 100 * iI y + iI x) / 32).toNatClampNeg ((w ((iI 100 * iI y + iI x) / 32).toNatClampNeg) ||| (1 <<< (((iI 100 * iI y + iI x) - (iI 100 * iI y + iI x) / 32 * 32) &&& 31)))) := by
  have hc := cel_lt h
  obtain ⟨h1, h2, h3, h4⟩ := id h
  rw [iI_mul, iI_add, hc.2, l32, iI_div (by omega) (by omega) (by omega) (by omega), iI_mul, iI_sub]
  have e1 : (cel x y : Int).tdiv 32 = ((cel x y / 32 : Nat) : Int) := rfl
  have e2 := cel_q (cel x y) 32 (by omega)
  rw [show ((32 : Nat) : Int) = 32 from rfl] at e2
  rw [e2, e1, iI_cl (by omega) (by omega), Int.toNat_natCast]
  exact ⟨(iI_in (by omega) (by omega)).mpr (by omega), PRm_set hb hc.1⟩
theorem m_drawL {E : EV} {post : PM} {c : Cm} {gm ks os ts iq mk : Nat → Int32} {x y : Int} {f : Nat → Bool} (ho : okc c) (hn : 0 < cn c) (h9 : gm 11 = iI x) (h10 : gm 12 = iI y) (hi : inP x y) (hi2 : inP (x + cdx c) (y + cdy c)) (hp : ∀ me', PRm (lineC x y (cdx c) (cdy c) (cn c) ((cn c).toNat + 1) f) me' → post gm ks os ts iq mk me') : ∀ (m k : Nat) (me : Nat → Int32), k + m = (cn c).toNat + 1 → PRm (lineC x y (cdx c) (cdy c) (cn c) k f) me → wp_X3_draws_L9 E post (m + 1) gm ks os ts iq mk me (iI (cdx c)) (iI (cdy c)) (iI (cn c)) (iI (k : Int))
  | 0, k, me, hk, hl => by
    have hr := okc_rng ho
    show (iI (cn c) < iI (k : Int) → _) ∧ (¬ _ → _)
    rw [iI_lt (by omega) (by omega) (by omega) (by omega)]
    refine ⟨fun _ => hp _ ?_, fun e => absurd (show cn c < (k : Int) by omega) e⟩
    rw [show (cn c).toNat + 1 = k by omega]; exact hl
  | m + 1, k, me, hk, hl => by
    have hr := okc_rng ho
    have m1 := mul_small (k := (k : Int)) hr.1 hr.2.1 (by omega) (by omega)
    have m2 := mul_small (k := (k : Int)) hr.2.2.1 hr.2.2.2.1 (by omega) (by omega)
    have hz : ¬ iI (cn c) = 0 := by rw [l0, iI_eq (by omega) (by omega) (by omega) (by omega)]; omega
    have hin := line_in (k := (k : Int)) hn hi hi2 (by omega) (by omega)
    have hcm := m_cellmark hin hl
    unfold wp_X3_draws_L9
    rw [iI_lt (by omega) (by omega) (by omega) (by omega), h9, h10, iI_mul, iI_mul, iI_div (by omega) (by omega) (by omega) (by omega), iI_div (by omega) (by omega) (by omega) (by omega), iI_add]
    have ec : 100 * iI (y + (cdy c * (k : Int)).tdiv (cn c)) + iI x + iI ((cdx c * (k : Int)).tdiv (cn c)) = iI 100 * iI (y + (cdy c * (k : Int)).tdiv (cn c)) + iI (x + (cdx c * (k : Int)).tdiv (cn c)) := by
      rw [l100, iI_mul, iI_add, iI_add, iI_add]
      apply iI_inj; omega
    rw [ec]
    refine ⟨fun e => by omega, fun _ => ⟨hz, hz, hcm.1, ?_⟩⟩
    rw [l1, iI_add, show ((k : Int) + 1) = ((k + 1 : Nat) : Int) by omega, ← l1]
    exact m_drawL ho hn h9 h10 hi hi2 hp m (k + 1) _ (by omega) hcm.2
theorem m_draws {E : EV} {a : AS} {post : PM} {c : Cm} {gm ks os ts iq mk me : Nat → Int32} (ho : okc c) (hn : 0 < cn c) (h9 : gm 11 = iI (a.1 9)) (h10 : gm 12 = iI (a.1 10)) (hi : inP (a.1 9) (a.1 10)) (hi2 : inP (a.1 9 + cdx c) (a.1 10 + cdy c)) (h2 : c.1 = 2) (hb : PRm (aB a) me) (hp : ∀ me', PRm (aPlan c a) me' → post gm ks os ts iq mk me') : wp_X3_draws E post gm ks os ts iq mk me (iI c.2.1) (iI c.2.2) := by
  have hr := okc_rng ho
  have ed := okm_d (show ¬ c.1 = 3 by omega)
  rw [← ed.1, ← ed.2]
  unfold wp_X3_draws
  rw [q_stepsM hr.1 hr.2.1 hr.2.2.1 hr.2.2.2.1]
  refine ⟨(cn c).toNat + 1 + 1, ?_⟩
  rw [l0]
  refine m_drawL (f := aB a) ho hn h9 h10 hi hi2 (fun me' hl => hp me' ?_) ((cn c).toNat + 1) 0 me (by omega) hb
  unfold aPlan
  rw [if_pos h2]
  exact hl
theorem car_add {a : AS} (hp : prog a.1 (aQ a)) (c : Cm) : carX (aAdd c a) = carX a ∧ carY (aAdd c a) = carY a := by
  have e : ∀ k, 11 ≤ k → (aAdd c a).1 k = a.1 k := fun k hk => by
    show va_up (va_up a.1 9 (a.1 9 + cdx c)) 10 (a.1 10 + cdy c) k = _
    rw [va_up_ne _ _ (by omega), va_up_ne _ _ (by omega)]
  cases hq : aQ a with
  | nil =>
    have hq2 : aQ (aAdd c a) = [c] := by show aQ a ++ [c] = _; rw [hq]; rfl
    rw [hq] at hp
    rw [carX_cons hq2, carY_cons hq2, carX_nil hq, carY_nil hq, e 11 (by omega), e 12 (by omega), e 13 (by omega), hp.1]
    simp
  | cons d r =>
    have hq2 : aQ (aAdd c a) = d :: (r ++ [c]) := by show aQ a ++ [c] = _; rw [hq]; rfl
    rw [carX_cons hq2, carY_cons hq2, carX_cons hq, carY_cons hq, e 11 (by omega), e 12 (by omega), e 13 (by omega)]
    exact ⟨rfl, rfl⟩
theorem RK_add {q : List Cm} {ks os ts : Nat → Int32} (h : RK q ks os ts) (c : Cm) : RK (q ++ [c]) (upd ks q.length (iI c.1)) (upd os q.length (iI c.2.1)) (upd ts q.length (iI c.2.2)) := by
  intro i d hi
  by_cases e : i < q.length
  · rw [List.getElem?_append_left e] at hi
    have : i ≠ q.length := by omega
    unfold upd
    rw [if_neg this, if_neg this, if_neg this]
    exact h i d hi
  · rw [List.getElem?_append_right (by omega)] at hi
    by_cases e2 : i = q.length
    · rw [e2, Nat.sub_self] at hi
      rw [← Option.some.inj hi, e2]
      unfold upd
      rw [if_pos rfl, if_pos rfl, if_pos rfl]
      exact ⟨rfl, rfl, rfl⟩
    · rw [show i - q.length = (i - q.length - 1) + 1 by omega] at hi
      exact nomatch hi
theorem LM_eq {M M' : Nat → Int} {L : Option Cm} (h : LM M L) (h8 : M' 8 = M 8) (h9 : M' 9 = M 9) (h10 : M' 10 = M 10) : LM M' L := by
  unfold LM at h ⊢
  cases L with
  | none => rw [h8]; exact h
  | some c => rw [h8, h9, h10]; exact h
theorem m_queue {E : EV} {M : Nat → Int} {a : AS} {post : Int32 → PM} {c : Cm} {gm ks os ts iq mk me : Nat → Int32} (h : RM M a gm ks os ts iq mk me) (hi : InvC a) (hl : (aQ a).length ≤ 15) (ho : okr c) (hp : rightC a.1 c = true → OM (post 1) M (aAdd c a)) (hp0 : ¬ rightC a.1 c = true → OM (post 0) M (aErr a)) : wp_X3_queues E post gm ks os ts iq mk me (iI c.1) (iI c.2.1) (iI c.2.2) := by
  have hr := okr_rng ho
  have hin := (chain_in hi.1.2.2).2
  have hMR := h.2.1
  obtain ⟨r3, r4, r11, r12, r13, r14, r15, r16, ⟨r17, r18⟩, r19, r20, r22, r23⟩ := id hMR
  have err : ¬ rightC a.1 c = true → post 0 (upd gm 3 (gm 3 + 1)) ks os ts iq mk me := by
    intro hR
    refine hp0 hR (va_up M 3 (M 3 + 1)) _ _ _ _ _ _ _ rfl rfl rfl rfl ⟨gS h.1 ?_, ?_, ?_, h.2.2.2⟩
    · rw [h.1, l1, iI_add]
    · exact ⟨by show M 3 + 1 = a.1 7 + 1; rw [r3], r4, r11, r12, r13, r14, r15, r16, ⟨r17, r18⟩, r19, r20, r22, r23⟩
    · exact LM_eq h.2.2.1 rfl rfl rfl
  have fin : rightC a.1 c = true → ∀ (me' : Nat → Int32) (u v : Int32), PRm (aPlan c a) me' → u = iI (cdx c) → v = iI (cdy c) → post 1 (upd (upd (upd gm 4 (gm 4 + 1)) 11 (gm 11 + u)) 12 (gm 12 + v)) (upd ks (gm 4).toNatClampNeg (iI c.1)) (upd os (gm 4).toNatClampNeg (iI c.2.1)) (upd ts (gm 4).toNatClampNeg (iI c.2.2)) iq mk me' := by
    intro hR me' u v hme hu hv
    have hg4 : gm 4 = iI ((aQ a).length : Int) := by rw [h.1, r4]
    rw [hg4, iI_cl (by omega) (by omega), Int.toNat_natCast]
    have hcar := car_add hi.2.1.1 c
    refine hp hR (va_up (va_up (va_up M 4 (M 4 + 1)) 11 (M 11 + cdx c)) 12 (M 12 + cdy c)) _ _ _ _ _ _ _ rfl rfl rfl rfl ⟨gS (gS (gS h.1 ?_) ?_) ?_, ?_, ?_, RK_add h.2.2.2.1 c, h.2.2.2.2.1, h.2.2.2.2.2.1, hme⟩
    · rw [l1, iI_add, r4]
    · rw [h.1, hu, iI_add]
    · rw [h.1, hv, iI_add]
    · refine ⟨r3, ?_, ?_, ?_, r13, r14, r15, r16, ⟨?_, ?_⟩, r19, r20, r22, r23⟩
      · show M 4 + 1 = ((aQ a ++ [c]).length : Int)
        rw [List.length_append, r4]; rfl
      · show M 11 + cdx c = a.1 9 + cdx c; rw [r11]
      · show M 12 + cdy c = a.1 10 + cdy c; rw [r12]
      · rw [hcar.1]; exact r17
      · rw [hcar.2]; exact r18
    · exact LM_eq h.2.2.1 rfl rfl rfl
  have hin4 : vp_in (gm 4) 32 := by
    rw [h.1, r4, iI_in (by omega) (by omega)]; omega
  unfold wp_X3_queues
  rw [l3, iI_eq (by omega) (by omega) (by omega) (by omega)]
  have hplan0 : ¬ c.1 = 2 → PRm (aPlan c a) me := fun e => by unfold aPlan; rw [if_neg e]; exact h.2.2.2.2.2.2
  refine ⟨fun e3 => ?_, fun e3 => ?_⟩
  · have ho3 : 0 ≤ c.2.1 ∧ c.2.1 ≤ 255 ∧ c.2.2 = 0 := by
      rcases ho with ho | ho
      · exact ho.2
      · have := ho.1; omega
    rw [q_isInL (a := 0) (b := 2) l0 l2 (by omega) (by omega) (by omega) (by omega) (by omega) (by omega)]
    have hRi : rightC a.1 c = decide (0 ≤ c.2.1 ∧ c.2.1 ≤ 2) := by unfold rightC; rw [if_pos e3]
    by_cases hz : 0 ≤ c.2.1 ∧ c.2.1 ≤ 2
    · have hR : rightC a.1 c = true := by rw [hRi, decide_eq_true_eq]; exact hz
      rw [if_pos hz]
      refine ⟨fun e => absurd e (by decide), fun _ => ⟨hin4, fun e => ?_, fun e => ?_⟩⟩
      · rw [e3] at e; exact absurd e (by decide)
      · exact fin hR me 0 0 (hplan0 (by omega)) (by rw [l0, show cdx c = 0 from if_pos e3]) (by rw [l0, show cdy c = 0 from if_pos e3])
    · have hR : ¬ rightC a.1 c = true := by rw [hRi, decide_eq_true_eq]; exact hz
      rw [if_neg hz]
      exact ⟨fun _ => err hR, fun e => absurd rfl e⟩
  · have ex := (okm_d e3).1
    have ey := (okm_d e3).2
    rw [ex, ey] at hr
    obtain ⟨i1, i2, i3, i4⟩ := id hin
    have hRi : rightC a.1 c = decide (¬ (c.2.1 = 0 ∧ c.2.2 = 0) ∧ 0 ≤ a.1 9 + c.2.1 ∧ a.1 9 + c.2.1 ≤ 99 ∧ 0 ≤ a.1 10 + c.2.2 ∧ a.1 10 + c.2.2 ≤ 99) := by unfold rightC; rw [if_neg e3]
    have main : ¬ (c.2.1 = 0 ∧ c.2.2 = 0) → wp_X3_isCell E (fun r_132 : Int32 => ((r_132 = 0 → post 0 (upd gm 3 ((gm 3) + 1)) ks os ts iq mk me) ∧ (¬ (r_132 = 0) → (vp_in (gm 4) 32 ∧ ((iI c.1 = 2 → (wp_X3_draws E (fun (gm_137 : Nat → Int32) (ks_138 : Nat → Int32) (os_139 : Nat → Int32) (ts_140 : Nat → Int32) (iq_141 : Nat → Int32) (mk_142 : Nat → Int32) (me_143 : Nat → Int32) => post 1 (upd (upd gm_137 11 ((gm_137 11) + iI c.2.1)) 12 ((gm_137 12) + iI c.2.2)) ks_138 os_139 ts_140 iq_141 mk_142 me_143) (upd gm 4 ((gm 4) + 1)) (upd ks (gm 4).toNatClampNeg (iI c.1)) (upd os (gm 4).toNatClampNeg (iI c.2.1)) (upd ts (gm 4).toNatClampNeg (iI c.2.2)) iq mk me (iI c.2.1) (iI c.2.2))) ∧ (¬ (iI c.1 = 2) → post 1 (upd (upd (upd gm 4 ((gm 4) + 1)) 11 ((gm 11) + iI c.2.1)) 12 ((gm 12) + iI c.2.2)) (upd ks (gm 4).toNatClampNeg (iI c.1)) (upd os (gm 4).toNatClampNeg (iI c.2.1)) (upd ts (gm 4).toNatClampNeg (iI c.2.2)) iq mk me)))))) ((gm 11) + iI c.2.1) ((gm 12) + iI c.2.2) := by
      intro hnz
      rw [h.1 11, h.1 12, r11, r12, iI_add, iI_add, q_isCell (by omega) (by omega) (by omega) (by omega)]
      by_cases hz : 0 ≤ a.1 9 + c.2.1 ∧ a.1 9 + c.2.1 ≤ 99 ∧ 0 ≤ a.1 10 + c.2.2 ∧ a.1 10 + c.2.2 ≤ 99
      · have hR : rightC a.1 c = true := by rw [hRi, decide_eq_true_eq]; exact ⟨hnz, hz⟩
        have hoc := okr_c ho hR
        have hin2 := right_in hi.1 hoc hR
        rw [if_pos hz]
        refine ⟨fun e => absurd e (by decide), fun _ => ⟨hin4, fun e => ?_, fun e => ?_⟩⟩
        · have e2 : c.1 = 2 := by rw [l2, iI_eq (by omega) (by omega) (by omega) (by omega)] at e; exact e
          have hn : 0 < cn c := by rcases okc_pos hoc with q | q <;> omega
          refine m_draws (a := a) hoc hn ?_ ?_ hin hin2 e2 h.2.2.2.2.2.2 fun me' hme => ?_
          · show gm 11 = _; rw [h.1, r11]
          · show gm 12 = _; rw [h.1, r12]
          · exact fin hR me' (iI c.2.1) (iI c.2.2) hme (by rw [ex]) (by rw [ey])
        · have e2 : ¬ c.1 = 2 := fun q => e (by rw [q]; rfl)
          have := fin hR me (iI c.2.1) (iI c.2.2) (hplan0 e2) (by rw [ex]) (by rw [ey])
          rw [h.1 11, h.1 12, r11, r12, iI_add, iI_add] at this
          exact this
      · have hR : ¬ rightC a.1 c = true := by rw [hRi, decide_eq_true_eq]; exact fun e => hz e.2
        rw [if_neg hz]
        exact ⟨fun _ => err hR, fun e => absurd rfl e⟩
    have z1 : (iI c.2.1 = 0) ↔ c.2.1 = 0 := by rw [l0, iI_eq (by omega) (by omega) (by omega) (by omega)]
    have z2 : (iI c.2.2 = 0) ↔ c.2.2 = 0 := by rw [l0, iI_eq (by omega) (by omega) (by omega) (by omega)]
    refine ⟨fun q1 => ⟨fun q2 => err ?_, fun q2 => main ?_⟩, fun q1 => main ?_⟩
    · rw [hRi, decide_eq_true_eq]
      exact fun e => e.1 ⟨z1.mp q1, z2.mp q2⟩
    · exact fun e => q2 (z2.mpr e.2)
    · exact fun e => q1 (z1.mpr e.1)
