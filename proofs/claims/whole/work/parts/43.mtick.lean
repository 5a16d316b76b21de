/-! the model's ticks -/
theorem m_marksCell {E : EV} {M : Nat → Int} {a : AS} {post : PM} {gm ks os ts iq mk me : Nat → Int32} (h : RM M a gm ks os ts iq mk me) (hin : inP (carX a) (carY a)) (hp : ∀ mk', RM M (aMark a) gm ks os ts iq mk' me → post gm ks os ts iq mk' me) : wp_X3_marksCell E post gm ks os ts iq mk me := by
  obtain ⟨r3, r4, r11, r12, r13, r14, r15, r16, ⟨r17, r18⟩, r19, r20, r22, r23⟩ := h.2.1
  have hc := m_cellmark hin h.2.2.2.2.2.1
  unfold wp_X3_marksCell
  rw [h.1 18, h.1 17, r17, r18, l100]
  exact ⟨hc.1, hp _ ⟨h.1, h.2.1, h.2.2.1, h.2.2.2.1, h.2.2.2.2.1, hc.2, h.2.2.2.2.2.2⟩⟩
def shI (f : Nat → Int32) (k : Nat) : Nat → Int32 := fun i => if i < k then f (i + 1) else f i
theorem shI_0 (f : Nat → Int32) : shI f 0 = f := by
  funext i
  unfold shI
  rw [if_neg (by omega)]
theorem shI_s (f : Nat → Int32) (k : Nat) : upd (shI f k) k (shI f k (k + 1)) = shI f (k + 1) := by
  funext i
  unfold upd shI
  rw [if_neg (show ¬ k + 1 < k by omega)]
  by_cases e : i = k
  · rw [if_pos e, if_pos (by omega), e]
  · rw [if_neg e]
    by_cases e2 : i < k
    · rw [if_pos e2, if_pos (by omega)]
    · rw [if_neg e2, if_neg (by omega)]
theorem m_doneL {E : EV} {post : PM} {gm ks os ts iq mk me : Nat → Int32} {L : Nat} (hL : L ≤ 15) (h4 : gm 4 = iI (L : Int)) (hp : post (upd (upd (upd (upd gm 13 0) 14 0) 15 (gm 17)) 16 (gm 18)) (shI ks L) (shI os L) (shI ts L) iq mk me) : ∀ (m k : Nat), k + m = L → wp_X3_isDone_L12 E post (m + 1) gm (shI ks k) (shI os k) (shI ts k) iq mk me (iI (k : Int))
  | 0, k, hk => by
    show (gm 4 ≤ iI (k : Int) → _) ∧ (¬ _ → _)
    rw [h4, iI_le (by omega) (by omega) (by omega) (by omega)]
    refine ⟨fun _ => ?_, fun e => absurd (show (L : Int) ≤ (k : Int) by omega) e⟩
    rw [show k = L by omega]; exact hp
  | m + 1, k, hk => by
    have IH := m_doneL hL h4 hp (E := E) m (k + 1) (by omega)
    unfold wp_X3_isDone_L12
    have e1 : iI (k : Int) + 1 = iI ((k + 1 : Nat) : Int) := by rw [l1, iI_add]; rfl
    rw [h4, iI_le (by omega) (by omega) (by omega) (by omega), e1, iI_cl (x := ((k + 1 : Nat) : Int)) (by omega) (by omega), iI_cl (x := (k : Int)) (by omega) (by omega), Int.toNat_natCast, Int.toNat_natCast, shI_s, shI_s, shI_s]
    exact ⟨fun e => by omega, fun _ => ⟨(iI_in (by omega) (by omega)).mpr (by omega), (iI_in (by omega) (by omega)).mpr (by omega), IH⟩⟩
theorem m_done {E : EV} {M : Nat → Int} {b : AS} {post : PM} {c : Cm} {r : List Cm} {gm ks os ts iq mk me : Nat → Int32} (h : RM M b gm ks os ts iq mk me) (hq : aQ b = c :: r) (hl : (aQ b).length ≤ 16) (hx : carX b = b.1 11 + cdx c) (hy : carY b = b.1 12 + cdy c) (hp : OM post M (aEnd c b)) : wp_X3_isDone E post gm ks os ts iq mk me := by
  obtain ⟨r3, r4, r11, r12, r13, r14, r15, r16, ⟨r17, r18⟩, r19, r20, r22, r23⟩ := h.2.1
  rw [hq] at hl r4
  have hl2 : (c :: r).length = r.length + 1 := rfl
  rw [hl2] at hl r4
  have hqe : aQ (aEnd c b) = r := by show (aQ b).tail = r; rw [hq]; rfl
  have e11 : (aEnd c b).1 11 = b.1 11 + cdx c := rfl
  have e12 : (aEnd c b).1 12 = b.1 12 + cdy c := rfl
  have e13 : (aEnd c b).1 13 = 0 := rfl
  have hcar : carX (aEnd c b) = b.1 11 + cdx c ∧ carY (aEnd c b) = b.1 12 + cdy c := by
    cases r with
    | nil => rw [carX_nil hqe, carY_nil hqe, e11, e12]; exact ⟨rfl, rfl⟩
    | cons d s => rw [carX_cons hqe, carY_cons hqe, e11, e12, e13]; simp
  have h4 : upd gm 4 (gm 4 - 1) 4 = iI (r.length : Int) := by
    show gm 4 - 1 = _
    rw [h.1, r4, l1, iI_sub]
    apply iI_inj; omega
  refine ⟨r.length + 1, ?_⟩
  have key := m_doneL (E := E) (post := post) (gm := upd gm 4 (gm 4 - 1)) (ks := ks) (os := os) (ts := ts) (iq := iq) (mk := mk) (me := me) (L := r.length) (by omega) h4 ?_ r.length 0 (by omega)
  · rw [shI_0, shI_0, shI_0] at key
    rw [l0]
    exact key
  · refine hp (va_up (va_up (va_up (va_up (va_up M 4 (r.length : Int)) 13 0) 14 0) 15 (M 17)) 16 (M 18)) _ _ _ _ _ _ _ rfl rfl rfl rfl ⟨gS (gS (gS (gS (gS h.1 h4) l0) l0) ?_) ?_, ?_, ?_, ?_, h.2.2.2.2⟩
    · exact h.1 17
    · exact h.1 18
    · refine ⟨r3, ?_, r11, r12, rfl, rfl, ?_, ?_, ⟨?_, ?_⟩, r19, r20, r22, r23⟩
      · rw [hqe]; rfl
      · show M 17 = _; rw [e11, r17, hx]
      · show M 18 = _; rw [e12, r18, hy]
      · rw [hcar.1, ← hx]; exact r17
      · rw [hcar.2, ← hy]; exact r18
    · exact LM_eq h.2.2.1 rfl rfl rfl
    · rw [hqe]
      intro i d hi
      have hi2 : i < r.length := (List.getElem?_eq_some_iff.mp hi).1
      have hR := h.2.2.2.1
      rw [hq] at hR
      have := hR (i + 1) d (by rw [List.getElem?_cons_succ]; exact hi)
      unfold shI
      rw [if_pos hi2, if_pos hi2, if_pos hi2]
      exact this
theorem car_set {a : AS} {k : Nat} {v : Int} (h : k ≠ 11 ∧ k ≠ 12 ∧ k ≠ 13) : carX (aSet k v a) = carX a ∧ carY (aSet k v a) = carY a := by
  have e11 : (aSet k v a).1 11 = a.1 11 := aSet_ne (by omega)
  have e12 : (aSet k v a).1 12 = a.1 12 := aSet_ne (by omega)
  have e13 : (aSet k v a).1 13 = a.1 13 := aSet_ne (by omega)
  cases hq : aQ a with
  | nil =>
    have hq2 : aQ (aSet k v a) = [] := hq
    rw [carX_nil hq2, carY_nil hq2, carX_nil hq, carY_nil hq, e11, e12]
    exact ⟨rfl, rfl⟩
  | cons c r =>
    have hq2 : aQ (aSet k v a) = c :: r := hq
    rw [carX_cons hq2, carY_cons hq2, carX_cons hq, carY_cons hq, e11, e12, e13]
    exact ⟨rfl, rfl⟩
theorem rm_14 {M : Nat → Int} {a : AS} {gm ks os ts iq mk me : Nat → Int32} {v : Int32} {w : Int} (h : RM M a gm ks os ts iq mk me) (hv : v = iI w) : RM (va_up M 14 w) (aSet 14 w a) (upd gm 14 v) ks os ts iq mk me := by
  obtain ⟨r3, r4, r11, r12, r13, r14, r15, r16, ⟨r17, r18⟩, r19, r20, r22, r23⟩ := h.2.1
  have hc := car_set (a := a) (k := 14) (v := w) (by omega)
  exact ⟨gS h.1 hv, ⟨r3, r4, r11, r12, r13, rfl, r15, r16, ⟨by rw [hc.1]; exact r17, by rw [hc.2]; exact r18⟩, r19, r20, r22, r23⟩, LM_eq h.2.2.1 rfl rfl rfl, h.2.2.2⟩
theorem rm_15 {M : Nat → Int} {a : AS} {gm ks os ts iq mk me : Nat → Int32} {v : Int32} {w : Int} (h : RM M a gm ks os ts iq mk me) (hv : v = iI w) : RM (va_up M 19 w) (aSet 15 w a) (upd gm 19 v) ks os ts iq mk me := by
  obtain ⟨r3, r4, r11, r12, r13, r14, r15, r16, ⟨r17, r18⟩, r19, r20, r22, r23⟩ := h.2.1
  have hc := car_set (a := a) (k := 15) (v := w) (by omega)
  exact ⟨gS h.1 hv, ⟨r3, r4, r11, r12, r13, r14, r15, r16, ⟨by rw [hc.1]; exact r17, by rw [hc.2]; exact r18⟩, rfl, r20, r22, r23⟩, LM_eq h.2.2.1 rfl rfl rfl, h.2.2.2⟩
theorem rm_16 {M : Nat → Int} {a : AS} {gm ks os ts iq mk me : Nat → Int32} {v : Int32} {w : Int} (h : RM M a gm ks os ts iq mk me) (hv : v = iI w) : RM (va_up M 20 w) (aSet 16 w a) (upd gm 20 v) ks os ts iq mk me := by
  obtain ⟨r3, r4, r11, r12, r13, r14, r15, r16, ⟨r17, r18⟩, r19, r20, r22, r23⟩ := h.2.1
  have hc := car_set (a := a) (k := 16) (v := w) (by omega)
  exact ⟨gS h.1 hv, ⟨r3, r4, r11, r12, r13, r14, r15, r16, ⟨by rw [hc.1]; exact r17, by rw [hc.2]; exact r18⟩, r19, rfl, r22, r23⟩, LM_eq h.2.2.1 rfl rfl rfl, h.2.2.2⟩
theorem rm_17 {M : Nat → Int} {a : AS} {gm ks os ts iq mk me : Nat → Int32} {v : Int32} {w : Int} (h : RM M a gm ks os ts iq mk me) (hv : v = iI w) : RM (va_up M 22 w) (aSet 17 w a) (upd gm 22 v) ks os ts iq mk me := by
  obtain ⟨r3, r4, r11, r12, r13, r14, r15, r16, ⟨r17, r18⟩, r19, r20, r22, r23⟩ := h.2.1
  have hc := car_set (a := a) (k := 17) (v := w) (by omega)
  exact ⟨gS h.1 hv, ⟨r3, r4, r11, r12, r13, r14, r15, r16, ⟨by rw [hc.1]; exact r17, by rw [hc.2]; exact r18⟩, r19, r20, rfl, r23⟩, LM_eq h.2.2.1 rfl rfl rfl, h.2.2.2⟩
theorem rm_18 {M : Nat → Int} {a : AS} {gm ks os ts iq mk me : Nat → Int32} {v : Int32} {w : Int} (h : RM M a gm ks os ts iq mk me) (hv : v = iI w) : RM (va_up M 23 w) (aSet 18 w a) (upd gm 23 v) ks os ts iq mk me := by
  obtain ⟨r3, r4, r11, r12, r13, r14, r15, r16, ⟨r17, r18⟩, r19, r20, r22, r23⟩ := h.2.1
  have hc := car_set (a := a) (k := 18) (v := w) (by omega)
  exact ⟨gS h.1 hv, ⟨r3, r4, r11, r12, r13, r14, r15, r16, ⟨by rw [hc.1]; exact r17, by rw [hc.2]; exact r18⟩, r19, r20, r22, rfl⟩, LM_eq h.2.2.1 rfl rfl rfl, h.2.2.2⟩
theorem rm_ink {M : Nat → Int} {a : AS} {gm ks os ts iq mk me : Nat → Int32} {k : Nat} {v : Int32} {w : Int} (h : RM M a gm ks os ts iq mk me) (hv : v = iI w) : RM M (aInk k w a) gm ks os ts (upd iq k v) mk me := by
  refine ⟨h.1, h.2.1, h.2.2.1, h.2.2.2.1, fun i hi => ?_, h.2.2.2.2.2⟩
  show upd iq k v i = iI (va_up (aI a) k w i)
  unfold upd va_up
  split
  · exact hv
  · exact h.2.2.2.2.1 i hi
theorem m_lifts {E : EV} {M : Nat → Int} {a : AS} {post : PM} {gm ks os ts iq mk me : Nat → Int32} {p : Int32} (h : RM M a gm ks os ts iq mk me) (hi : Inv a) (h14 : 0 ≤ a.1 14 ∧ a.1 14 ≤ 1) (hpp : (p = 0) ↔ a.1 15 = 0) (hp : OM post M (aTurn a)) : wp_X3_lifts E post gm ks os ts iq mk me p := by
  have r14 := h.2.1.2.2.2.2.2.1
  unfold aTurn at hp
  unfold wp_X3_lifts
  rw [h.1 14, r14, l1, iI_add, show (iI (a.1 14 + 1) = 2 ↔ a.1 14 + 1 = 2) from by rw [l2, iI_eq (by omega) (by omega) (by omega) (by omega)]]
  refine ⟨fun e => ⟨fun e2 => ?_, fun e2 => ?_⟩, fun e => ?_⟩
  · rw [if_neg (by omega), if_pos (hpp.mp e2)] at hp
    refine m_marksCell (rm_15 (w := 1) (rm_14 (w := 0) h l0) rfl) (car_inv (a := a) (inv_C hi)) fun mk' hr => ?_
    exact hp (va_up (va_up M 14 0) 19 1) _ _ _ _ _ _ _ rfl rfl rfl rfl hr
  · rw [if_neg (by omega), if_neg (fun q => e2 (hpp.mpr q))] at hp
    exact hp (va_up (va_up M 14 0) 19 0) _ _ _ _ _ _ _ rfl rfl rfl rfl (rm_15 (w := 0) (rm_14 (w := 0) h l0) l0)
  · rw [if_pos (by omega)] at hp
    exact hp (va_up M 14 (a.1 14 + 1)) _ _ _ _ _ _ _ rfl rfl rfl rfl (rm_14 h rfl)
theorem m_changes {E : EV} {M : Nat → Int} {a : AS} {post : PM} {c : Cm} {r : List Cm} {gm ks os ts iq mk me : Nat → Int32} (h : RM M a gm ks os ts iq mk me) (hi : Inv a) (h14 : 0 ≤ a.1 14 ∧ a.1 14 ≤ 2) (hq : aQ a = c :: r) (h3 : c.1 = 3) (hp : OM post M (aChg c a)) : wp_X3_changes E post gm ks os ts iq mk me := by
  have r14 := h.2.1.2.2.2.2.2.1
  have hR := h.2.2.2.1 0 c (by rw [hq]; rfl)
  have d1 : cdx c = 0 := if_pos h3
  have d2 : cdy c = 0 := if_pos h3
  unfold aChg at hp
  unfold wp_X3_changes
  rw [h.1 14, r14, l1, iI_add, show (iI (a.1 14 + 1) = 3 ↔ a.1 14 + 1 = 3) from by rw [l3, iI_eq (by omega) (by omega) (by omega) (by omega)]]
  refine ⟨fun e => ?_, fun e => ?_⟩
  · rw [if_neg (by omega)] at hp
    have h' := rm_16 (w := c.2.1) (v := os (0 : Int32).toNatClampNeg) (rm_14 (w := a.1 14 + 1) h rfl) hR.2.1
    have hq' : aQ (aSet 16 c.2.1 (aSet 14 (a.1 14 + 1) a)) = c :: r := hq
    refine m_done h' hq' hi.2.2.2.2 ?_ ?_ (om_tr hp rfl rfl rfl rfl)
    · rw [carX_cons hq', d1]; simp
    · rw [carY_cons hq', d2]; simp
  · rw [if_pos (by omega)] at hp
    exact hp (va_up M 14 (a.1 14 + 1)) _ _ _ _ _ _ _ rfl rfl rfl rfl (rm_14 h rfl)
theorem m_goesTo {E : EV} {N : Nat → Int} {post : PM} {c : Cm} {gm ks os ts iq mk me : Nat → Int32} {k : Int} (hg : ∀ j, gm j = iI (N j)) (ho : okm c) (h1 : os 0 = iI c.2.1) (h2 : ts 0 = iI c.2.2) (hk : 0 ≤ k) (hk2 : k ≤ 128) (hp : post (upd (upd gm 17 (iI (N 15 + (cdx c * k).tdiv (cn c)))) 18 (iI (N 16 + (cdy c * k).tdiv (cn c)))) ks os ts iq mk me) : wp_X3_goesTo E post gm ks os ts iq mk me (iI k) := by
  have ed := okm_d (okm_ne3 ho)
  have hr := okc_rng (Or.inr ho)
  have hn := okm_pos ho
  have e1 : os (0 : Int32).toNatClampNeg = iI (cdx c) := by rw [ed.1]; exact h1
  have e2 : ts (0 : Int32).toNatClampNeg = iI (cdy c) := by rw [ed.2]; exact h2
  have m1 := mul_small hr.1 hr.2.1 hk hk2
  have m2 := mul_small hr.2.2.1 hr.2.2.2.1 hk hk2
  have hcn : nst (cdx c) (cdy c) = cn c := rfl
  unfold wp_X3_goesTo
  rw [e1, e2, q_stepsM hr.1 hr.2.1 hr.2.2.1 hr.2.2.2.1, hcn, iI_mul, iI_mul, iI_div (by omega) (by omega) (by omega) (by omega), iI_div (by omega) (by omega) (by omega) (by omega), hg 15, hg 16, iI_add, iI_add]
  have hz : ¬ iI (cn c) = 0 := by rw [l0, iI_eq (by omega) (by omega) (by omega) (by omega)]; omega
  exact ⟨hz, hz, hp⟩
def sDo (a : AS) : Int := (aDo a).1 17 + (aDo a).1 18 - (a.1 17 + a.1 18)
theorem end_sc (c : Cm) (b : AS) {k : Nat} (h : 15 ≤ k) : (aEnd c b).1 k = b.1 k := by
  show (aSet 14 0 (aSet 13 0 (aSet 12 (b.1 12 + cdy c) (aSet 11 (b.1 11 + cdx c) b)))).1 k = _
  rw [aSet_ne (by omega), aSet_ne (by omega), aSet_ne (by omega), aSet_ne (by omega)]
theorem put_sum (c : Cm) (b : AS) : (aPut c b).1 17 + (aPut c b).1 18 = b.1 17 + b.1 18 + 1 := by
  unfold aPut
  split
  · show (aSet 18 (b.1 18 + 1) b).1 17 + (aSet 18 (b.1 18 + 1) b).1 18 = _
    rw [aSet_ne (by omega), aSet_self]; omega
  · rw [aSet_self, aSet_ne (by omega)]; omega
theorem turn_sum (a : AS) : (aTurn a).1 17 + (aTurn a).1 18 = a.1 17 + a.1 18 := by
  unfold aTurn
  split
  · rw [aSet_ne (by omega), aSet_ne (by omega)]
  · split
    · rfl
    · rfl
theorem chg_sum (c : Cm) (a : AS) : (aChg c a).1 17 + (aChg c a).1 18 = a.1 17 + a.1 18 := by
  unfold aChg
  split
  · rw [aSet_ne (by omega), aSet_ne (by omega)]
  · rw [end_sc _ _ (by omega), end_sc _ _ (by omega)]
    rfl
theorem stp_sum (c : Cm) (a : AS) : (aStp c a).1 17 + (aStp c a).1 18 = a.1 17 + a.1 18 + 1 := by
  unfold aStp
  split
  · rw [end_sc _ _ (by omega), end_sc _ _ (by omega), put_sum]
    rfl
  · rw [put_sum]
    rfl
