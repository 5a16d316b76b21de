/-! the model's bytes -/
theorem om_tr {post : PM} {M M' : Nat → Int} {a : AS} (h : OM post M a) (h0 : M' 0 = M 0) (h1 : M' 1 = M 1) (h2 : M' 2 = M 2) (h26 : M' 26 = M 26) : OM post M' a :=
  fun N gm ks os ts iq mk me e0 e1 e2 e26 hr => h N gm ks os ts iq mk me (e0.trans h0) (e1.trans h1) (e2.trans h2) (e26.trans h26) hr
theorem m_queueI {E : EV} {M : Nat → Int} {a : AS} {post : PM} {c : Cm} {gm ks os ts iq mk me : Nat → Int32} (h : RM M a gm ks os ts iq mk me) (hi : InvC a) (hl : (aQ a).length ≤ 15) (ho : okr c) (hp : OM post M (aQue c a)) : wp_X3_queues E (fun _ => post) gm ks os ts iq mk me (iI c.1) (iI c.2.1) (iI c.2.2) := by
  unfold aQue at hp
  refine m_queue h hi hl ho (fun hR => ?_) (fun hR => ?_)
  · rw [if_pos hR] at hp; exact hp
  · rw [if_neg hR] at hp; exact hp
theorem m_repL {E : EV} {post : PM} {c : Cm} (ho : okm c) {T : Nat} (hT : T ≤ 9) : ∀ (m j : Nat) {M : Nat → Int} {a : AS} {gm ks os ts iq mk me : Nat → Int32}, RM M a gm ks os ts iq mk me → InvC a → j + m = T → (aQ a).length + m ≤ 16 → aL a = some c → OM post M (aRep c m a) → wp_X3_repeats_L30 E post (m + 1) gm ks os ts iq mk me (iI (T : Int)) (iI (j : Int))
  | 0, j, M, a, gm, ks, os, ts, iq, mk9, me, h, hi, hj, hl, hL, hp => by
    show (iI (T : Int) ≤ iI (j : Int) → _) ∧ (¬ _ → _)
    rw [iI_le (by omega) (by omega) (by omega) (by omega)]
    exact ⟨fun _ => hp _ _ _ _ _ _ _ _ rfl rfl rfl rfl h, fun e => absurd (show (T : Int) ≤ (j : Int) by omega) e⟩
  | m + 1, j, M, a, gm, ks, os, ts, iq, mk9, me, h, hi, hj, hl, hL, hp => by
    have hlm := h.2.2.1
    rw [hL] at hlm
    obtain ⟨l8', l9', l10'⟩ := hlm
    show (iI (T : Int) ≤ iI (j : Int) → _) ∧ (¬ _ → wp_X3_queues E (fun (r_173 : Int32) (gm_174 : Nat → Int32) (ks_175 : Nat → Int32) (os_176 : Nat → Int32) (ts_177 : Nat → Int32) (iq_178 : Nat → Int32) (mk_179 : Nat → Int32) (me_180 : Nat → Int32) => (wp_X3_repeats_L30 E post (m + 1) gm_174 ks_175 os_176 ts_177 iq_178 mk_179 me_180 (iI (T : Int)) (iI (j : Int) + 1))) gm ks os ts iq mk9 me (gm 8) (gm 9) (gm 10))
    rw [iI_le (by omega) (by omega) (by omega) (by omega), h.1 8, h.1 9, h.1 10, l8', l9', l10']
    refine ⟨fun e => by omega, fun _ => ?_⟩
    refine m_queueI (post := fun (gm_174 : Nat → Int32) (ks_175 : Nat → Int32) (os_176 : Nat → Int32) (ts_177 : Nat → Int32) (iq_178 : Nat → Int32) (mk_179 : Nat → Int32) (me_180 : Nat → Int32) => (wp_X3_repeats_L30 E post (m + 1) gm_174 ks_175 os_176 ts_177 iq_178 mk_179 me_180 (iI (T : Int)) (iI (j : Int) + 1))) h hi (by omega) (okr_m ho) ?_
    intro M' g1 g2 g3 g4 g5 g6 g7 e0 e1 e2 e26 hx
    have hlen := len_que a c
    rw [l1, iI_add, show ((j : Int) + 1) = ((j + 1 : Nat) : Int) by omega]
    exact m_repL ho hT m (j + 1) hx (invC_que hi (Or.inr ho)) (by omega) (by omega) ((lat_que a c).trans hL) (om_tr (show OM post M (aRep c m (aQue c a)) from hp) e0 e1 e2 e26)
theorem rm_err {M : Nat → Int} {a : AS} {gm ks os ts iq mk me : Nat → Int32} (h : RM M a gm ks os ts iq mk me) : RM (va_up M 3 (M 3 + 1)) (aErr a) (upd gm 3 (gm 3 + 1)) ks os ts iq mk me := by
  obtain ⟨r3, r4, r11, r12, r13, r14, r15, r16, ⟨r17, r18⟩, r19, r20, r22, r23⟩ := h.2.1
  refine ⟨gS h.1 ?_, ?_, ?_, h.2.2.2⟩
  · rw [h.1, l1, iI_add]
  · exact ⟨by show M 3 + 1 = a.1 7 + 1; rw [r3], r4, r11, r12, r13, r14, r15, r16, ⟨r17, r18⟩, r19, r20, r22, r23⟩
  · exact LM_eq h.2.2.1 rfl rfl rfl
theorem m_repeat {E : EV} {M : Nat → Int} {a : AS} {post : PM} {gm ks os ts iq mk me : Nat → Int32} {v : Int} (h : RM M a gm ks os ts iq mk me) (hi : InvC a) (hl : (aQ a).length ≤ 7) (h1 : 0 ≤ v) (h2 : v ≤ 255) (hp : OM post M (aRpt v a)) : wp_X3_repeats E post gm ks os ts iq mk me (iI v) := by
  have he : OM post M (aErr a) → post (upd gm 3 (gm 3 + 1)) ks os ts iq mk me := fun ho => ho (va_up M 3 (M 3 + 1)) _ _ _ _ _ _ _ rfl rfl rfl rfl (rm_err h)
  unfold aRpt at hp
  unfold wp_X3_repeats
  rw [q_isInL (a := 1) (b := 9) l1 l9 (by omega) (by omega) (by omega) (by omega) (by omega) (by omega)]
  by_cases hv : 1 ≤ v ∧ v ≤ 9
  · rw [if_pos hv] at hp ⊢
    refine ⟨fun e => absurd e (by decide), fun _ => ?_⟩
    have hlm := h.2.2.1
    rw [h.1 8]
    cases hlat : aL a with
    | none =>
      rw [hlat] at hp hlm
      refine ⟨fun _ => he hp, fun n => absurd (show iI (M 8) = 0 from ?_) n⟩
      rw [show M 8 = 0 from hlm]; rfl
    | some c =>
      rw [hlat] at hp hlm
      have ho := hi.1.2.1 c hlat
      have hk := ho.1
      refine ⟨fun n => ?_, fun _ => ⟨v.toNat + 1, ?_⟩⟩
      · rw [hlm.1, l0, iI_eq (by omega) (by omega) (by omega) (by omega)] at n; omega
      · have := m_repL (E := E) (post := post) ho (T := v.toNat) (by omega) v.toNat 0 h hi (by omega) (by omega) hlat hp
        rw [show ((v.toNat : Nat) : Int) = v by omega] at this
        exact this
  · rw [if_neg hv] at hp ⊢
    exact ⟨fun _ => he hp, fun e => absurd rfl e⟩
def OZ (post : PM) (t : Int) (a : AS) : Prop := ∀ M' gm ks os ts iq mk me, M' 0 = 0 → M' 26 = t → RM M' a gm ks os ts iq mk me → post gm ks os ts iq mk me
theorem rm_free {M : Nat → Int} {a : AS} {gm ks os ts iq mk me : Nat → Int32} {s : Nat} {v : Int32} {w : Int} (h : RM M a gm ks os ts iq mk me) (hs : s < 3 ∨ s = 26) (hv : v = iI w) : RM (va_up M s w) a (upd gm s v) ks os ts iq mk me := by
  have e : ∀ k, 3 ≤ k → k < 26 → va_up M s w k = M k := fun k h1 h2 => va_up_ne _ _ (by omega)
  refine ⟨gS h.1 hv, ?_, LM_eq h.2.2.1 (e 8 (by omega) (by omega)) (e 9 (by omega) (by omega)) (e 10 (by omega) (by omega)), h.2.2.2⟩
  unfold MR
  rw [e 3 (by omega) (by omega), e 4 (by omega) (by omega), e 11 (by omega) (by omega), e 12 (by omega) (by omega), e 13 (by omega) (by omega), e 14 (by omega) (by omega), e 15 (by omega) (by omega), e 16 (by omega) (by omega), e 17 (by omega) (by omega), e 18 (by omega) (by omega), e 19 (by omega) (by omega), e 20 (by omega) (by omega), e 22 (by omega) (by omega), e 23 (by omega) (by omega)]
  exact h.2.1
theorem m_whole {E : EV} {M : Nat → Int} {a : AS} {post : PM} {gm ks os ts iq mk me : Nat → Int32} {v : Int} (h : RM M a gm ks os ts iq mk me) (hi : InvC a) (hl : (aQ a).length ≤ 7) (h1 : 0 ≤ v) (h2 : v ≤ 255) (h4 : 1 ≤ a.1 4 ∧ a.1 4 ≤ 4) (h5 : a.1 4 ≤ 2 → 0 ≤ a.1 5 ∧ a.1 5 ≤ 255) (hk : M 1 = a.1 4) (hf : a.1 4 ≤ 2 → M 2 = a.1 5) (hp : OZ post (M 26) (aCore v a)) : wp_X3_isWhole E post gm ks os ts iq mk me (iI v) := by
  have hz : ∀ b, aCore v a = b → OM (fun gm ks os ts iq mk me => post (upd gm 0 0) ks os ts iq mk me) M b := by
    intro b eb M' g1 g2 g3 g4 g5 g6 g7 e0 e1 e2 e26 hr
    rw [eb] at hp
    exact hp (va_up M' 0 0) _ _ _ _ _ _ _ rfl e26 (rm_free hr (by omega) l0)
  unfold wp_X3_isWhole
  rw [h.1 1, hk, l4, l3, iI_eq (by omega) (by omega) (by omega) (by omega), iI_eq (by omega) (by omega) (by omega) (by omega)]
  refine ⟨fun e4 => ?_, fun e4 => ⟨fun e3 => ?_, fun e3 => ?_⟩⟩
  · exact m_repeat h hi hl h1 h2 (hz _ (by unfold aCore; rw [if_pos e4]))
  · exact m_queueI (c := (3, v, 0)) h hi (by omega) (Or.inl ⟨rfl, h1, h2, rfl⟩) (hz _ (by unfold aCore; rw [if_neg e4, if_pos e3]))
  · have h5 := h5 (by omega)
    have hf := hf (by omega)
    have r1 := sg_rng h5.1 h5.2
    have r2 := sg_rng h1 h2
    rw [h.1 2, hf, q_signedM h5.1 h5.2, q_signedM h1 h2]
    have eb : aCore v a = aMot (a.1 4, sg (a.1 5), sg v) a := by unfold aCore; rw [if_neg e4, if_neg e3]
    unfold aMot at eb
    refine m_queue (c := (a.1 4, sg (a.1 5), sg v)) h hi (by omega) (Or.inr ⟨by show a.1 4 = 1 ∨ a.1 4 = 2; omega, r1.1, r1.2, r2.1, r2.2⟩) (fun hR => ?_) (fun hR => ?_)
    · rw [if_pos hR] at eb
      rw [eb] at hp
      intro M' g1 g2 g3 g4 g5 g6 g7 e0 e1 e2 e26 hr
      refine ⟨fun e => absurd e (by decide), fun _ => ?_⟩
      rw [hr.1 2, e2, hf, q_signedM h5.1 h5.2, q_signedM h1 h2]
      refine hp (va_up (va_up (va_up (va_up M' 0 0) 8 (a.1 4)) 9 (sg (a.1 5))) 10 (sg v)) _ _ _ _ _ _ _ rfl e26 ⟨gS (gS (gS (gS hr.1 l0) ?_) rfl) rfl, hr.2.1, ⟨rfl, rfl, rfl⟩, hr.2.2.2⟩
      rw [hr.1 1, e1, hk]
    · rw [if_neg hR] at eb
      intro M' g1 g2 g3 g4 g5 g6 g7 e0 e1 e2 e26 hr
      exact ⟨fun _ => hz _ eb M' g1 g2 g3 g4 g5 g6 g7 e0 e1 e2 e26 hr, fun e => absurd rfl e⟩
def PB (M : Nat → Int) (a : AS) : Prop := M 0 = a.1 6 ∧ (a.1 6 ≠ 0 → M 1 = a.1 4) ∧ (a.1 6 = 2 → M 2 = a.1 5)
def OT (post : PM) (t : Int) (a : AS) : Prop := ∀ M gm ks os ts iq mk me, RM M a gm ks os ts iq mk me → PB M a → M 26 = t → post gm ks os ts iq mk me
theorem aSet45 {a : AS} {k : Nat} {v : Int} (M : Nat → Int) {gm ks os ts iq mk me : Nat → Int32} (h : RM M a gm ks os ts iq mk me) (hk : k < 7) : RM M (aSet k v a) gm ks os ts iq mk me := by
  have e : ∀ j, 7 ≤ j → (aSet k v a).1 j = a.1 j := fun j hj => aSet_ne (by omega)
  refine ⟨h.1, ?_, h.2.2⟩
  have hc : carX (aSet k v a) = carX a ∧ carY (aSet k v a) = carY a := by
    cases hq : aQ a with
    | nil =>
      have hq2 : aQ (aSet k v a) = [] := hq
      rw [carX_nil hq2, carY_nil hq2, carX_nil hq, carY_nil hq, e 11 (by omega), e 12 (by omega)]
      exact ⟨rfl, rfl⟩
    | cons c r =>
      have hq2 : aQ (aSet k v a) = c :: r := hq
      rw [carX_cons hq2, carY_cons hq2, carX_cons hq, carY_cons hq, e 11 (by omega), e 12 (by omega), e 13 (by omega)]
      exact ⟨rfl, rfl⟩
  unfold MR
  rw [hc.1, hc.2, e 7 (by omega), e 9 (by omega), e 10 (by omega), e 13 (by omega), e 14 (by omega), e 11 (by omega), e 12 (by omega), e 15 (by omega), e 16 (by omega), e 17 (by omega), e 18 (by omega)]
  exact h.2.1
theorem m_feed {E : EV} {M : Nat → Int} {a : AS} {post : Int32 → PM} {gm ks os ts iq mk me : Nat → Int32} {v : Int} (h : RM M a gm ks os ts iq mk me) (hpb : PB M a) (hi : Inv a) (h1 : -2147483648 ≤ v) (h2 : v < 2147483648) (hp : 0 ≤ v ∧ v ≤ 255 → OT (post (if 8 ≤ (aQ a).length then 0 else 1)) 0 (aFeed v a)) (hpX : ¬ (0 ≤ v ∧ v ≤ 255) → OT (post 0) 1 a) : wp_X3_feed E post gm ks os ts iq mk me (iI v) := by
  have hl := hi.2.2.2.2
  obtain ⟨hb1, hb2, hb3⟩ := hi.2.1
  unfold wp_X3_feed
  rw [q_isInL (a := 0) (b := 255) l0 l255 h1 h2 (by omega) (by omega) (by omega) (by omega)]
  by_cases hv : 0 ≤ v ∧ v ≤ 255
  · rw [if_pos hv]
    have hp := hp hv
    refine ⟨fun e => absurd e (by decide), fun _ => ?_⟩
    rw [q_goes0]
    refine ⟨fun e => absurd e (by decide), fun _ => ?_⟩
    have h' : RM (va_up M 26 0) a (upd gm 26 0) ks os ts iq mk me := rm_free h (by omega) l0
    have hpb' : PB (va_up M 26 0) a := hpb
    have g4 : upd gm 26 0 4 = iI ((aQ a).length : Int) := by rw [h'.1 4, h'.2.1.2.1]
    have g0 : upd gm 26 0 0 = iI (a.1 6) := by rw [h'.1 0, hpb'.1]
    rw [g4, g0, l8, iI_lt (by omega) (by omega) (by omega) (by omega), q_isInL (a := 1) (b := 4) l1 l4 h1 h2 (by omega) (by omega) (by omega) (by omega)]
    unfold aFeed at hp
    refine ⟨fun e8 => ?_, fun e8 => ?_⟩
    · rw [if_neg (by omega), if_neg (by omega)] at hp
      unfold aTake at hp
      have hwh : ¬ a.1 6 = 0 → ¬ (a.1 6 = 1 ∧ a.1 4 ≤ 2) → wp_X3_isWhole E (post 1) (upd gm 26 0) ks os ts iq mk me (iI v) := by
        intro n0 n1
        rw [if_neg n0, if_neg n1] at hp
        have hb2 := hb2 n0
        have hk : va_up M 26 0 1 = a.1 4 := hpb'.2.1 n0
        refine m_whole (a := aSet 6 0 a) (aSet45 _ h' (by omega)) (invC_set (inv_C hi) (by omega)) (by show (aQ a).length ≤ 7; omega) hv.1 hv.2 hb2 (fun q => (hb3 (by have : a.1 4 ≤ 2 := q; omega)).2) hk (fun q => hpb'.2.2 (by have : a.1 4 ≤ 2 := q; omega)) ?_
        intro M' g1 g2 g3 g4 g5 g6 g7 e0 e26 hr
        have hc6 : (aCore v (aSet 6 0 a)).1 6 = 0 := by
          have := (core_ok (a := aSet 6 0 a) (invC_set (inv_C hi) (by omega)) hv.1 hv.2 hb2 (fun q => (hb3 (by have : a.1 4 ≤ 2 := q; omega)).2) (by show (aQ a).length ≤ 7; omega)).2.2 6 (by omega)
          rw [this]; exact aSet_self
        refine hp M' _ _ _ _ _ _ _ hr ⟨by rw [e0, hc6], fun n => absurd hc6 n, fun n => by rw [hc6] at n; omega⟩ e26
      rw [show (iI (a.1 6) = 0 ↔ a.1 6 = 0) from by rw [l0, iI_eq (by omega) (by omega) (by omega) (by omega)], show (iI (a.1 6) = 1 ↔ a.1 6 = 1) from by rw [l1, iI_eq (by omega) (by omega) (by omega) (by omega)]]
      refine ⟨fun e0 => ?_, fun e0 => ⟨fun e1 => ?_, fun e1 => hwh e0 (by omega)⟩⟩
      · rw [if_pos e0] at hp
        unfold aBeg at hp
        by_cases hr : 1 ≤ v ∧ v ≤ 4
        · rw [if_pos hr] at hp ⊢
          refine ⟨fun e => absurd e (by decide), fun _ => ?_⟩
          have hx := rm_free (s := 1) (v := iI v) (w := v) (rm_free (s := 0) (v := 1) (w := 1) h' (by omega) l1) (by omega) rfl
          have hx2 := aSet45 (k := 6) (v := 1) _ (aSet45 (k := 4) (v := v) _ hx (by omega)) (by omega)
          have hg : upd (upd (upd (upd gm 26 0) 0 1) 1 (iI v)) 3 (upd gm 26 0 3 + 0) = upd (upd (upd gm 26 0) 0 1) 1 (iI v) := by
            funext k
            by_cases e3 : k = 3
            · rw [e3]
              show gm 3 + 0 = gm 3
              rw [h.1, l0, iI_add, Int.add_zero]
            · show (if k = 3 then _ else _) = _
              rw [if_neg e3]
          rw [hg]
          refine hp _ _ _ _ _ _ _ _ hx2 ⟨rfl, fun _ => rfl, fun n => ?_⟩ rfl
          have : (1 : Int) = 2 := n
          omega
        · rw [if_neg hr] at hp ⊢
          refine ⟨fun _ => ?_, fun e => absurd rfl e⟩
          have hx := rm_free (s := 1) (v := iI v) (w := v) (rm_free (s := 0) (v := 0) (w := 0) h' (by omega) l0) (by omega) rfl
          rw [show (iI v = 0 ↔ v = 0) from by rw [l0, iI_eq (by omega) (by omega) (by omega) (by omega)]]
          refine ⟨fun z => ?_, fun z => ?_⟩
          · rw [if_pos z] at hp
            have hg : upd (upd (upd (upd gm 26 0) 0 0) 1 (iI v)) 3 (upd gm 26 0 3 + 0) = upd (upd (upd gm 26 0) 0 0) 1 (iI v) := by
              funext k
              by_cases e3 : k = 3
              · rw [e3]
                show gm 3 + 0 = gm 3
                rw [h.1, l0, iI_add, Int.add_zero]
              · show (if k = 3 then _ else _) = _
                rw [if_neg e3]
            rw [hg]
            exact hp _ _ _ _ _ _ _ _ hx ⟨e0.symm, fun n => absurd e0 n, fun n => by omega⟩ rfl
          · rw [if_neg z] at hp
            have hx3 := rm_err hx
            refine hp _ _ _ _ _ _ _ _ hx3 ⟨?_, fun n => absurd ?_ n, fun n => ?_⟩ rfl
            · show (0 : Int) = a.1 6; exact e0.symm
            · show a.1 6 = 0; exact e0
            · have : a.1 6 = 2 := n
              omega
      · have hb2 := hb2 e0
        have hk : va_up M 26 0 1 = a.1 4 := hpb'.2.1 e0
        rw [h'.1 1, hk, l2, iI_lt (by omega) (by omega) (by omega) (by omega)]
        refine ⟨fun e2 => hwh e0 (by omega), fun e2 => ?_⟩
        rw [if_neg e0, if_pos (by omega)] at hp
        have hx := rm_free (s := 2) (v := iI v) (w := v) (rm_free (s := 0) (v := iI 2) (w := 2) h' (by omega) rfl) (by omega) rfl
        have hx2 := aSet45 (k := 6) (v := 2) _ (aSet45 (k := 5) (v := v) _ hx (by omega)) (by omega)
        exact hp _ _ _ _ _ _ _ _ hx2 ⟨rfl, fun _ => hk, fun _ => rfl⟩ rfl
    · rw [if_pos (by omega), if_pos (by omega)] at hp
      exact hp _ _ _ _ _ _ _ _ h' hpb' rfl
  · rw [if_neg hv]
    refine ⟨fun _ => ?_, fun e => absurd rfl e⟩
    rw [q_goes1]
    exact ⟨fun _ => hpX hv _ _ _ _ _ _ _ _ (rm_free h (by omega) l1) hpb rfl, fun e => absurd rfl e⟩
