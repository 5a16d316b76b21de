/-! the class's state: what it stands for -/
def cmE (c : Cm) : va_E := .inr (1, [.int (iI c.1), .int (iI (cdx c)), .int (iI (cdy c)), .int (iI (cpn c))])
def isC (PL : List Nat) (pf : Nat → va_E) (y : Nat) (c : Cm) : Prop := y ∈ PL ∧ pf y = cmE c
def RQ (E : EV) (PL : List Nat) (pf : Nat → va_E) (ad : Nat) (q : List Cm) : Prop := (ad = eA E 0 ∧ q = []) ∨ (¬ ad = eA E 0 ∧ ∃ (N : Nat) (af : Nat → Option Nat), ad ∈ PL ∧ pf ad = .inl (eC E 2, N, .inr (.inr (.inr (.inr af)))) ∧ q.length ≤ N ∧ 1 ≤ N ∧ N ≤ 32 ∧ ∀ (i : Nat) (c : Cm), q[i]? = some c → ∃ y, af i = some y ∧ isC PL pf y c)
def RLt (PL : List Nat) (pf : Nat → va_E) (lt : Option Nat) (L : Option Cm) : Prop := match L with
  | none => lt = none
  | some c => ∃ y, lt = some y ∧ isC PL pf y c
def RX (E : EV) (a : AS) (gx : Nat → Int32) (lt : Option Nat) (ad : Nat) (ln : Int32) (PL : List Nat) (pf : Nat → va_E) (pw : Nat → Int64) (pk : Int32) (lw : Nat → Int64) (lk : Int32) (ik : Nat → Int32) : Prop := (∀ k, gx k = iI (a.1 k)) ∧ ln = iI ((aQ a).length : Int) ∧ RQ E PL pf ad (aQ a) ∧ RLt PL pf lt (aL a) ∧ PRx (aM a) pw pk ∧ PRx (aB a) lw lk ∧ ∀ i, i < 3 → ik i = iI (aI a i)
abbrev PX : Type := (Nat → Int32) → Option Nat → Int32 → Nat → Int32 → List Nat → (Nat → va_E) → (Nat → Int64) → Int32 → (Nat → Int64) → Int32 → (Nat → Int32) → Prop
def OX (E : EV) (post : PX) (a : AS) : Prop := ∀ gx lt mo ad ln PL pf pw pk lw lk ik, RX E a gx lt ad ln PL pf pw pk lw lk ik → post gx lt mo ad ln PL pf pw pk lw lk ik
theorem gS {gx : Nat → Int32} {A : Nat → Int} (h : ∀ k, gx k = iI (A k)) {s : Nat} {v : Int32} {w : Int} (hv : v = iI w) : ∀ k, upd gx s v k = iI (va_up A s w k) := by
  intro k
  unfold upd va_up
  split
  · exact hv
  · exact h k
/-- what the class's reads find small -/
def HK (a : AS) : Prop := (∀ c ∈ aQ a, okc c) ∧ (∀ c r, aQ a = c :: r → 0 ≤ a.1 13 ∧ a.1 13 ≤ cn c) ∧ (aQ a).length ≤ 16
theorem hk_inv {a : AS} (h : Inv a) : HK a := by
  refine ⟨h.1.1, fun c r hq => ?_, h.2.2.2.2⟩
  have hp := h.2.2.1.1
  rw [hq, prog_cons] at hp
  have := cn_nn (h.1.1 c (by rw [hq]; exact List.mem_cons_self))
  omega
theorem s_get {E : EV} {post : Option Nat → Prop} {mo : Int32} {ad : Nat} {PL : List Nat} {pf : Nat → va_E} {q : List Cm} {i : Nat} {c : Cm} (hq : RQ E PL pf ad q) (hl : q.length ≤ 16) (hi : q[i]? = some c) (hp : ∀ y, isC PL pf y c → post (some y)) : wp_Jx4a65c_get_915e3 E post mo ad (iI (q.length : Int)) PL pf (iI (i : Int)) := by
  have hlt : i < q.length := (List.getElem?_eq_some_iff.mp hi).1
  unfold wp_Jx4a65c_get_915e3 wp_J15_checkIndex_7cf53 wp_J3_checkIndex_8e157
  simp (disch := omega) only [l0, iI_lt]
  refine ⟨fun h => by omega, fun _ => ⟨fun _ => ?_, fun h => by omega⟩⟩
  rcases hq with ⟨-, h2⟩ | ⟨-, N, af, h1, h2, h3, h4, h5, h6⟩
  · rw [h2] at hlt; exact absurd hlt (by simp)
  · refine ⟨N, af, h1, h2, (iI_in (by omega) (by omega)).mpr (by omega), fun o ho => ?_⟩
    rw [iI_cl (by omega) (by omega), Int.toNat_natCast] at ho
    obtain ⟨y, hy, hc⟩ := h6 i c hi
    rw [ho, hy]
    exact hp y hc
theorem s_first {E : EV} {a : AS} {post : Option Nat → Prop} {gx : Nat → Int32} {lt : Option Nat} {mo : Int32} {ad : Nat} {ln : Int32} {PL : List Nat} {pf : Nat → va_E} {pw : Nat → Int64} {pk : Int32} {lw : Nat → Int64} {lk : Int32} {ik : Nat → Int32} (h : RX E a gx lt ad ln PL pf pw pk lw lk ik) (hl : (aQ a).length ≤ 16) (h0 : aQ a = [] → post none) (h1 : ∀ c r y, aQ a = c :: r → isC PL pf y c → post (some y)) : wp_X2_firstCommand E post gx lt mo ad ln PL pf pw pk lw lk ik := by
  unfold wp_X2_firstCommand wp_Jx4a65c_isEmpty_aae02
  rw [h.2.1]
  simp (disch := omega) only [l0, l1, iI_eq]
  refine ⟨fun h9 => ⟨fun h8 => absurd h8 (by decide), fun _ => h0 (List.length_eq_zero_iff.mp (by omega))⟩, fun h9 => ⟨fun _ => ?_, fun h8 => absurd trivial h8⟩⟩
  cases hq : aQ a with
  | nil => rw [hq] at h9; exact absurd rfl h9
  | cons c r =>
    have hR := h.2.2.1
    rw [hq] at hR hl
    have := s_get (E := E) (post := fun r_41 : Option Nat => ((r_41 = none → post none) ∧ (∀ y_42 : Nat, r_41 = some y_42 → (∃ ckz_43 cxz_43 cyz_43 cpz_43 : Int32, y_42 ∈ PL ∧ pf y_42 = .inr (1, [.int ckz_43, .int cxz_43, .int cyz_43, .int cpz_43]) ∧ post (some y_42))))) (mo := mo) (i := 0) (c := c) hR hl rfl (by
      intro y hy
      refine ⟨fun e => (nomatch e), fun z e => ?_⟩
      rw [← Option.some.inj e]
      exact ⟨_, _, _, _, hy.1, hy.2, h1 c r y hq hy⟩)
    exact this
theorem s_carX {E : EV} {a : AS} {post : Int32 → Prop} {gx : Nat → Int32} {lt : Option Nat} {mo : Int32} {ad : Nat} {ln : Int32} {PL : List Nat} {pf : Nat → va_E} {pw : Nat → Int64} {pk : Int32} {lw : Nat → Int64} {lk : Int32} {ik : Nat → Int32} (h : RX E a gx lt ad ln PL pf pw pk lw lk ik) (hk : HK a) (hp : post (iI (carX a))) : wp_X2_carriageX E post gx lt mo ad ln PL pf pw pk lw lk ik := by
  unfold wp_X2_carriageX
  refine s_first h hk.2.2 (fun hq => ⟨fun _ => ?_, fun y e => (nomatch e)⟩) (fun c r y hq hy => ⟨fun e => (nomatch e), fun z e => ?_⟩)
  · rw [h.1, ← carX_nil hq]; exact hp
  · rw [← Option.some.inj e]
    refine ⟨_, _, _, _, hy.1, hy.2, ?_⟩
    have ho := okc_rng (hk.1 c (by rw [hq]; exact List.mem_cons_self))
    have hb := hk.2.1 c r hq
    rw [h.1 13, q_wayX ho.1 ho.2.1 ho.2.2.1 ho.2.2.2.1 hb.1 (by omega), h.1, iI_add]
    rw [carX_cons hq] at hp
    exact hp
theorem s_carY {E : EV} {a : AS} {post : Int32 → Prop} {gx : Nat → Int32} {lt : Option Nat} {mo : Int32} {ad : Nat} {ln : Int32} {PL : List Nat} {pf : Nat → va_E} {pw : Nat → Int64} {pk : Int32} {lw : Nat → Int64} {lk : Int32} {ik : Nat → Int32} (h : RX E a gx lt ad ln PL pf pw pk lw lk ik) (hk : HK a) (hp : post (iI (carY a))) : wp_X2_carriageY E post gx lt mo ad ln PL pf pw pk lw lk ik := by
  unfold wp_X2_carriageY
  refine s_first h hk.2.2 (fun hq => ⟨fun _ => ?_, fun y e => (nomatch e)⟩) (fun c r y hq hy => ⟨fun e => (nomatch e), fun z e => ?_⟩)
  · rw [h.1, ← carY_nil hq]; exact hp
  · rw [← Option.some.inj e]
    refine ⟨_, _, _, _, hy.1, hy.2, ?_⟩
    have ho := okc_rng (hk.1 c (by rw [hq]; exact List.mem_cons_self))
    have hb := hk.2.1 c r hq
    rw [h.1 13, q_wayY ho.1 ho.2.1 ho.2.2.1 ho.2.2.2.1 hb.1 (by omega), h.1, iI_add]
    rw [carY_cons hq] at hp
    exact hp
theorem s_markHere {E : EV} {a : AS} {post : PX} {gx : Nat → Int32} {lt : Option Nat} {mo : Int32} {ad : Nat} {ln : Int32} {PL : List Nat} {pf : Nat → va_E} {pw : Nat → Int64} {pk : Int32} {lw : Nat → Int64} {lk : Int32} {ik : Nat → Int32} (h : RX E a gx lt ad ln PL pf pw pk lw lk ik) (hk : HK a) (hi : inP (carX a) (carY a)) (hp : ∀ pw' pk', RX E (aMark a) gx lt ad ln PL pf pw' pk' lw lk ik → post gx lt mo ad ln PL pf pw' pk' lw lk ik) : wp_X2_markHere E post gx lt mo ad ln PL pf pw pk lw lk ik := by
  unfold wp_X2_markHere
  refine s_carX h hk (s_carY h hk (q_putMark hi h.2.2.2.2.1 fun pw' pk' hr => hp pw' pk' ?_))
  exact ⟨h.1, h.2.1, h.2.2.1, h.2.2.2.1, hr, h.2.2.2.2.2⟩
theorem s_inkOf {E : EV} {a : AS} {post : Int32 → Prop} {gx : Nat → Int32} {lt : Option Nat} {mo : Int32} {ad : Nat} {ln : Int32} {PL : List Nat} {pf : Nat → va_E} {pw : Nat → Int64} {pk : Int32} {lw : Nat → Int64} {lk : Int32} {ik : Nat → Int32} (h : RX E a gx lt ad ln PL pf pw pk lw lk ik) {x : Int} (h0 : 0 ≤ x) (h1 : x ≤ 2) (hp : post (iI (aI a x.toNat))) : wp_X2_inkOf E post gx lt mo ad ln PL pf pw pk lw lk ik (iI x) := by
  unfold wp_X2_inkOf
  simp (disch := omega) only [l0, l3, iI_lt, iI_le, iI_in, iI_cl]
  refine ⟨fun h => by omega, fun _ => ⟨fun h => by omega, fun _ => ⟨by omega, ?_⟩⟩⟩
  rw [h.2.2.2.2.2.2 _ (by omega)]
  exact hp
theorem s_setInk {E : EV} {a : AS} {post : PX} {gx : Nat → Int32} {lt : Option Nat} {mo : Int32} {ad : Nat} {ln : Int32} {PL : List Nat} {pf : Nat → va_E} {pw : Nat → Int64} {pk : Int32} {lw : Nat → Int64} {lk : Int32} {ik : Nat → Int32} (h : RX E a gx lt ad ln PL pf pw pk lw lk ik) {x v : Int} (h0 : 0 ≤ x) (h1 : x ≤ 2) (hp : ∀ ik', RX E (aInk x.toNat v a) gx lt ad ln PL pf pw pk lw lk ik' → post gx lt mo ad ln PL pf pw pk lw lk ik') : wp_X2_setInk E post gx lt mo ad ln PL pf pw pk lw lk ik (iI x) (iI v) := by
  unfold wp_X2_setInk
  simp (disch := omega) only [l0, l3, iI_lt, iI_le, iI_in, iI_cl]
  refine ⟨fun h => by omega, fun _ => ⟨fun h => by omega, fun _ => ⟨by omega, hp _ ?_⟩⟩⟩
  refine ⟨h.1, h.2.1, h.2.2.1, h.2.2.2.1, h.2.2.2.2.1, h.2.2.2.2.2.1, fun i hi => ?_⟩
  show upd ik x.toNat (iI v) i = iI (va_up (aI a) x.toNat v i)
  unfold upd va_up
  split
  · rfl
  · exact h.2.2.2.2.2.2 i hi
theorem rx_set {E : EV} {a : AS} {gx : Nat → Int32} {lt : Option Nat} {ad : Nat} {ln : Int32} {PL : List Nat} {pf : Nat → va_E} {pw : Nat → Int64} {pk : Int32} {lw : Nat → Int64} {lk : Int32} {ik : Nat → Int32} (h : RX E a gx lt ad ln PL pf pw pk lw lk ik) {s : Nat} {v : Int32} {w : Int} (hv : v = iI w) : RX E (aSet s w a) (upd gx s v) lt ad ln PL pf pw pk lw lk ik := ⟨gS h.1 hv, h.2⟩
theorem isC_ne {E : EV} {PL : List Nat} {pf : Nat → va_E} {y ad N : Nat} {af : Nat → Option Nat} {c : Cm} (h : isC PL pf y c) (ha : pf ad = .inl (eC E 2, N, .inr (.inr (.inr (.inr af))))) : y ≠ ad := by
  intro e
  have h2 := h.2
  rw [e, ha] at h2
  exact nomatch h2
theorem isC_arr {E : EV} {PL : List Nat} {pf : Nat → va_E} {y ad N : Nat} {af : Nat → Option Nat} {c : Cm} {w : va_E} (h : isC PL pf y c) (ha : pf ad = .inl (eC E 2, N, .inr (.inr (.inr (.inr af))))) : isC PL (va_up pf ad w) y c := ⟨h.1, by rw [va_up_ne _ _ (isC_ne h ha)]; exact h.2⟩
theorem s_remove {E : EV} {post : Option Nat → Int32 → Nat → Int32 → List Nat → (Nat → va_E) → Prop} {mo : Int32} {ad : Nat} {PL : List Nat} {pf : Nat → va_E} {c : Cm} {r : List Cm} (hq : RQ E PL pf ad (c :: r)) (hl : (c :: r).length ≤ 16) (hp : ∀ o mo' pf', RQ E PL pf' ad r → (∀ y d, isC PL pf y d → isC PL pf' y d) → post o mo' ad (iI (r.length : Int)) PL pf') : wp_Jx4a65c_remove_915e3 E post mo ad (iI ((c :: r).length : Int)) PL pf 0 := by
  rcases hq with ⟨-, h2⟩ | ⟨n0, N, af, h1, h2, h3, h4, h5, h6⟩
  · exact nomatch h2
  · have hlen : ((c :: r).length : Int) = (r.length : Int) + 1 := by simp
    have hl2 : (c :: r).length = r.length + 1 := rfl
    rw [hl2] at h3 hl
    unfold wp_Jx4a65c_remove_915e3 wp_J15_checkIndex_7cf53 wp_J3_checkIndex_8e157
    rw [l0, hlen]
    simp (disch := omega) only [iI_lt]
    refine ⟨fun h => by omega, fun _ => ⟨fun _ => ?_, fun h => by omega⟩⟩
    refine ⟨N, af, h1, h2, (iI_in (by omega) (by omega)).mpr (by omega), fun o _ => ?_⟩
    have main : ∀ o', wp_Jx4a65c_fastRemove_b59b0 E (fun (mo_718 : Int32) (ad_719 : Nat) (ln_720 : Int32) (PL_721 : List Nat) (pf_722 : Nat → va_E) => post o' mo_718 ad_719 ln_720 PL_721 pf_722) mo ad (iI ((r.length : Int) + 1)) PL pf ad (iI 0) := by
      intro o'
      unfold wp_Jx4a65c_fastRemove_b59b0
      rw [l1, iI_sub, show (r.length : Int) + 1 - 1 = (r.length : Int) by omega]
      simp (disch := omega) only [iI_le]
      refine ⟨fun hz => ?_, fun hz => ?_⟩
      · refine ⟨N, af, h1, h2, (iI_in (by omega) (by omega)).mpr (by omega), fun pf' e => ?_⟩
        rw [e]
        have hr : r = [] := List.length_eq_zero_iff.mp (by omega)
        refine hp _ _ _ (Or.inr ⟨n0, N, _, h1, va_up_self _ _ _, by omega, h4, h5, ?_⟩) (fun y d hy => isC_arr hy h2)
        intro i d hi
        rw [hr] at hi
        exact absurd hi (by simp)
      · refine ⟨N, af, h1, h2, ?_, ?_, fun pf' e => ?_⟩
        · simp (disch := omega) only [l0, iI_lt, iI_add, iI_sub, iI_cl]
          omega
        · intro i hi y hy
          simp (disch := omega) only [iI_sub, iI_cl, iI_add] at hi hy
          have hi2 : i < r.length := by omega
          obtain ⟨z, hz1, hz2⟩ := h6 (1 + i) (r[i]) (by rw [Nat.add_comm 1 i, List.getElem?_cons_succ]; exact List.getElem?_eq_getElem hi2)
          rw [show ((0 : Int) + 1).toNat + i = 1 + i by omega, hz1] at hy
          rw [← Option.some.inj hy]
          exact ⟨hz2.1, _, _, _, _, hz2.2⟩
        · refine ⟨(iI_in (by omega) (by omega)).mpr (by omega), fun pf2 e2 => ?_⟩
          rw [e2]
          have ha1 : pf' ad = .inl (eC E 2, N, .inr (.inr (.inr (.inr (va_cpy af af (iI 0 + iI 1).toNatClampNeg (iI 0).toNatClampNeg (iI (r.length : Int) - iI 0).toNatClampNeg))))) := by rw [e]; exact va_up_self _ _ _
          have hk : ∀ y d, isC PL pf y d → isC PL pf' y d := fun y d hy => by rw [e]; exact isC_arr hy h2
          refine hp _ _ _ (Or.inr ⟨n0, N, _, h1, va_up_self _ _ _, by omega, h4, h5, ?_⟩) (fun y d hy => isC_arr (hk y d hy) ha1)
          intro i d hi
          have hi2 : i < r.length := (List.getElem?_eq_some_iff.mp hi).1
          obtain ⟨z, hz1, hz2⟩ := h6 (1 + i) d (by rw [Nat.add_comm 1 i, List.getElem?_cons_succ]; exact hi)
          refine ⟨z, ?_, isC_arr (hk _ _ hz2) ha1⟩
          simp (disch := omega) only [iI_sub, iI_cl, iI_add]
          rw [va_up_ne _ _ (by omega)]
          unfold va_cpy
          rw [if_pos (by omega), show ((0 : Int) + 1).toNat + (i - (0 : Int).toNat) = 1 + i by omega]
          exact hz1
    exact ⟨fun _ => main _, fun y _ => main _⟩
theorem RLt_keep {PL PL2 : List Nat} {pf pf2 : Nat → va_E} {lt : Option Nat} {L : Option Cm} (h : RLt PL pf lt L) (hk : ∀ y d, isC PL pf y d → isC PL2 pf2 y d) : RLt PL2 pf2 lt L := by
  unfold RLt at h ⊢
  cases L with
  | none => exact h
  | some c => obtain ⟨y, h1, h2⟩ := h; exact ⟨y, h1, hk y c h2⟩
theorem s_end {E : EV} {a : AS} {post : PX} {gx : Nat → Int32} {lt : Option Nat} {mo : Int32} {ad : Nat} {ln : Int32} {PL : List Nat} {pf : Nat → va_E} {pw : Nat → Int64} {pk : Int32} {lw : Nat → Int64} {lk : Int32} {ik : Nat → Int32} {cm : Nat} {c : Cm} {r : List Cm} (h : RX E a gx lt ad ln PL pf pw pk lw lk ik) (hq : aQ a = c :: r) (hl : (aQ a).length ≤ 16) (hc : isC PL pf cm c) (hp : OX E post (aEnd c a)) : wp_X2_endFirstCommand E post gx lt mo ad ln PL pf pw pk lw lk ik cm := by
  unfold wp_X2_endFirstCommand
  refine ⟨_, _, _, _, hc.1, hc.2, ?_⟩
  have h2 := h.2.1
  have hR := h.2.2.1
  rw [hq] at h2 hR hl
  have hl2 : (c :: r).length = r.length + 1 := rfl
  unfold wp_Jx4a65c_isEmpty_aae02
  rw [h2]
  simp (disch := omega) only [l0, l1, iI_eq]
  refine ⟨fun h9 => by omega, fun h9 => ⟨fun _ => ?_, fun h8 => absurd trivial h8⟩⟩
  rw [← l0]
  refine s_remove hR hl fun o mo' pf' hq' hk => ?_
  refine hp _ _ _ _ _ _ _ _ _ _ _ _ ⟨?_, ?_, ?_, RLt_keep h.2.2.2.1 hk, h.2.2.2.2⟩
  · refine gS (gS (gS (gS h.1 ?_) ?_) l0) l0
    · rw [h.1, iI_add]
    · rw [h.1, iI_add]
  · show _ = iI ((aQ a).tail.length : Int)
    rw [hq]; rfl
  · show RQ E PL pf' ad (aQ a).tail
    rw [hq]; exact hq'
