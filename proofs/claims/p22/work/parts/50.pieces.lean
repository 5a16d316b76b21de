/-! the pieces of the law's own body, in whole numbers -/
def LX (E : EV) (gx : Nat → Int32) (lt : Option Nat) (mo : Int32) (ad : Nat) (ln : Int32) (PL : List Nat) (pf : Nat → va_E) (pw : Nat → Int64) (pk : Int32) (lw : Nat → Int64) (lk : Int32) (ik : Nat → Int32) (cw mw : Nat → Int32) : Prop := ∃ a, RX E a gx lt ad ln PL pf pw pk lw lk ik ∧ LI a cw mw
def okR (i : Int32) : Prop := ∃ x : Int, 0 ≤ x ∧ x < 2147483648 ∧ i = iI x
def PH (E : EV) (n : Nat) (gx : Nat → Int32) (lt : Option Nat) (mo : Int32) (ad : Nat) (ln : Int32) (PL : List Nat) (pf : Nat → va_E) (pw : Nat → Int64) (pk : Int32) (lw : Nat → Int64) (lk : Int32) (ik : Nat → Int32) (cw mw : Nat → Int32) (i4 i5 : Int32) : Prop := LX E gx lt mo ad ln PL pf pw pk lw lk ik cw mw ∧ i4 = 1 ∧ i5 = iI (n : Int)
def PJ (E : EV) (n : Nat) (gx : Nat → Int32) (lt : Option Nat) (mo : Int32) (ad : Nat) (ln : Int32) (PL : List Nat) (pf : Nat → va_E) (pw : Nat → Int64) (pk : Int32) (lw : Nat → Int64) (lk : Int32) (ik : Nat → Int32) (cw mw : Nat → Int32) (i4 i5 i6 : Int32) : Prop := LX E gx lt mo ad ln PL pf pw pk lw lk ik cw mw ∧ i4 = 1 ∧ i5 = iI (n : Int) ∧ okR i6
def PT (E : EV) (n k : Nat) (gx : Nat → Int32) (lt : Option Nat) (mo : Int32) (ad : Nat) (ln : Int32) (PL : List Nat) (pf : Nat → va_E) (pw : Nat → Int64) (pk : Int32) (lw : Nat → Int64) (lk : Int32) (ik : Nat → Int32) (cw mw : Nat → Int32) (i4 i5 i6 i7 i9 : Int32) : Prop := LX E gx lt mo ad ln PL pf pw pk lw lk ik cw mw ∧ i4 = 1 ∧ i5 = iI (n : Int) ∧ okR i6 ∧ okR i7 ∧ i9 = iI (k : Int)
def PK (E : EV) (n : Nat) (gx : Nat → Int32) (lt : Option Nat) (mo : Int32) (ad : Nat) (ln : Int32) (PL : List Nat) (pf : Nat → va_E) (pw : Nat → Int64) (pk : Int32) (lw : Nat → Int64) (lk : Int32) (ik : Nat → Int32) (cw mw : Nat → Int32) (i5 i6 i7 i9 : Int32) : Prop := LX E gx lt mo ad ln PL pf pw pk lw lk ik cw mw ∧ i5 = iI (n : Int) ∧ okR i6 ∧ okR i7 ∧ ∃ k : Int, 1 ≤ k ∧ k ≤ 4 ∧ i9 = iI k
def okU (i9 i10 : Int32) : Prop := ∃ k u : Int, 1 ≤ k ∧ k ≤ 4 ∧ i9 = iI k ∧ -35 ≤ u ∧ u ≤ 35 ∧ (3 ≤ k → 0 ≤ u) ∧ i10 = iI u
def PO (E : EV) (n : Nat) (gx : Nat → Int32) (lt : Option Nat) (mo : Int32) (ad : Nat) (ln : Int32) (PL : List Nat) (pf : Nat → va_E) (pw : Nat → Int64) (pk : Int32) (lw : Nat → Int64) (lk : Int32) (ik : Nat → Int32) (cw mw : Nat → Int32) (i5 i6 i7 i9 i10 : Int32) : Prop := LX E gx lt mo ad ln PL pf pw pk lw lk ik cw mw ∧ i5 = iI (n : Int) ∧ okR i6 ∧ okR i7 ∧ okU i9 i10
def PS (E : EV) (n : Nat) (gx : Nat → Int32) (lt : Option Nat) (mo : Int32) (ad : Nat) (ln : Int32) (PL : List Nat) (pf : Nat → va_E) (pw : Nat → Int64) (pk : Int32) (lw : Nat → Int64) (lk : Int32) (ik : Nat → Int32) (cw mw : Nat → Int32) (i5 i6 i9 i10 i11 : Int32) : Prop := LX E gx lt mo ad ln PL pf pw pk lw lk ik cw mw ∧ i5 = iI (n : Int) ∧ okR i6 ∧ okU i9 i10 ∧ ∃ v : Int, -35 ≤ v ∧ v ≤ 35 ∧ i11 = iI v
theorem and_m (y : Int32) : okR (y &&& 2147483647) := by
  refine ⟨(y &&& 2147483647).toInt, ?_, Int32.toInt_lt _, (iI_self _).symm⟩
  have h : (y &&& 2147483647).toBitVec.toNat ≤ 2147483647 := by
    rw [Int32.toBitVec_and, BitVec.toNat_and]
    exact Nat.and_le_right
  have h2 : (y &&& 2147483647).toInt = ((y &&& 2147483647).toBitVec.toNat : Int) := by
    show (y &&& 2147483647).toBitVec.toInt = _
    rw [BitVec.toInt_eq_toNat_of_lt (by omega)]
  rw [h2]; omega
theorem s_dice {E : EV} {post : Int32 → Prop} {L n : Nat} {xs : Nat → Int32} (hL : L ≤ 260) (hn : n ≤ 200) (hp : ∀ x : Int, 0 ≤ x → x < 2147483648 → post (iI x)) : wp_L_dice E post L xs (iI (n : Int)) := by
  have key : ∀ y : Int32, post (y &&& 2147483647) := by
    intro y
    obtain ⟨x, h1, h2, h3⟩ := and_m y
    rw [h3]
    exact hp x h1 h2
  unfold wp_L_dice
  rw [iI_nat, iI_le (by omega) (by omega) (by omega) (by omega)]
  exact ⟨fun _ => key _, fun e => ⟨(iI_in (by omega) (by omega)).mpr (by omega), key _⟩⟩
theorem l12 : (12 : Int32) = iI 12 := by decide
theorem l14 : (14 : Int32) = iI 14 := by decide
theorem l15 : (15 : Int32) = iI 15 := by decide
theorem lm15 : (-15 : Int32) = iI (-15) := by decide
theorem l16 : (16 : Int32) = iI 16 := by decide
theorem l20 : (20 : Int32) = iI 20 := by decide
theorem l11 : (11 : Int32) = iI 11 := by decide
theorem l25 : (25 : Int32) = iI 25 := by decide
theorem l26 : (26 : Int32) = iI 26 := by decide
theorem l28 : (28 : Int32) = iI 28 := by decide
theorem l31 : (31 : Int32) = iI 31 := by decide
theorem l41 : (41 : Int32) = iI 41 := by decide
theorem l70 : (70 : Int32) = iI 70 := by decide
theorem l251 : (251 : Int32) = iI 251 := by decide
theorem l656 : (656 : Int32) = iI 656 := by decide
theorem rm_of {x n : Int} {N : Int32} (hN : N = iI n) (h1 : 0 ≤ x) (h2 : x < 2147483648) (h3 : 0 < n) (h4 : n < 2147483648) : iI x - iI x / N * N = iI (x % n) := by rw [hN]; exact q_rem h1 h2 h3 h4
theorem qu_of {x n : Int} {N : Int32} (hN : N = iI n) (h1 : 0 ≤ x) (h2 : x < 2147483648) (h3 : 0 < n) (h4 : n < 2147483648) : iI x / N = iI (x / n) := by rw [hN]; exact q_quo h1 h2 h3 h4
theorem le_of {n y : Int} {N : Int32} (hN : N = iI n) (h1 : -2147483648 ≤ n) (h2 : n < 2147483648) (h3 : -2147483648 ≤ y) (h4 : y < 2147483648) : (N ≤ iI y) ↔ n ≤ y := by rw [hN]; exact iI_le h1 h2 h3 h4
theorem eq_of {n y : Int} {N : Int32} (hN : N = iI n) (h1 : -2147483648 ≤ n) (h2 : n < 2147483648) (h3 : -2147483648 ≤ y) (h4 : y < 2147483648) : (iI y = N) ↔ y = n := by rw [hN]; exact iI_eq h3 h4 h1 h2
theorem k_18 {E : EV} {a : AS} {gx : Nat → Int32} {lt : Option Nat} {mo : Int32} {ad : Nat} {ln : Int32} {PL : List Nat} {pf : Nat → va_E} {pw : Nat → Int64} {pk : Int32} {lw : Nat → Int64} {lk : Int32} {ik : Nat → Int32} {cw mw : Nat → Int32} (h : RX E a gx lt ad ln PL pf pw pk lw lk ik) (hL : LI a cw mw) (h13 : a.1 13 = 0) : wp_law_18 E (PH E 0) gx lt mo ad ln PL pf pw pk lw lk ik cw mw := by
  obtain ⟨hi, hj, hR, h6⟩ := id hL
  unfold wp_law_18
  rw [l0, l1]
  refine s_refused h hi (by omega) (by omega) ?_
  intro gx lt mo ad ln PL pf pw pk lw lk ik h
  refine if_f (by decide) (s_refused h hi (by omega) (by omega) ?_)
  clear h
  intro gx lt mo ad ln PL pf pw pk lw lk ik h
  refine if_f (by decide) (s_cut h (rng13 hi) ?_)
  intro gx lt mo ad ln PL pf pw pk lw lk ik h'
  refine if_t (by rw [h13]; decide) ⟨⟨aCut a, h', inv_cut hi, ja_cut hj (rng13 hi).1, ?_, rfl⟩, rfl, rfl⟩
  refine ra_keep hR rfl rfl rfl rfl rfl rfl rfl (fun _ _ => rfl) ?_
  rw [hR.1.2.2.2.2.2, h13]
  show iI 0 = iI (a.1 13 - a.1 13 % 10)
  rw [h13]
  rfl
theorem k_128 {E : EV} {n : Nat} {gx : Nat → Int32} {lt : Option Nat} {mo : Int32} {ad : Nat} {ln : Int32} {PL : List Nat} {pf : Nat → va_E} {pw : Nat → Int64} {pk : Int32} {lw : Nat → Int64} {lk : Int32} {ik : Nat → Int32} {cw mw : Nat → Int32} {i5 i6 i7 i9 : Int32} (h : PK E n gx lt mo ad ln PL pf pw pk lw lk ik cw mw i5 i6 i7 i9) : wp_law_128 E (PO E n) gx lt mo ad ln PL pf pw pk lw lk ik cw mw i5 i6 i7 i9 := by
  obtain ⟨hX, h5, h6, ⟨v, v0, v1, h7⟩, k, k1, k2, h9⟩ := h
  obtain ⟨a, hx, hL⟩ := id hX
  have m5 := hL.2.2.1.1.2.2.2.1
  have hin := (chain_in hL.1.1.2.2).2
  obtain ⟨b1, b2, b3, b4⟩ := hin
  unfold wp_law_128
  simp only [t5]
  subst h7
  subst h9
  rw [m5, qu_of l16 v0 v1 (by omega) (by omega), rm_of l4 (by omega) (by omega) (by omega) (by omega), rm_of l11 (by omega) (by omega) (by omega) (by omega), rm_of l41 (by omega) (by omega) (by omega) (by omega), eq_of l3 (by omega) (by omega) (by omega) (by omega), eq_of l4 (by omega) (by omega) (by omega) (by omega), l20, l0, lm15, l15, iI_sub, iI_add, iI_add, iI_add]
  refine ⟨fun e => ⟨hX, h5, h6, ⟨v, v0, v1, rfl⟩, k, _, k1, k2, rfl, by omega, by omega, by omega, rfl⟩, fun e => ⟨fun e => ⟨hX, h5, h6, ⟨v, v0, v1, rfl⟩, k, _, k1, k2, rfl, by omega, by omega, by omega, rfl⟩, fun e => ⟨fun _ => ⟨fun _ => ⟨hX, h5, h6, ⟨v, v0, v1, rfl⟩, k, _, k1, k2, rfl, by omega, by omega, by omega, rfl⟩, fun _ => ⟨hX, h5, h6, ⟨v, v0, v1, rfl⟩, k, _, k1, k2, rfl, by omega, by omega, by omega, rfl⟩⟩, fun _ => ⟨hX, h5, h6, ⟨v, v0, v1, rfl⟩, k, _, k1, k2, rfl, by omega, by omega, by omega, rfl⟩⟩⟩⟩
theorem k_202 {E : EV} {n : Nat} {gx : Nat → Int32} {lt : Option Nat} {mo : Int32} {ad : Nat} {ln : Int32} {PL : List Nat} {pf : Nat → va_E} {pw : Nat → Int64} {pk : Int32} {lw : Nat → Int64} {lk : Int32} {ik : Nat → Int32} {cw mw : Nat → Int32} {i5 i6 i7 i9 i10 : Int32} (h : PO E n gx lt mo ad ln PL pf pw pk lw lk ik cw mw i5 i6 i7 i9 i10) : wp_law_202 E (PS E n) gx lt mo ad ln PL pf pw pk lw lk ik cw mw i5 i6 i7 i9 i10 := by
  obtain ⟨hX, h5, h6, ⟨v, v0, v1, h7⟩, hU⟩ := h
  unfold wp_law_202
  subst h7
  rw [qu_of l656 v0 v1 (by omega) (by omega), rm_of l41 (by omega) (by omega) (by omega) (by omega), l20, l0, lm15, l15, iI_sub, iI_add, iI_add, iI_add]
  exact ⟨fun _ => ⟨fun _ => ⟨hX, h5, h6, hU, _, by omega, by omega, rfl⟩, fun _ => ⟨hX, h5, h6, hU, _, by omega, by omega, rfl⟩⟩, fun _ => ⟨hX, h5, h6, hU, _, by omega, by omega, rfl⟩⟩
theorem k_246 {E : EV} {n : Nat} {gx : Nat → Int32} {lt : Option Nat} {mo : Int32} {ad : Nat} {ln : Int32} {PL : List Nat} {pf : Nat → va_E} {pw : Nat → Int64} {pk : Int32} {lw : Nat → Int64} {lk : Int32} {ik : Nat → Int32} {cw mw : Nat → Int32} {i5 i6 i9 i10 i11 : Int32} (h : PS E n gx lt mo ad ln PL pf pw pk lw lk ik cw mw i5 i6 i9 i10 i11) : wp_law_246 E (PJ E n) gx lt mo ad ln PL pf pw pk lw lk ik cw mw i5 i6 i9 i10 i11 := by
  obtain ⟨⟨a, hx, hL⟩, h5, h6, ⟨k, u, k1, k2, h9, u1, u2, u3, h10⟩, v, v1, v2, h11⟩ := h
  unfold wp_law_246
  subst h9
  subst h10
  subst h11
  refine s_isSent hx hL ⟨k1, k2⟩ ⟨u1, u2⟩ ⟨v1, v2⟩ u3 ?_
  intro d gx lt mo ad ln PL pf pw pk lw lk ik cw mw h hL
  exact ⟨⟨d, h, hL⟩, rfl, h5, h6⟩
theorem k_368 {E : EV} {n k : Nat} {gx : Nat → Int32} {lt : Option Nat} {mo : Int32} {ad : Nat} {ln : Int32} {PL : List Nat} {pf : Nat → va_E} {pw : Nat → Int64} {pk : Int32} {lw : Nat → Int64} {lk : Int32} {ik : Nat → Int32} {cw mw : Nat → Int32} {i4 i5 i6 i7 i9 : Int32} (h : PT E n k gx lt mo ad ln PL pf pw pk lw lk ik cw mw i4 i5 i6 i7 i9) (hk : k ≤ 25) : wp_law_368 E (fun gx lt mo ad ln PL pf pw pk lw lk ik cw mw i4 i5 i6 i7 i9 => k ≤ 24 ∧ PT E n (k + 1) gx lt mo ad ln PL pf pw pk lw lk ik cw mw i4 i5 i6 i7 i9) (PJ E n) gx lt mo ad ln PL pf pw pk lw lk ik cw mw i4 i5 i6 i7 i9 := by
  obtain ⟨⟨a, hx, hL⟩, h4, h5, h6, ⟨v, v0, v1, h7⟩, h9⟩ := h
  unfold wp_law_368
  subst h7
  subst h9
  subst h4
  rw [rm_of l25 v0 v1 (by omega) (by omega), iI_lt (by omega) (by omega) (by omega) (by omega)]
  refine ⟨fun _ => ⟨⟨a, hx, hL⟩, rfl, h5, h6⟩, fun e => if_f (by decide) (s_isTicked hx hL ?_)⟩
  intro d gx lt mo ad ln PL pf pw pk lw lk ik cw mw h hL
  refine ⟨by omega, ⟨d, h, hL⟩, rfl, h5, h6, ⟨v, v0, v1, rfl⟩, ?_⟩
  rw [l1, iI_add]
  rfl
theorem k_575 {E : EV} {n : Nat} {gx : Nat → Int32} {lt : Option Nat} {mo : Int32} {ad : Nat} {ln : Int32} {PL : List Nat} {pf : Nat → va_E} {pw : Nat → Int64} {pk : Int32} {lw : Nat → Int64} {lk : Int32} {ik : Nat → Int32} {cw mw : Nat → Int32} {i4 i5 i6 : Int32} (h : PJ E n gx lt mo ad ln PL pf pw pk lw lk ik cw mw i4 i5 i6) (hn : n ≤ 200) : wp_law_575 E (PH E (n + 1)) gx lt mo ad ln PL pf pw pk lw lk ik cw mw i4 i5 i6 := by
  obtain ⟨⟨a, hx, hL⟩, h4, h5, ⟨x, x0, x1, h6⟩⟩ := h
  obtain ⟨hi, hj, hR, hz⟩ := id hL
  have ka := kM_rng a
  have kb := kB_rng a
  have e5 : i5 + 1 = iI ((n + 1 : Nat) : Int) := by rw [h5, l1, iI_add]; rfl
  have fin : PH E (n + 1) gx lt mo ad ln PL pf pw pk lw lk ik cw mw 1 (iI ((n + 1 : Nat) : Int)) := ⟨⟨a, hx, hL⟩, rfl, rfl⟩
  have ref : wp_L_isRefused E (fun (r_1 : Int32) (gx_1 : Nat → Int32) (lt_1 : Option Nat) (mo_1 : Int32) (ad_1 : Nat) (ln_1 : Int32) (PL_1 : List Nat) (pf_1 : Nat → va_E) (pw_1 : Nat → Int64) (pk_1 : Int32) (lw_1 : Nat → Int64) (lk_1 : Int32) (ik_1 : Nat → Int32) => ((r_1 = 0 → False) ∧ (¬ (r_1 = 0) → PH E (n + 1) gx_1 lt_1 mo_1 ad_1 ln_1 PL_1 pf_1 pw_1 pk_1 lw_1 lk_1 ik_1 cw mw 1 (iI ((n + 1 : Nat) : Int))))) gx lt mo ad ln PL pf pw pk lw lk ik (iI (x / 3)) := by
    refine s_refused hx hi (by omega) (by omega) ?_
    intro gx lt mo ad ln PL pf pw pk lw lk ik h
    exact if_f (by decide) ⟨⟨a, h, hL⟩, rfl, rfl⟩
  unfold wp_law_575
  rw [e5]
  subst h4
  subst h5
  subst h6
  rw [qu_of l3 x0 x1 (by omega) (by omega)]
  refine if_f (by decide) (s_onLine hx hL (if_f (by decide) (s_here hx hi hj (if_f (by decide) ⟨fun _ => ⟨fun _ => fin, fun _ => ref⟩, fun _ => ?_⟩))))
  refine g_marks hx (g_plan hx (if_f ?_ ⟨fun _ => fin, fun _ => ref⟩))
  show ¬ iI (kB a) < iI (kM a)
  rw [iI_lt (by omega) (by omega) (by omega) (by omega)]
  have := ja_le hj
  unfold kB kM
  omega
theorem li_ink {a : AS} {cw mw : Nat → Int32} (h : LI a cw mw) {k : Nat} {v : Int} (h1 : 0 ≤ v) (h2 : v ≤ 500) : LI (aInk k v a) cw mw := ⟨inv_inkset h.1 h1 h2, h.2.1, h.2.2.1, h.2.2.2⟩
theorem ra_err {a : AS} {cw mw : Nat → Int32} (h : RA a cw mw) : RA (aErr a) cw (upd mw 1 (mw 1 + 1)) := by
  obtain ⟨⟨h0, h1, h2, h5, h6, h7⟩, hq⟩ := h
  refine ⟨⟨h0, ?_, rlm_up h2 fun i h1 h2 => if_neg (by omega), h5, h6, h7⟩, hq⟩
  show mw 1 + 1 = iI (a.1 7 + 1)
  rw [h1, l1, iI_add]
theorem ra_0 {a : AS} {cw mw : Nat → Int32} (h : RA a cw mw) : upd mw 1 (mw 1 + 0) = mw := by
  funext i
  unfold upd
  split
  · rename_i e; rw [e, h.1.2.1, l0, iI_add, Int.add_zero]
  · rfl
theorem f_0 {a : AS} {v : Int} (h6 : a.1 6 = 0) (h : 8 ≤ (aQ a).length ∨ v = 0) : aFeed v a = a := by
  unfold aFeed
  split
  · rfl
  · unfold aTake
    rw [if_pos h6]
    unfold aBeg
    rw [if_neg (by omega), if_pos (by omega)]
theorem f_5 {a : AS} {v : Int} (h6 : a.1 6 = 0) (h : ¬ 8 ≤ (aQ a).length) (hv : 5 ≤ v) : aFeed v a = aErr a := by
  unfold aFeed
  rw [if_neg h]
  unfold aTake
  rw [if_pos h6]
  unfold aBeg
  rw [if_neg (by omega), if_neg (by omega)]
set_option maxHeartbeats 4000000 in
theorem k_63 {E : EV} {L n : Nat} {xs : Nat → Int32} {gx : Nat → Int32} {lt : Option Nat} {mo : Int32} {ad : Nat} {ln : Int32} {PL : List Nat} {pf : Nat → va_E} {pw : Nat → Int64} {pk : Int32} {lw : Nat → Int64} {lk : Int32} {ik : Nat → Int32} {cw mw : Nat → Int32} {i4 i5 : Int32} (h : PH E n gx lt mo ad ln PL pf pw pk lw lk ik cw mw i4 i5) (hn : n ≤ 200) (hL2 : L ≤ 260) : wp_law_63 E L xs (PK E n) (PT E n 0) (PJ E n) gx lt mo ad ln PL pf pw pk lw lk ik cw mw i4 i5 := by
  obtain ⟨⟨a, hx, hL⟩, h4, h5⟩ := h
  obtain ⟨hi, hj, hR, h6⟩ := id hL
  have hl := hi.2.2.2.2
  have a16 := hi.2.2.1.2.2.1
  subst h4
  subst h5
  unfold wp_law_63
  refine s_dice hL2 hn fun x x0 x1 => ?_
  have R : okR (iI x) := ⟨x, x0, x1, rfl⟩
  have V : okR (iI (x / 32)) := ⟨x / 32, by omega, by omega, rfl⟩
  simp only [t0, t1]
  have e8 : ((8 : Int32) ≤ mw 0) ↔ 8 ≤ (aQ a).length := by rw [hR.1.1, l8, iI_le (by omega) (by omega) (by omega) (by omega)]; omega
  have e8' : ((8 : Int32) ≤ upd mw 1 (mw 1 + 1) 0) ↔ 8 ≤ (aQ a).length := e8
  have ea : ∀ y : Int, (1 : Int32) + iI y = iI (1 + y) := fun y => by rw [l1, iI_add]
  have eb : ∀ y : Int, (5 : Int32) + iI y = iI (5 + y) := fun y => by rw [l5, iI_add]
  have ec : ∀ y : Int, (3 : Int32) + iI y = iI (3 + y) := fun y => by rw [l3, iI_add]
  rw [rm_of l32 x0 x1 (by omega) (by omega), qu_of l32 x0 x1 (by omega) (by omega), ra_0 hR, e8, e8']
  rw [le_of l14 (by omega) (by omega) (by omega) (by omega), eq_of l14 (by omega) (by omega) (by omega) (by omega), le_of l26 (by omega) (by omega) (by omega) (by omega), le_of l28 (by omega) (by omega) (by omega) (by omega), eq_of l28 (by omega) (by omega) (by omega) (by omega), le_of l31 (by omega) (by omega) (by omega) (by omega)]
  rw [rm_of (x := x / 32) l4 (by omega) (by omega) (by omega) (by omega), rm_of (x := x / 32) l251 (by omega) (by omega) (by omega) (by omega), rm_of (x := x / 32) l3 (by omega) (by omega) (by omega) (by omega), qu_of (x := x / 32) l12 (by omega) (by omega) (by omega) (by omega), rm_of (x := x / 32 / 12) l500 (by omega) (by omega) (by omega) (by omega), qu_of (x := x / 32) l4 (by omega) (by omega) (by omega) (by omega), rm_of (x := x / 32 / 4) l3 (by omega) (by omega) (by omega) (by omega), rm_of (x := x / 32) l2 (by omega) (by omega) (by omega) (by omega), ea, eb, ec]
  refine ⟨fun e14 => ⟨fun _ => ⟨fun _ => ?_, fun _ => ?_⟩, fun _ => ⟨fun _ => ⟨fun _ => ⟨fun _ => ?_, fun _ => ⟨fun _ => ⟨⟨a, hx, hL⟩, rfl, rfl, R⟩, fun _ => ⟨fun _ => ?_, fun _ => ?_⟩⟩⟩, fun _ => ?_⟩, fun _ => ?_⟩⟩, fun _ => ?_⟩
  · refine a_feed (v := 0) hx hi (by omega) (by omega) ?_
    rw [f_0 h6 (Or.inr rfl)]
    by_cases z : 8 ≤ (aQ a).length
    · rw [if_pos z]
      intro gx lt mo ad ln PL pf pw pk lw lk ik h
      exact if_f (by decide) (if_t z (if_t rfl (g_pending h (if_t (by rw [h6]; rfl) ⟨⟨_, h, hL⟩, rfl, rfl, R⟩))))
    · rw [if_neg z]
      intro gx lt mo ad ln PL pf pw pk lw lk ik h
      exact if_t rfl (if_f z (g_pending h (if_t (by rw [h6]; rfl) ⟨⟨_, h, hL⟩, rfl, rfl, R⟩)))
  · refine a_feed hx hi (by omega) (by omega) ?_
    have hi' := inv_feed hi (v := 5 + x / 32 % 251) (by omega) (by omega)
    by_cases z : 8 ≤ (aQ a).length
    · rw [if_pos z, f_0 h6 (Or.inl z)]
      intro gx lt mo ad ln PL pf pw pk lw lk ik h
      exact if_f (by decide) (if_t z (if_t rfl (g_pending h (if_t (by rw [h6]; rfl) ⟨⟨_, h, hL⟩, rfl, rfl, R⟩))))
    · rw [if_neg z]
      rw [f_5 h6 z (by omega)] at hi' ⊢
      intro gx lt mo ad ln PL pf pw pk lw lk ik h
      refine if_t rfl (if_f ?_ (if_f z (g_pending h (if_t (show iI (a.1 6) = 0 by rw [h6]; rfl) ⟨⟨_, h, hi', hj, ra_err hR, h6⟩, rfl, rfl, R⟩))))
      rw [l0, iI_le (by omega) (by omega) (by omega) (by omega)]
      omega
  · refine g_ink hx (by omega) (by omega) (a_refill hx (by omega) (by omega) ?_)
    intro gx lt mo ad ln PL pf pw pk lw lk ik h
    refine if_t rfl (g_ink h (by omega) (by omega) (if_t ?_ ⟨⟨_, h, li_ink hL (by omega) (by omega)⟩, rfl, rfl, R⟩))
    rw [l500]
    exact iI_inj (va_up_self _ _ _)
  · refine g_ink hx (by omega) (by omega) ?_
    have hb := hi.2.2.1.2.2.2 (x / 32 / 4 % 3).toNat
    have hI : LI (aPour (x / 32 / 4 % 3).toNat (1 + x / 32 / 12 % 500) a) cw mw := ⟨inv_pour hi (by omega), hj, hR, h6⟩
    have hV : aI (aPour (x / 32 / 4 % 3).toNat (1 + x / 32 / 12 % 500) a) (x / 32 / 4 % 3).toNat = if aI a (x / 32 / 4 % 3).toNat < 1 + x / 32 / 12 % 500 then 0 else aI a (x / 32 / 4 % 3).toNat - (1 + x / 32 / 12 % 500) := va_up_self _ _ _
    rw [iI_le (by omega) (by omega) (by omega) (by omega)]
    refine ⟨fun e => g_ink hx (by omega) (by omega) (a_pour hx hi (by omega) (by omega) (by omega) (by omega) ?_), fun e => a_pour hx hi (by omega) (by omega) (by omega) (by omega) ?_⟩
    · rw [if_neg (by omega)] at hV ⊢
      intro gx lt mo ad ln PL pf pw pk lw lk ik h
      exact if_t (by rw [iI_sub]) (g_ink h (by omega) (by omega) (if_t (by rw [hV, iI_sub]) ⟨⟨_, h, hI⟩, rfl, rfl, R⟩))
    · rw [if_pos (by omega)] at hV ⊢
      intro gx lt mo ad ln PL pf pw pk lw lk ik h
      exact if_t rfl (g_ink h (by omega) (by omega) (if_t (by rw [hV]; rfl) ⟨⟨_, h, hI⟩, rfl, rfl, R⟩))
  · refine g_pen hx ?_
    refine g_ink hx a16.1 a16.2 ?_
    have hb := hi.2.2.1.2.2.2 (a.1 16).toNat
    have hI : LI (aPour (a.1 16).toNat (1 + x / 32 / 12 % 500) a) cw mw := ⟨inv_pour hi (by omega), hj, hR, h6⟩
    have hV : aI (aPour (a.1 16).toNat (1 + x / 32 / 12 % 500) a) (a.1 16).toNat = if aI a (a.1 16).toNat < 1 + x / 32 / 12 % 500 then 0 else aI a (a.1 16).toNat - (1 + x / 32 / 12 % 500) := va_up_self _ _ _
    rw [iI_le (by omega) (by omega) (by omega) (by omega)]
    refine ⟨fun e => g_ink hx a16.1 a16.2 (a_pour hx hi a16.1 a16.2 (by omega) (by omega) ?_), fun e => a_pour hx hi a16.1 a16.2 (by omega) (by omega) ?_⟩
    · rw [if_neg (by omega)] at hV ⊢
      intro gx lt mo ad ln PL pf pw pk lw lk ik h
      exact if_t (by rw [iI_sub]) (g_ink h a16.1 a16.2 (if_t (by rw [hV, iI_sub]) ⟨⟨_, h, hI⟩, rfl, rfl, R⟩))
    · rw [if_pos (by omega)] at hV ⊢
      intro gx lt mo ad ln PL pf pw pk lw lk ik h
      exact if_t rfl (g_ink h a16.1 a16.2 (if_t (by rw [hV]; rfl) ⟨⟨_, h, hI⟩, rfl, rfl, R⟩))
  · refine s_isCut hx hL ?_
    intro d gx lt mo ad ln PL pf pw pk lw lk ik cw mw h hL
    exact ⟨⟨d, h, hL⟩, rfl, rfl, R⟩
  · exact ⟨⟨a, hx, hL⟩, rfl, rfl, R, V, rfl⟩
  · exact ⟨fun _ => ⟨fun _ => ⟨⟨a, hx, hL⟩, rfl, R, V, 3 + x / 32 % 2, by omega, by omega, rfl⟩, fun _ => ⟨⟨a, hx, hL⟩, rfl, R, V, 2, by omega, by omega, rfl⟩⟩, fun _ => ⟨⟨a, hx, hL⟩, rfl, R, V, 1, by omega, by omega, rfl⟩⟩
