/-! the law's bytes -/
theorem andF : ∀ n : Fin 129, iI ((n.val : Int) - 64) &&& 255 = iI (((n.val : Int) - 64) % 256) := by decide
theorem q_and {u : Int} (h1 : -64 ≤ u) (h2 : u ≤ 64) : iI u &&& 255 = iI (u % 256) := by
  have := andF ⟨(u + 64).toNat, by omega⟩
  simp only at this
  rw [show (((u + 64).toNat : Nat) : Int) - 64 = u by omega] at this
  exact this
theorem sg_and {u : Int} (h1 : -64 ≤ u) (h2 : u ≤ 64) : sg (u % 256) = u := by
  unfold sg
  split <;> omega
theorem kB_add {a : AS} {c : Cm} (hc : okc c) : kB a ≤ kB (aAdd c a) := by
  have := ja_plan (a := a) (cn_nn hc)
  show ((cnt (aB a) 10000 : Nat) : Int) ≤ ((cnt (aPlan c a) 10000 : Nat) : Int)
  omega
theorem kB_add1 {a : AS} {c : Cm} (hc : ¬ c.1 = 2) : kB (aAdd c a) = kB a := by
  show ((cnt (aPlan c a) 10000 : Nat) : Int) = _
  unfold aPlan
  rw [if_neg hc]
  rfl
theorem kB_que {a : AS} {c : Cm} (hc : okc c) : kB a ≤ kB (aQue c a) := by
  unfold aQue
  split
  · exact kB_add hc
  · exact Int.le_refl _
theorem kB_rep {c : Cm} (hc : okc c) : ∀ (n : Nat) (a : AS), kB a ≤ kB (aRep c n a)
  | 0, _ => Int.le_refl _
  | n + 1, a => Int.le_trans (kB_que hc) (kB_rep hc n (aQue c a))
theorem f_1 {a : AS} {k : Int} (hl : (aQ a).length ≤ 7) (h6 : a.1 6 = 0) (hk : 1 ≤ k ∧ k ≤ 4) : aFeed k a = aSet 6 1 (aSet 4 k a) := by
  unfold aFeed
  rw [if_neg (by omega)]
  unfold aTake
  rw [if_pos h6]
  unfold aBeg
  rw [if_pos hk]
theorem f_2 {a : AS} {w : Int} (hl : (aQ a).length ≤ 7) (h6 : a.1 6 = 1) (h4 : a.1 4 ≤ 2) : aFeed w a = aSet 6 2 (aSet 5 w a) := by
  unfold aFeed
  rw [if_neg (by omega)]
  unfold aTake
  rw [if_neg (by omega), if_pos ⟨h6, h4⟩]
theorem f_3 {a : AS} {w : Int} (hl : (aQ a).length ≤ 7) (h6 : a.1 6 = 2 ∨ (a.1 6 = 1 ∧ 3 ≤ a.1 4)) : aFeed w a = aCore w (aSet 6 0 a) := by
  unfold aFeed
  rw [if_neg (by omega)]
  unfold aTake
  rw [if_neg (by omega), if_neg (by omega)]
section SENT
variable {E : EV} {a d : AS} {post : Int32 → PXL} {gx : Nat → Int32} {lt : Option Nat} {mo : Int32} {ad : Nat} {ln : Int32} {PL : List Nat} {pf : Nat → va_E} {pw : Nat → Int64} {pk : Int32} {lw : Nat → Int64} {lk : Int32} {ik : Nat → Int32}
theorem s_sent333 {cw mw : Nat → Int32} {k : Int} (h : RX E d gx lt ad ln PL pf pw pk lw lk ik) (hL : LI d cw mw) (hk : 1 ≤ k ∧ k ≤ 4) (h1 : kB a ≤ kB d) (h2 : k = 1 ∨ k = 3 → kB d = kB a) (hp : OL E (post 1)) : wp_L_isSent_L333 E post 1 gx lt mo ad ln PL pf pw pk lw lk ik cw mw (iI k) (iI (kB a)) := by
  have ka := kB_rng a
  have kd := kB_rng d
  have fin : post 1 gx lt mo ad ln PL pf pw pk lw lk ik cw mw := hp d _ _ _ _ _ _ _ _ _ _ _ _ _ _ h hL
  have x1 : (iI k = (1 : Int32)) ↔ k = 1 := by rw [l1, iI_eq (by omega) (by omega) (by omega) (by omega)]
  have x3 : (iI k = (3 : Int32)) ↔ k = 3 := by rw [l3, iI_eq (by omega) (by omega) (by omega) (by omega)]
  rw [wp_L_isSent_L333]
  rw [x1, x3]
  refine g_pending h (if_t (by rw [hL.2.2.2]; rfl) (g_plan h (if_f ?_ ⟨fun e => ?_, fun e => ⟨fun e3 => ?_, fun e3 => fin⟩⟩)))
  · show ¬ iI (kB d) < iI (kB a)
    rw [iI_lt (by omega) (by omega) (by omega) (by omega)]
    omega
  · exact g_plan h (if_t (show iI (kB d) = iI (kB a) by rw [h2 (Or.inl e)]) fin)
  · exact g_plan h (if_t (show iI (kB d) = iI (kB a) by rw [h2 (Or.inr e3)]) fin)
theorem s_sent300 {c : Cm} (ho : okm c) (h : RX E d gx lt ad ln PL pf pw pk lw lk ik) (hd : Inv d ∧ JA d ∧ d.1 6 = 0) (h1 : kB a ≤ kB d) (hp : OL E (post 1)) {T : Nat} (hT : T ≤ 9) : ∀ (m j : Nat) (s : AS) (cw mw : Nat → Int32), j + m = T → RA s cw mw → InvC s → (aQ s).length + m ≤ 16 → aRep c m s = d → aL s = some c → wp_L_isSent_L300 E post (m + 1) gx lt mo ad ln PL pf pw pk lw lk ik cw mw (iI 4) (iI (T : Int)) (iI (kB a)) 1 (iI (j : Int))
  | 0, j, s, cw, mw, hj, hR, hi, hl, he, hs => by
    rw [wp_L_isSent_L300]
    rw [iI_le (by omega) (by omega) (by omega) (by omega)]
    have e : s = d := he
    subst e
    exact if_t (by omega) ⟨1, s_sent333 h ⟨hd.1, hd.2.1, hR, hd.2.2⟩ (by omega) h1 (by omega) hp⟩
  | m + 1, j, s, cw, mw, hj, hR, hi, hl, he, hs => by
    have IH := s_sent300 ho h hd h1 hp hT m (j + 1)
    rw [wp_L_isSent_L300]
    rw [iI_le (by omega) (by omega) (by omega) (by omega)]
    refine if_f (by omega) (if_f (by decide) ?_)
    have hm := hR.1.2.2.1
    rw [hs] at hm
    obtain ⟨m2, m3, m4⟩ := hm
    simp only [t2, t3, t4]
    rw [m2, m3, m4]
    refine s_queues hR hi.1 (by omega) (okr_m ho) fun b hb cw' mw' hR' => ?_
    have ei : iI (j : Int) + 1 = iI ((j + 1 : Nat) : Int) := by rw [l1, iI_add]; rfl
    have eq : (if b = true then aAdd c s else aErr s) = aQue c s := by unfold aQue; rw [hb]
    rw [eq] at hR'
    rw [ei]
    exact IH (aQue c s) cw' mw' (by omega) hR' (invC_que hi (Or.inr ho)) (by have := len_que s c; omega) he (by rw [lat_que]; exact hs)
theorem s_isSent {cw mw : Nat → Int32} {k u v : Int} (h : RX E a gx lt ad ln PL pf pw pk lw lk ik) (hL : LI a cw mw) (hk : 1 ≤ k ∧ k ≤ 4) (hu : -35 ≤ u ∧ u ≤ 35) (hv : -35 ≤ v ∧ v ≤ 35) (hu3 : 3 ≤ k → 0 ≤ u) (hp : OL E (post 1)) : wp_L_isSent E post gx lt mo ad ln PL pf pw pk lw lk ik cw mw (iI k) (iI u) (iI v) := by
  obtain ⟨hi, hj, hR, h6⟩ := id hL
  have hl := hi.2.2.2.2
  unfold wp_L_isSent
  refine g_plan h ?_
  rw [q_and (by omega) (by omega), q_and (by omega) (by omega)]
  simp only [t0, t1, t2, t3, t4]
  have x8 : ((8 : Int32) ≤ mw 0) ↔ 8 ≤ (aQ a).length := by rw [hR.1.1, l8, iI_le (by omega) (by omega) (by omega) (by omega)]; omega
  rw [x8]
  refine ⟨fun e8 => ?_, fun e8 => ?_⟩
  · have ef : ∀ w, aFeed w a = a := fun w => if_pos e8
    refine s_all h hi (a_feed h hi (by omega) (by omega) ?_)
    rw [if_pos e8, ef]
    intro gx lt mo ad ln PL pf pw pk lw lk ik h'
    refine if_t rfl (a_feed h' hi (by omega) (by omega) ?_)
    rw [if_pos e8, ef]
    intro gx lt mo ad ln PL pf pw pk lw lk ik h'
    exact if_t rfl (s_all h' hi (if_t (cmp_self _) (hp a _ _ _ _ _ _ _ _ _ _ _ _ _ _ h' hL)))
  · have l7 : (aQ a).length ≤ 7 := by omega
    have x3 : ((3 : Int32) ≤ iI k) ↔ 3 ≤ k := by rw [l3, iI_le (by omega) (by omega) (by omega) (by omega)]
    have y3 : (iI k = (3 : Int32)) ↔ k = 3 := by rw [l3, iI_eq (by omega) (by omega) (by omega) (by omega)]
    have y0 : (iI u ≤ (0 : Int32)) ↔ u ≤ 0 := by rw [l0, iI_le (by omega) (by omega) (by omega) (by omega)]
    have y10 : ((10 : Int32) ≤ iI u) ↔ 10 ≤ u := by rw [l10, iI_le (by omega) (by omega) (by omega) (by omega)]
    have e1 := f_1 l7 h6 hk
    have hi1 := inv_feed hi (v := k) (by omega) (by omega)
    rw [e1] at hi1
    refine a_feed h hi (by omega) (by omega) ?_
    rw [if_neg e8, e1]
    intro gx lt mo ad ln PL pf pw pk lw lk ik h'
    refine if_t rfl (g_pending h' (if_t rfl (g_queued h' (if_t (show iI ((aQ a).length : Int) = mw 0 from hR.1.1.symm) ?_))))
    rw [x3, y3]
    refine ⟨fun e3 => ?_, fun e3 => ?_⟩
    · have hu3 := hu3 e3
      have uu : u % 256 = u := by omega
      have e2 : aFeed (u % 256) (aSet 6 1 (aSet 4 k a)) = aCore (u % 256) (aSet 6 0 (aSet 6 1 (aSet 4 k a))) := f_3 l7 (Or.inr ⟨rfl, e3⟩)
      have hi2 := inv_feed hi1 (v := u % 256) (by omega) (by omega)
      rw [e2] at hi2
      have hC : InvC (aSet 6 0 (aSet 6 1 (aSet 4 k a))) := invC_set (invC_set (invC_set (inv_C hi) (by omega)) (by omega)) (by omega)
      have hJb : JA (aSet 6 0 (aSet 6 1 (aSet 4 k a))) := hj
      have hRb : RA (aSet 6 0 (aSet 6 1 (aSet 4 k a))) cw mw := hR
      have hB : kB (aSet 6 0 (aSet 6 1 (aSet 4 k a))) = kB a := rfl
      have hLb : aL (aSet 6 0 (aSet 6 1 (aSet 4 k a))) = aL a := rfl
      have lb : (aQ (aSet 6 0 (aSet 6 1 (aSet 4 k a)))).length ≤ 7 := l7
      have h4b : (aSet 6 0 (aSet 6 1 (aSet 4 k a))).1 4 = k := rfl
      have h6b : (aSet 6 0 (aSet 6 1 (aSet 4 k a))).1 6 = 0 := rfl
      have h7b : (aSet 6 0 (aSet 6 1 (aSet 4 k a))).1 7 = a.1 7 := rfl
      refine a_feed h' hi1 (by omega) (by omega) ?_
      rw [if_neg (show ¬ 8 ≤ (aQ (aSet 6 1 (aSet 4 k a))).length from e8), e2]
      generalize (aSet 6 0 (aSet 6 1 (aSet 4 k a))) = b at hi2 hC hJb hRb hB hLb lb h4b h6b h7b ⊢
      clear h' hi1 e2 e1
      rw [uu] at hi2 ⊢
      unfold aCore at hi2 ⊢
      rw [h4b] at hi2 ⊢
      by_cases k4 : k = 4
      · rw [if_pos k4] at hi2 ⊢
        intro gx lt mo ad ln PL pf pw pk lw lk ik h'
        refine if_t rfl (if_f (by omega) ?_)
        rw [y0, y10]
        have bad : ∀ {d : AS}, d = aErr b → RX E d gx lt ad ln PL pf pw pk lw lk ik → Inv d → ∃ n : Nat, wp_L_isSent_L300 E post n gx lt mo ad ln PL pf pw pk lw lk ik cw (upd mw 1 (mw 1 + 1)) (iI k) (iI u) (iI (cnt (aB a) 10000 : Nat)) 0 0 := by
          intro d ed hx hd
          subst ed
          have Re : RA (aErr b) cw (upd mw 1 (mw 1 + 1)) := by
            obtain ⟨⟨h0, h1, h2, h5, h6, h7⟩, hq⟩ := hRb
            refine ⟨⟨h0, ?_, rlm_up h2 fun i h1 h2 => if_neg (by omega), h5, h6, h7⟩, hq⟩
            show mw 1 + 1 = iI (b.1 7 + 1)
            rw [h1, l1, iI_add]
          have Z : ∃ n : Nat, wp_L_isSent_L333 E post n gx lt mo ad ln PL pf pw pk lw lk ik cw (upd mw 1 (mw 1 + 1)) (iI k) (iI (cnt (aB a) 10000 : Nat)) :=
            ⟨1, s_sent333 (a := a) hx ⟨hd, hJb, Re, h6b⟩ hk (by rw [← hB]; exact Int.le_refl _) (by omega) hp⟩
          refine ⟨1, ?_⟩
          rw [wp_L_isSent_L300]
          exact ⟨fun _ => Z, fun _ => if_t rfl Z⟩
        unfold aRpt at hi2 h'
        by_cases hr : 1 ≤ u ∧ u ≤ 9
        · rw [if_pos hr, hLb] at hi2 h'
          refine if_f (by omega) (if_f (by omega) ?_)
          have hm := hRb.1.2.2.1
          rw [hLb] at hm
          cases hz : aL a with
          | none =>
            rw [hz] at hi2 h' hm
            have hm : mw 2 = iI 0 := hm
            exact if_t (by rw [hm]; decide) (bad rfl h' hi2)
          | some c =>
            rw [hz] at hi2 h' hm
            have ho := hi.1.2.1 c hz
            refine if_f ?_ ⟨u.toNat + 1, ?_⟩
            · rw [hm.1, l0, iI_le (by have := ho.1; omega) (by have := ho.1; omega) (by omega) (by omega)]
              have := ho.1
              omega
            · have em : upd mw 1 (mw 1 + 0) = mw := by
                funext i
                unfold upd
                split
                · rename_i e; rw [e, hRb.1.2.1, l0, iI_add, Int.add_zero]
                · rfl
              rw [em, k4]
              have hJd := ja_rep (Or.inr ho) u.toNat hJb hC
              have h6d : (aRep c u.toNat b).1 6 = 0 := by rw [sc_rep c (by omega)]; exact h6b
              have key := s_sent300 (a := a) (mo := mo) ho h' ⟨hi2, hJd, h6d⟩ (by rw [← hB]; exact kB_rep (Or.inr ho) _ _) hp (T := u.toNat) (by omega) u.toNat 0 b cw mw (by omega) hRb hC (by omega) rfl (by rw [hLb]; exact hz)
              rw [show ((u.toNat : Nat) : Int) = u by omega] at key
              exact key
        · rw [if_neg hr] at hi2 h'
          refine ⟨fun _ => bad rfl h' hi2, fun n1 => if_t (by omega) (bad rfl h' hi2)⟩
      · have k3 : k = 3 := by omega
        rw [if_neg k4, if_pos k3] at hi2 ⊢
        intro gx lt mo ad ln PL pf pw pk lw lk ik h'
        refine if_t rfl (if_t k3 ?_)
        rw [l3, l0]
        have q := s_queues (E := E) (c := (3, u, 0)) (post := fun (_ : Int32) (cw_1 : Nat → Int32) (mw_1 : Nat → Int32) => (∃ n : Nat, wp_L_isSent_L333 E post n gx lt mo ad ln PL pf pw pk lw lk ik cw_1 mw_1 (iI k) (iI (cnt (aB a) 10000 : Nat)))) hRb hC.1 (by omega) (Or.inl ⟨rfl, hu3, by show u ≤ 255; omega, rfl⟩) (fun b' hb cw' mw' hR' => by
          have eq : (if b' = true then aAdd (3, u, 0) b else aErr b) = aQue (3, u, 0) b := by unfold aQue; rw [hb]
          rw [eq] at hR'
          have hJd : JA (aQue (3, u, 0) b) ∧ kB (aQue (3, u, 0) b) = kB b := by
            unfold aQue
            split
            · rename_i hr
              have hr2 : 0 ≤ u ∧ u ≤ 2 := by
                have : decide (0 ≤ u ∧ u ≤ 2) = true := hr
                exact of_decide_eq_true this
              exact ⟨ja_add hJb hC (Or.inl ⟨rfl, hr2.1, hr2.2, rfl⟩), kB_add1 (by show ¬ (3 : Int) = 2; omega)⟩
            · exact ⟨hJb, rfl⟩
          have h6d : (aQue (3, u, 0) b).1 6 = 0 := by rw [sc_que b _ (by omega)]; exact h6b
          exact ⟨1, s_sent333 (a := a) h' ⟨hi2, hJd.1, hR', h6d⟩ hk (by rw [hJd.2, hB]; exact Int.le_refl _) (fun _ => by rw [hJd.2, hB]) hp⟩)
        exact q
    · have e2 : aFeed (u % 256) (aSet 6 1 (aSet 4 k a)) = aSet 6 2 (aSet 5 (u % 256) (aSet 6 1 (aSet 4 k a))) := f_2 l7 rfl (by show k ≤ 2; omega)
      have hi2 := inv_feed hi1 (v := u % 256) (by omega) (by omega)
      rw [e2] at hi2
      refine a_feed h' hi1 (by omega) (by omega) ?_
      rw [if_neg (show ¬ 8 ≤ (aQ (aSet 6 1 (aSet 4 k a))).length from e8), e2]
      clear h'
      intro gx lt mo ad ln PL pf pw pk lw lk ik h'
      refine if_t rfl (g_pending h' (if_t rfl (g_errors h' (if_t (show iI (a.1 7) = mw 1 from hR.1.2.1.symm) ?_))))
      have e4 : aFeed (v % 256) (aSet 6 2 (aSet 5 (u % 256) (aSet 6 1 (aSet 4 k a)))) = aCore (v % 256) (aSet 6 0 (aSet 6 2 (aSet 5 (u % 256) (aSet 6 1 (aSet 4 k a))))) := f_3 l7 (Or.inl rfl)
      have hi3 := inv_feed hi2 (v := v % 256) (by omega) (by omega)
      rw [e4] at hi3
      have hC : InvC (aSet 6 0 (aSet 6 2 (aSet 5 (u % 256) (aSet 6 1 (aSet 4 k a))))) := invC_set (invC_set (invC_set (invC_set (invC_set (inv_C hi) (by omega)) (by omega)) (by omega)) (by omega)) (by omega)
      have hJb : JA (aSet 6 0 (aSet 6 2 (aSet 5 (u % 256) (aSet 6 1 (aSet 4 k a))))) := hj
      have hRb : RA (aSet 6 0 (aSet 6 2 (aSet 5 (u % 256) (aSet 6 1 (aSet 4 k a))))) cw mw := hR
      have hB : kB (aSet 6 0 (aSet 6 2 (aSet 5 (u % 256) (aSet 6 1 (aSet 4 k a))))) = kB a := rfl
      have lb : (aQ (aSet 6 0 (aSet 6 2 (aSet 5 (u % 256) (aSet 6 1 (aSet 4 k a)))))).length ≤ 7 := l7
      have h4b : (aSet 6 0 (aSet 6 2 (aSet 5 (u % 256) (aSet 6 1 (aSet 4 k a))))).1 4 = k := rfl
      have h5b : (aSet 6 0 (aSet 6 2 (aSet 5 (u % 256) (aSet 6 1 (aSet 4 k a))))).1 5 = u % 256 := rfl
      have h6b : (aSet 6 0 (aSet 6 2 (aSet 5 (u % 256) (aSet 6 1 (aSet 4 k a))))).1 6 = 0 := rfl
      refine a_feed h' hi2 (by omega) (by omega) ?_
      rw [if_neg (show ¬ 8 ≤ (aQ (aSet 6 2 (aSet 5 (u % 256) (aSet 6 1 (aSet 4 k a))))).length from e8), e4]
      generalize (aSet 6 0 (aSet 6 2 (aSet 5 (u % 256) (aSet 6 1 (aSet 4 k a))))) = b at hi3 hC hJb hRb hB lb h4b h5b h6b ⊢
      clear h' hi1 hi2 e2 e1 e4
      unfold aCore at hi3 ⊢
      rw [h4b, h5b, if_neg (by omega), if_neg (by omega), sg_and (by omega) (by omega), sg_and (by omega) (by omega)] at hi3 ⊢
      intro gx lt mo ad ln PL pf pw pk lw lk ik h'
      refine if_t rfl ?_
      refine s_queues (c := (k, u, v)) hRb hC.1 (by omega) (Or.inr ⟨by show k = 1 ∨ k = 2; omega, by show -128 ≤ u; omega, by show u ≤ 127; omega, by show -128 ≤ v; omega, by show v ≤ 127; omega⟩) fun b' hb cw' mw' hR' => ?_
      unfold aMot at hi3 h'
      rw [← hb] at hi3 h'
      cases b' with
      | false =>
        rw [if_neg (by decide)] at hi3 h' hR' ⊢
        exact if_t rfl ⟨1, s_sent333 (a := a) h' ⟨hi3, hJb, hR', h6b⟩ hk (by rw [← hB]; exact Int.le_refl _) (fun _ => hB) hp⟩
      | true =>
        rw [if_pos rfl] at hi3 h' hR' ⊢
        have hm := okm_right (A := b.1) (k := k) (u := u) (v := v) (by omega) (by omega) (by omega) (by omega) (by omega) hb.symm
        refine if_f (by decide) ⟨1, s_sent333 (a := a) h' ⟨hi3, ja_add hJb hC (Or.inr hm), ?_, ?_⟩ hk (by rw [← hB]; exact kB_add (Or.inr hm)) (fun e => ?_) hp⟩
        · obtain ⟨⟨h0, h1, h2, h5, h6, h7⟩, hq⟩ := hR'
          exact ⟨⟨h0, h1, ⟨rfl, rfl, rfl⟩, h5, h6, h7⟩, hq⟩
        · show (aAdd (k, u, v) b).1 6 = 0
          have := sc_que b (k, u, v) (k := 6) (by omega)
          unfold aQue at this
          rw [← hb, if_pos rfl] at this
          rw [this]; exact h6b
        · show kB (aAdd (k, u, v) b) = kB a
          rw [kB_add1 (by show ¬ k = 2; omega)]
          exact hB
end SENT
