abbrev wCM (E : EV) (bx : Nat → Nat) (cw : Nat → Int32) (mw : Nat → Int32) : va_W := [((bx 0), .inl (eC E 0, 64, .inl cw)), ((bx 1), .inl (eC E 0, 8, .inl mw))]
abbrev wLP (E : EV) (ax : Nat → Nat) (bx : Nat → Nat) (gx : Nat → Int32) (lt : Option Nat) (mo : Int32) (ad : Nat) (ln : Int32) (PL : List Nat) (pf : Nat → va_E) (pw : Nat → Int64) (pk : Int32) (lw : Nat → Int64) (lk : Int32) (ik : Nat → Int32) (cw : Nat → Int32) (mw : Nat → Int32) : va_W := ([((ax 0), .inr (3, [.ref (ax 1), .ref (ax 2), .ref (ax 4), .ref (ax 6), .int (gx 4), .int (gx 5), .int (gx 6), .int (gx 7), va_rf lt, .int (gx 9), .int (gx 10), .int (gx 11), .int (gx 12), .int (gx 13), .int (gx 14), .int (gx 15), .int (gx 16), .int (gx 17), .int (gx 18)])), ((ax 1), .inr (0, [.int mo, .ref ad, .int ln])), ((ax 2), .inr (2, [.ref (ax 3), .int pk])), ((ax 3), .inl (eC E 1, 157, .inr (.inl pw))), ((ax 4), .inr (2, [.ref (ax 5), .int lk])), ((ax 5), .inl (eC E 1, 157, .inr (.inl lw))), ((ax 6), .inl (eC E 0, 3, .inl ik)), ((bx 0), .inl (eC E 0, 64, .inl cw)), ((bx 1), .inl (eC E 0, 8, .inl mw))] ++ va_pl PL pf)
theorem goodSW {own : String} {index : Nat} {y : MethodName} {c : Cond} (hl : Cond.methodLink own index y ∈ ALLW) (hs : Cond.static y ∈ ALLW) (hi : Cond.initialized y.cls ∈ ALLW) (hc : c ∈ ALLW) : GoodIn ALLW (va_wsS own index y (c :: ALLW)) := by
  intro w hw
  have hm : w ∈ ALLW := by
    unfold va_wsS at hw
    rcases List.mem_append.mp hw with h | h
    · simp only [List.mem_cons, List.not_mem_nil, or_false] at h
      rcases h with rfl | rfl | rfl
      · exact hl
      · exact hs
      · exact hi
    · rcases List.mem_cons.mp h with rfl | h
      · exact hc
      · exact h
  exact ⟨hm, good_of_word (List.mem_filter.mp hm).2⟩
theorem pcSW {R : Room} {s : State} {args : Array Value} {own : String} {index maxL mc ms n : Nat} {y : MethodName} {bytes : ByteArray} {ret : Option FieldType} {hh : List (Nat × Nat × Nat × Nat)} {rm : Room} (hta : ∀ w ∈ ALLW, w.before args s = true) (hcode : Cond.codeWith y bytes maxL ret hh ∈ ALLW) (hlink : Cond.methodLink own index y ∈ ALLW) (hini : Cond.initialized y.cls ∈ ALLW) (hstat : Cond.static y ∈ ALLW) (hrc : rm.cells = mc) (hrs : rm.slots = ms) (hd : hdP y n) (hR : rm.frames + 1 ≤ R.frames ∧ 8 + (maxL + 11) + rm.locals ≤ R.locals) : vx_CSW R s args own index y bytes maxL ret hh (Cond.codeWith y bytes maxL ret hh :: ALLW) rm mc ms n := vx_cwSW n hta (goodSW hlink hstat hini hcode) rfl hrc hrs hd hR
def preX (E : EV) (sb L : Nat) (sx : Nat → Int32) : State → Prop := fun U => va_X sb L sx U U.heap ∧ KE E U
theorem preX.call {E : EV} {sb L : Nat} {sx : Nat → Int32} {U : State} {g : JFrame} {mk : MethodId} {a : Array Value} (h : preX E sb L sx U) : preX E sb L sx (U.calling g mk a) := ⟨va_X.moved (u := U) (U := U.calling g mk a) (Vm.Alike.refl U.vm) h.1, h.2.call⟩
theorem fbX {E : EV} {sb L : Nat} {sx : Nat → Int32} {av : List Value} : FrameBlind (va_Pc av (preX E sb L sx)) := fun _ _ _ _ q => ⟨q.1, q.2.call⟩
theorem preX.mk {E : EV} {sb L : Nat} {sx : Nat → Int32} {s U : State} {H : Heap} (hX : va_X sb L sx s H) (hK : KE E s) (hU : U.heap = H) (hW : s.WarmedH U.vm) : preX E sb L sx U := ⟨by rw [hU]; exact hX.moved hW.alike, hK.warm hW⟩
def wp_L_dice (E : EV) (post : Int32 → Prop) (sn : Nat) (sx : Nat → Int32) (p0 : Int32) : Prop := (((Int32.ofNat sn) ≤ p0 → post ((((1617178157 * (p0 + 263)) + ((679 * p0) * p0)) + 163) &&& 2147483647)) ∧ (¬ (Int32.ofNat sn) ≤ p0 → (vp_in p0 sn ∧ post ((sx p0.toNatClampNeg) &&& 2147483647))))
set_option maxHeartbeats 4000000 in
set_option maxRecDepth 100000 in
theorem c_L_dice (E : EV) (l : Launch) (sb : Nat) (sn : Nat) (sx : Nat → Int32) (p0 : Int32) (post : Int32 → Prop) (hw : wp_L_dice E post sn sx p0) : Met l yL_dice (Cond.code yL_dice cL_dice 2 (some .int) :: ALLW) ({ frames := 0, cells := 0, slots := 0, locals := 0 } : Room) (va_Pc [.ref sb, .int p0] (preX E sb sn sx)) (vp_Si post) 0 0 (fun _ => False) := by
  refine Met.ofW (cc := cL_dice) (maxL := 2) (ret := (some .int)) (by decide) rfl ?_
  intro p e s m args below meth c s₁ B hml hv
  obtain ⟨rfl, hpre⟩ := hv
  have hx := B.exec
  have hb := B.bytes
  have hr := B.returns
  have hlocks := B.notSynchronized
  have hts := atoms_spec (ws := (Cond.code yL_dice cL_dice 2 (some .int) :: ALLW)) B.pre
  have hta : ∀ w ∈ ALLW, w.before ([.ref sb, .int p0] : List Value).toArray s = true := fun w h => hts w (List.mem_cons_of_mem _ h)
  have hown : s.vm.findClass RL = some m.cls := findClass_of_methodNamed B.named
  obtain ⟨hX, hKE⟩ := hpre
  have hbl : sb < s.heap.size := by
    obtain ⟨scr, h9, -⟩ := hX
    exact (Array.getElem?_eq_some_iff.mp h9).1
  have hl := lv_entry ([.ref sb, .int p0]) (n := 2) (Nat.le_of_ble_eq_true rfl)
  rw [lg_entry_eq]
  generalize (lg_sl ([.ref sb, .int p0]) ++ List.replicate (2 - (lg_sl ([.ref sb, .int p0])).length) Slot.unset).toArray = ls at hl ⊢
  have hl : lv_has ls 2 [(0, .ref sb), (1, .int p0)] := hl
  unfold wp_L_dice at hw
  refine lv_iload_n hx hb dL_dice_0 rfl (lv_at hl 1 rfl) ?_
  refine lv_aload_n hx hb dL_dice_1 rfl (lv_at hl 0 rfl) ?_
  refine va_slen hx hb hX hbl (A := fun _ => False) (fun h => h) va_S.rf dL_dice_2 ?_
  refine lv_icmp_ge (tgt := 12) hx hb dL_dice_3 (by decide) (fun c_708 => ?_) (fun c_708 => ?_)
  · have hw := hw.1 c_708
    refine lv_ldc hx hb hown (v := 1617178157) (hta _ tw_227) dL_dice_12 ?_
    refine lv_iload_n hx hb dL_dice_14 rfl (lv_at hl 1 rfl) ?_
    refine lv_sipush (v := 263) hx hb dL_dice_15 (by decide) ?_
    refine lv_iadd hx hb dL_dice_18 ?_
    refine lv_imul hx hb dL_dice_19 ?_
    refine lv_sipush (v := 679) hx hb dL_dice_20 (by decide) ?_
    refine lv_iload_n hx hb dL_dice_23 rfl (lv_at hl 1 rfl) ?_
    refine lv_imul hx hb dL_dice_24 ?_
    refine lv_iload_n hx hb dL_dice_25 rfl (lv_at hl 1 rfl) ?_
    refine lv_imul hx hb dL_dice_26 ?_
    refine lv_iadd hx hb dL_dice_27 ?_
    refine lv_sipush (v := 163) hx hb dL_dice_28 (by decide) ?_
    refine lv_iadd hx hb dL_dice_31 ?_
    refine lv_ldc hx hb hown (v := 2147483647) (hta _ tw_228) dL_dice_32 ?_
    refine lv_iand hx hb dL_dice_34 ?_
    exact W.iret (v := ((((1617178157 * (p0 + 263)) + ((679 * p0) * p0)) + 163) &&& 2147483647)) hx hb hr (fun t ht hW => ⟨((((1617178157 * (p0 + 263)) + ((679 * p0) * p0)) + 163) &&& 2147483647), rfl, hw, ht⟩) (fun q hq => nomatch hq) dL_dice_35
  · have hw := hw.2 c_708
    refine lv_aload_n hx hb dL_dice_6 rfl (lv_at hl 0 rfl) ?_
    refine lv_iload_n hx hb dL_dice_7 rfl (lv_at hl 1 rfl) ?_
    obtain ⟨hi_709, hw⟩ := hw
    refine va_sld hx hb hX hbl (A := fun _ => False) (fun h => h) va_S.rf hi_709 dL_dice_8 ?_
    refine lv_goto (tgt := 32) hx hb dL_dice_9 (by decide) ?_
    refine lv_ldc hx hb hown (v := 2147483647) (hta _ tw_228) dL_dice_32 ?_
    refine lv_iand hx hb dL_dice_34 ?_
    exact W.iret (v := ((sx p0.toNatClampNeg) &&& 2147483647)) hx hb hr (fun t ht hW => ⟨((sx p0.toNatClampNeg) &&& 2147483647), rfl, hw, ht⟩) (fun q hq => nomatch hq) dL_dice_35
def wp_X2_ink_r (E : EV) (post : Int32 → Prop) (gx : Nat → Int32) (lt : Option Nat) (mo : Int32) (ad : Nat) (ln : Int32) (PL : List Nat) (pf : Nat → va_E) (pw : Nat → Int64) (pk : Int32) (lw : Nat → Int64) (lk : Int32) (ik : Nat → Int32) (p0 : Int32) : Prop := (wp_X2_hasPen E (fun r_710 : Int32 => ((r_710 = 0 → False) ∧ (¬ (r_710 = 0) → (wp_X2_inkOf E (fun r_712 : Int32 => post r_712) gx lt mo ad ln PL pf pw pk lw lk ik p0)))) p0)
set_option maxHeartbeats 4000000 in
set_option maxRecDepth 100000 in
theorem c_X2_ink_r (E : EV) (l : Launch) (ax : Nat → Nat) (gx : Nat → Int32) (lt : Option Nat) (mo : Int32) (ad : Nat) (ln : Int32) (PL : List Nat) (pf : Nat → va_E) (pw : Nat → Int64) (pk : Int32) (lw : Nat → Int64) (lk : Int32) (ik : Nat → Int32) (p0 : Int32) (post : Int32 → Prop) (hw : wp_X2_ink_r E post gx lt mo ad ln PL pf pw pk lw lk ik p0) : Met l yX2_ink (Cond.code yX2_ink cX2_ink 2 (some .int) :: ALLW) ({ frames := 1, cells := 0, slots := 0, locals := 21 } : Room) (va_Pc [.ref (ax 0), .int p0] (preR E (wX E ax gx lt mo ad ln PL pf pw pk lw lk ik))) (vp_Si post) 0 0 (fun _ => False) := by
  refine Met.ofW (cc := cX2_ink) (maxL := 2) (ret := (some .int)) (by decide) rfl ?_
  intro p e s m args below meth c s₁ B hml hv
  obtain ⟨rfl, hpre⟩ := hv
  have hx := B.exec
  have hb := B.bytes
  have hr := B.returns
  have hlocks := B.notSynchronized
  have hts := atoms_spec (ws := (Cond.code yX2_ink cX2_ink 2 (some .int) :: ALLW)) B.pre
  have hta : ∀ w ∈ ALLW, w.before ([.ref (ax 0), .int p0] : List Value).toArray s = true := fun w h => hts w (List.mem_cons_of_mem _ h)
  have hown : s.vm.findClass RX2 = some m.cls := findClass_of_methodNamed B.named
  obtain ⟨hP, hKE⟩ := hpre
  have hP : va_P (eD E) vwCl ([((ax 0), .inr (3, [.ref (ax 1), .ref (ax 2), .ref (ax 4), .ref (ax 6), .int (gx 4), .int (gx 5), .int (gx 6), .int (gx 7), va_rf lt, .int (gx 9), .int (gx 10), .int (gx 11), .int (gx 12), .int (gx 13), .int (gx 14), .int (gx 15), .int (gx 16), .int (gx 17), .int (gx 18)])), ((ax 1), .inr (0, [.int mo, .ref ad, .int ln])), ((ax 2), .inr (2, [.ref (ax 3), .int pk])), ((ax 3), .inl (eC E 1, 157, .inr (.inl pw))), ((ax 4), .inr (2, [.ref (ax 5), .int lk])), ((ax 5), .inl (eC E 1, 157, .inr (.inl lw))), ((ax 6), .inl (eC E 0, 3, .inl ik))] ++ va_pl PL pf) s.heap := hP
  have hl := lv_entry ([.ref (ax 0), .int p0]) (n := 2) (Nat.le_of_ble_eq_true rfl)
  rw [lg_entry_eq]
  generalize (lg_sl ([.ref (ax 0), .int p0]) ++ List.replicate (2 - (lg_sl ([.ref (ax 0), .int p0])).length) Slot.unset).toArray = ls at hl ⊢
  have hl : lv_has ls 2 [(0, .ref (ax 0)), (1, .int p0)] := hl
  unfold wp_X2_ink_r at hw
  refine lv_iload_n hx hb dX2_ink_0 rfl (lv_at hl 1 rfl) ?_
  have hPc : va_P (eD E) vwCl [] s.heap := va_P_nil
  refine vp_callSi (va_Run.run (va_runS (As := [.int p0]) (rest := []) ⟨hx, hb, hml, hown, hta⟩ (c_X2_hasPen E l p0 _ hw) (pcS (n := 1) hta tw_144 tw_142 tw_1 tw_143 rfl rfl hd_X2_hasPen ⟨Nat.le_of_ble_eq_true rfl, Nat.le_of_ble_eq_true rfl⟩) ⟨fbR, fun U hU hW => ⟨rfl, preR.mk hPc hKE hU hW⟩⟩ rfl rfl hl.1 rfl (lv_room (Nat.le_of_ble_eq_true rfl)) dX2_ink_1 ⟨Nat.le_of_ble_eq_true rfl, Nat.le_of_ble_eq_true rfl⟩)) (fun r_710 hw => ?_)
  refine lv_if_ne (tgt := 17) hx hb dX2_ink_4 (by decide) (fun c_711 => ?_) (fun c_711 => ?_)
  · have hw := hw.2 c_711
    refine lv_aload_n hx hb dX2_ink_17 rfl (lv_at hl 0 rfl) ?_
    refine lv_iload_n hx hb dX2_ink_18 rfl (lv_at hl 1 rfl) ?_
    have hPc : va_P (eD E) vwCl (wX E ax gx lt mo ad ln PL pf pw pk lw lk ik) s.heap := hP
    refine vp_callSi (va_Run.run (va_runV (As := [.int p0]) (rest := []) ⟨hx, hb, hml, hown, hta⟩ (c_X2_inkOf E l ax gx lt mo ad ln PL pf pw pk lw lk ik p0 _ hw) (pcV (n := 1) hta tw_215 tw_212 tw_1 tw_214 tp_1 rfl rfl hd_X2_inkOf ⟨Nat.le_of_ble_eq_true rfl, Nat.le_of_ble_eq_true rfl⟩) ⟨fbR, va_recv hKE.1 hP (ci := 3) (q0 := 0) rfl rfl, fun U hU hW => ⟨rfl, preR.mk hPc hKE hU hW⟩⟩ rfl rfl hl.1 rfl (lv_room (Nat.le_of_ble_eq_true rfl)) dX2_ink_19 ⟨Nat.le_of_ble_eq_true rfl, Nat.le_of_ble_eq_true rfl⟩)) (fun r_712 hw => ?_)
    exact W.iret (v := r_712) hx hb hr (fun t ht hW => ⟨r_712, rfl, hw, ht⟩) (fun q hq => nomatch hq) dX2_ink_22
  · have hw := hw.1 c_711
    exact hw.elim
def wp_X2_isMarked_r (E : EV) (post : Int32 → Prop) (gx : Nat → Int32) (lt : Option Nat) (mo : Int32) (ad : Nat) (ln : Int32) (PL : List Nat) (pf : Nat → va_E) (pw : Nat → Int64) (pk : Int32) (lw : Nat → Int64) (lk : Int32) (ik : Nat → Int32) (p0 : Int32) (p1 : Int32) : Prop := (wp_X2_hasCell E (fun r_713 : Int32 => ((r_713 = 0 → False) ∧ (¬ (r_713 = 0) → (wp_X1_hasMark E (fun r_715 : Int32 => (narrow .boolean (.int r_715) = .int r_715 ∧ post r_715)) pw pk p0 p1)))) p0 p1)
set_option maxHeartbeats 4000000 in
set_option maxRecDepth 100000 in
theorem c_X2_isMarked_r (E : EV) (l : Launch) (ax : Nat → Nat) (gx : Nat → Int32) (lt : Option Nat) (mo : Int32) (ad : Nat) (ln : Int32) (PL : List Nat) (pf : Nat → va_E) (pw : Nat → Int64) (pk : Int32) (lw : Nat → Int64) (lk : Int32) (ik : Nat → Int32) (p0 : Int32) (p1 : Int32) (post : Int32 → Prop) (hw : wp_X2_isMarked_r E post gx lt mo ad ln PL pf pw pk lw lk ik p0 p1) : Met l yX2_isMarked (Cond.code yX2_isMarked cX2_isMarked 3 (some .boolean) :: ALLW) ({ frames := 3, cells := 0, slots := 0, locals := 65 } : Room) (va_Pc [.ref (ax 0), .int p0, .int p1] (preR E (wX E ax gx lt mo ad ln PL pf pw pk lw lk ik))) (vp_Si post) 0 0 (fun _ => False) := by
  refine Met.ofW (cc := cX2_isMarked) (maxL := 3) (ret := (some .boolean)) (by decide) rfl ?_
  intro p e s m args below meth c s₁ B hml hv
  obtain ⟨rfl, hpre⟩ := hv
  have hx := B.exec
  have hb := B.bytes
  have hr := B.returns
  have hlocks := B.notSynchronized
  have hts := atoms_spec (ws := (Cond.code yX2_isMarked cX2_isMarked 3 (some .boolean) :: ALLW)) B.pre
  have hta : ∀ w ∈ ALLW, w.before ([.ref (ax 0), .int p0, .int p1] : List Value).toArray s = true := fun w h => hts w (List.mem_cons_of_mem _ h)
  have hown : s.vm.findClass RX2 = some m.cls := findClass_of_methodNamed B.named
  obtain ⟨hP, hKE⟩ := hpre
  have hP : va_P (eD E) vwCl ([((ax 0), .inr (3, [.ref (ax 1), .ref (ax 2), .ref (ax 4), .ref (ax 6), .int (gx 4), .int (gx 5), .int (gx 6), .int (gx 7), va_rf lt, .int (gx 9), .int (gx 10), .int (gx 11), .int (gx 12), .int (gx 13), .int (gx 14), .int (gx 15), .int (gx 16), .int (gx 17), .int (gx 18)])), ((ax 1), .inr (0, [.int mo, .ref ad, .int ln])), ((ax 2), .inr (2, [.ref (ax 3), .int pk])), ((ax 3), .inl (eC E 1, 157, .inr (.inl pw))), ((ax 4), .inr (2, [.ref (ax 5), .int lk])), ((ax 5), .inl (eC E 1, 157, .inr (.inl lw))), ((ax 6), .inl (eC E 0, 3, .inl ik))] ++ va_pl PL pf) s.heap := hP
  have hl := lv_entry ([.ref (ax 0), .int p0, .int p1]) (n := 3) (Nat.le_of_ble_eq_true rfl)
  rw [lg_entry_eq]
  generalize (lg_sl ([.ref (ax 0), .int p0, .int p1]) ++ List.replicate (3 - (lg_sl ([.ref (ax 0), .int p0, .int p1])).length) Slot.unset).toArray = ls at hl ⊢
  have hl : lv_has ls 3 [(0, .ref (ax 0)), (1, .int p0), (2, .int p1)] := hl
  unfold wp_X2_isMarked_r at hw
  refine lv_iload_n hx hb dX2_isMarked_0 rfl (lv_at hl 1 rfl) ?_
  refine lv_iload_n hx hb dX2_isMarked_1 rfl (lv_at hl 2 rfl) ?_
  have hPc : va_P (eD E) vwCl [] s.heap := va_P_nil
  refine vp_callSi (va_Run.run (va_runS (As := [.int p0, .int p1]) (rest := []) ⟨hx, hb, hml, hown, hta⟩ (c_X2_hasCell E l p0 p1 _ hw) (pcS (n := 2) hta tw_295 tw_293 tw_1 tw_294 rfl rfl hd_X2_hasCell ⟨Nat.le_of_ble_eq_true rfl, Nat.le_of_ble_eq_true rfl⟩) ⟨fbR, fun U hU hW => ⟨rfl, preR.mk hPc hKE hU hW⟩⟩ rfl rfl hl.1 rfl (lv_room (Nat.le_of_ble_eq_true rfl)) dX2_isMarked_2 ⟨Nat.le_of_ble_eq_true rfl, Nat.le_of_ble_eq_true rfl⟩)) (fun r_713 hw => ?_)
  refine lv_if_ne (tgt := 18) hx hb dX2_isMarked_5 (by decide) (fun c_714 => ?_) (fun c_714 => ?_)
  · have hw := hw.2 c_714
    refine lv_aload_n hx hb dX2_isMarked_18 rfl (lv_at hl 0 rfl) ?_
    refine va_get (D := eD E) (ci := 3) (v := .ref (ax 2)) (C := RX2) (T := TX2) (N := 19) hx hb hta lay_X2 hown hKE.1 hP 0 rfl rfl 1 (by decide) (hta _ tw_68) (fun _ h9 => h9) rfl dX2_isMarked_19 ?_
    refine lv_iload_n hx hb dX2_isMarked_22 rfl (lv_at hl 1 rfl) ?_
    refine lv_iload_n hx hb dX2_isMarked_23 rfl (lv_at hl 2 rfl) ?_
    have hPc : va_P (eD E) vwCl [((ax 2), .inr (2, [.ref (ax 3), .int pk])), ((ax 3), .inl (eC E 1, 157, .inr (.inl pw)))] s.heap := hP.sub [2, 3] rfl
    refine vp_callSi (va_Run.run (va_runVN (As := [.int p0, .int p1]) (rest := []) ⟨hx, hb, hml, hown, hta⟩ (c_X1_hasMark E l (ax 2) (ax 3) pw pk p0 p1 _ hw) (pcVN (n := 2) hta tw_328 (hKE.2.1 _ (List.mem_of_getElem? (i := 13) rfl)) tw_5 tw_327 tp_15 rfl rfl hd_X1_hasMark ⟨Nat.le_of_ble_eq_true rfl, Nat.le_of_ble_eq_true rfl⟩) ⟨fbR, va_recv hKE.1 hP (ci := 2) (q0 := 2) rfl rfl, fun U hU hW => ⟨rfl, preR.mk hPc hKE hU hW⟩⟩ rfl rfl hl.1 rfl (lv_room (Nat.le_of_ble_eq_true rfl)) dX2_isMarked_24 ⟨Nat.le_of_ble_eq_true rfl, Nat.le_of_ble_eq_true rfl⟩)) (fun r_715 hw => ?_)
    obtain ⟨hn_716, hw⟩ := hw
    exact W.zret (v := r_715) hx hb hr hn_716 (fun t ht hW => ⟨r_715, rfl, hw, ht⟩) (fun q hq => nomatch hq) dX2_isMarked_27
  · have hw := hw.1 c_714
    exact hw.elim
def wp_L_act (E : EV) (post : Int32 → (Nat → Int32) → Option Nat → Int32 → Nat → Int32 → List Nat → (Nat → va_E) → (Nat → Int64) → Int32 → (Nat → Int64) → Int32 → (Nat → Int32) → Prop) (gx : Nat → Int32) (lt : Option Nat) (mo : Int32) (ad : Nat) (ln : Int32) (PL : List Nat) (pf : Nat → va_E) (pw : Nat → Int64) (pk : Int32) (lw : Nat → Int64) (lk : Int32) (ik : Nat → Int32) (p0 : Int32) (p1 : Int32) (p2 : Int32) : Prop := ((p0 = 0 → (wp_X2_feed E (fun (r_788 : Int32) (gx_789 : Nat → Int32) (lt_790 : Option Nat) (mo_791 : Int32) (ad_792 : Nat) (ln_793 : Int32) (PL_794 : List Nat) (pf_795 : Nat → va_E) (pw_796 : Nat → Int64) (pk_797 : Int32) (lw_798 : Nat → Int64) (lk_799 : Int32) (ik_800 : Nat → Int32) => ((r_788 = 0 → post 0 gx_789 lt_790 mo_791 ad_792 ln_793 PL_794 pf_795 pw_796 pk_797 lw_798 lk_799 ik_800) ∧ (¬ (r_788 = 0) → post 1 gx_789 lt_790 mo_791 ad_792 ln_793 PL_794 pf_795 pw_796 pk_797 lw_798 lk_799 ik_800))) (fun E9 : String => (E9 = sIB ∧ post (-1151) gx lt mo ad ln PL pf pw pk lw lk ik) ∨ (E9 = sIA ∧ post (-1152) gx lt mo ad ln PL pf pw pk lw lk ik)) gx lt mo ad ln PL pf pw pk lw lk ik p1)) ∧ (¬ (p0 = 0) → ((p0 = 1 → (wp_X2_tick E (fun (r_775 : Int32) (gx_776 : Nat → Int32) (lt_777 : Option Nat) (mo_778 : Int32) (ad_779 : Nat) (ln_780 : Int32) (PL_781 : List Nat) (pf_782 : Nat → va_E) (pw_783 : Nat → Int64) (pk_784 : Int32) (lw_785 : Nat → Int64) (lk_786 : Int32) (ik_787 : Nat → Int32) => post r_775 gx_776 lt_777 mo_778 ad_779 ln_780 PL_781 pf_782 pw_783 pk_784 lw_785 lk_786 ik_787) (fun E9 : String => (E9 = sIB ∧ post (-1151) gx lt mo ad ln PL pf pw pk lw lk ik) ∨ (E9 = sIA ∧ post (-1152) gx lt mo ad ln PL pf pw pk lw lk ik)) gx lt mo ad ln PL pf pw pk lw lk ik p1)) ∧ (¬ (p0 = 1) → ((p0 = 2 → (wp_X2_refill E (fun (r_762 : Int32) (gx_763 : Nat → Int32) (lt_764 : Option Nat) (mo_765 : Int32) (ad_766 : Nat) (ln_767 : Int32) (PL_768 : List Nat) (pf_769 : Nat → va_E) (pw_770 : Nat → Int64) (pk_771 : Int32) (lw_772 : Nat → Int64) (lk_773 : Int32) (ik_774 : Nat → Int32) => post r_762 gx_763 lt_764 mo_765 ad_766 ln_767 PL_768 pf_769 pw_770 pk_771 lw_772 lk_773 ik_774) (fun E9 : String => (E9 = sIB ∧ post (-1151) gx lt mo ad ln PL pf pw pk lw lk ik) ∨ (E9 = sIA ∧ post (-1152) gx lt mo ad ln PL pf pw pk lw lk ik)) gx lt mo ad ln PL pf pw pk lw lk ik p1)) ∧ (¬ (p0 = 2) → ((p0 = 3 → (wp_X2_pour E (fun (r_749 : Int32) (gx_750 : Nat → Int32) (lt_751 : Option Nat) (mo_752 : Int32) (ad_753 : Nat) (ln_754 : Int32) (PL_755 : List Nat) (pf_756 : Nat → va_E) (pw_757 : Nat → Int64) (pk_758 : Int32) (lw_759 : Nat → Int64) (lk_760 : Int32) (ik_761 : Nat → Int32) => post r_749 gx_750 lt_751 mo_752 ad_753 ln_754 PL_755 pf_756 pw_757 pk_758 lw_759 lk_760 ik_761) (fun E9 : String => (E9 = sIB ∧ post (-1151) gx lt mo ad ln PL pf pw pk lw lk ik) ∨ (E9 = sIA ∧ post (-1152) gx lt mo ad ln PL pf pw pk lw lk ik)) gx lt mo ad ln PL pf pw pk lw lk ik p1 p2)) ∧ (¬ (p0 = 3) → ((p0 = 4 → (wp_X2_ink E (fun (r_736 : Int32) (gx_737 : Nat → Int32) (lt_738 : Option Nat) (mo_739 : Int32) (ad_740 : Nat) (ln_741 : Int32) (PL_742 : List Nat) (pf_743 : Nat → va_E) (pw_744 : Nat → Int64) (pk_745 : Int32) (lw_746 : Nat → Int64) (lk_747 : Int32) (ik_748 : Nat → Int32) => post r_736 gx_737 lt_738 mo_739 ad_740 ln_741 PL_742 pf_743 pw_744 pk_745 lw_746 lk_747 ik_748) (fun E9 : String => (E9 = sIB ∧ post (-1151) gx lt mo ad ln PL pf pw pk lw lk ik) ∨ (E9 = sIA ∧ post (-1152) gx lt mo ad ln PL pf pw pk lw lk ik)) gx lt mo ad ln PL pf pw pk lw lk ik p1)) ∧ (¬ (p0 = 4) → (wp_X2_isMarked E (fun (r_722 : Int32) (gx_723 : Nat → Int32) (lt_724 : Option Nat) (mo_725 : Int32) (ad_726 : Nat) (ln_727 : Int32) (PL_728 : List Nat) (pf_729 : Nat → va_E) (pw_730 : Nat → Int64) (pk_731 : Int32) (lw_732 : Nat → Int64) (lk_733 : Int32) (ik_734 : Nat → Int32) => ((r_722 = 0 → post 0 gx_723 lt_724 mo_725 ad_726 ln_727 PL_728 pf_729 pw_730 pk_731 lw_732 lk_733 ik_734) ∧ (¬ (r_722 = 0) → post 1 gx_723 lt_724 mo_725 ad_726 ln_727 PL_728 pf_729 pw_730 pk_731 lw_732 lk_733 ik_734))) (fun E9 : String => (E9 = sIB ∧ post (-1151) gx lt mo ad ln PL pf pw pk lw lk ik) ∨ (E9 = sIA ∧ post (-1152) gx lt mo ad ln PL pf pw pk lw lk ik)) gx lt mo ad ln PL pf pw pk lw lk ik p1 p2)))))))))))
set_option maxHeartbeats 4000000 in
set_option maxRecDepth 100000 in
theorem c_L_act (E : EV) (l : Launch) (ax : Nat → Nat) (gx : Nat → Int32) (lt : Option Nat) (mo : Int32) (ad : Nat) (ln : Int32) (PL : List Nat) (pf : Nat → va_E) (pw : Nat → Int64) (pk : Int32) (lw : Nat → Int64) (lk : Int32) (ik : Nat → Int32) (p0 : Int32) (p1 : Int32) (p2 : Int32) (hz : Nat) (post : Int32 → (Nat → Int32) → Option Nat → Int32 → Nat → Int32 → List Nat → (Nat → va_E) → (Nat → Int64) → Int32 → (Nat → Int64) → Int32 → (Nat → Int32) → Prop) (hw : wp_L_act E post gx lt mo ad ln PL pf pw pk lw lk ik p0 p1 p2) (hst : l.stackTraces = false) : Met l yL_act (Cond.codeWith yL_act cL_act 5 (some .int) [(0, 87, 88, 33), (0, 87, 94, 35)] :: ALLW) ({ frames := 12, cells := 9, slots := 288, locals := 255 } : Room) (va_Pc [.ref (ax 0), .int p0, .int p1, .int p2] (preM E (wX E ax gx lt mo ad ln PL pf pw pk lw lk ik) hz)) (va_Qi (fun (r : Int32) (u : (Nat → Int32) × Option Nat × Int32 × Nat × Int32 × List Nat × (Nat → va_E) × (Nat → Int64) × Int32 × (Nat → Int64) × Int32 × (Nat → Int32)) => post r u.1 u.2.1 u.2.2.1 u.2.2.2.1 u.2.2.2.2.1 u.2.2.2.2.2.1 u.2.2.2.2.2.2.1 u.2.2.2.2.2.2.2.1 u.2.2.2.2.2.2.2.2.1 u.2.2.2.2.2.2.2.2.2.1 u.2.2.2.2.2.2.2.2.2.2.1 u.2.2.2.2.2.2.2.2.2.2.2) (fun (u : (Nat → Int32) × Option Nat × Int32 × Nat × Int32 × List Nat × (Nat → va_E) × (Nat → Int64) × Int32 × (Nat → Int64) × Int32 × (Nat → Int32)) t => va_P (eD E) vwCl (wX E ax u.1 u.2.1 u.2.2.1 u.2.2.2.1 u.2.2.2.2.1 u.2.2.2.2.2.1 u.2.2.2.2.2.2.1 u.2.2.2.2.2.2.2.1 u.2.2.2.2.2.2.2.2.1 u.2.2.2.2.2.2.2.2.2.1 u.2.2.2.2.2.2.2.2.2.2.1 u.2.2.2.2.2.2.2.2.2.2.2) t.heap ∧ va_D (va_A (wX E ax gx lt mo ad ln PL pf pw pk lw lk ik) hz) (wX E ax u.1 u.2.1 u.2.2.1 u.2.2.2.1 u.2.2.2.2.1 u.2.2.2.2.2.1 u.2.2.2.2.2.2.1 u.2.2.2.2.2.2.2.1 u.2.2.2.2.2.2.2.2.1 u.2.2.2.2.2.2.2.2.2.1 u.2.2.2.2.2.2.2.2.2.2.1 u.2.2.2.2.2.2.2.2.2.2.2)) (va_A (wX E ax gx lt mo ad ln PL pf pw pk lw lk ik) hz)) 9 288 (va_A (wX E ax gx lt mo ad ln PL pf pw pk lw lk ik) hz) := by
  refine va_MetW (cc := cL_act) (maxL := 5) (ret := (some .int)) (by decide) rfl ?_
  intro p e s m args below meth c s₁ B hml hv
  obtain ⟨rfl, hpre⟩ := hv
  have hx := B.exec
  have hb := B.bytes
  have hr := B.returns
  have hlocks := B.notSynchronized
  have hts := atoms_spec (ws := (Cond.codeWith yL_act cL_act 5 (some .int) [(0, 87, 88, 33), (0, 87, 94, 35)] :: ALLW)) B.pre
  have hta : ∀ w ∈ ALLW, w.before ([.ref (ax 0), .int p0, .int p1, .int p2] : List Value).toArray s = true := fun w h => hts w (List.mem_cons_of_mem _ h)
  have hown : s.vm.findClass RL = some m.cls := findClass_of_methodNamed B.named
  have htb := vx_table (x := yL_act) (y := yL_act) B (hts _ List.mem_cons_self)
  obtain ⟨hsz, hP, hKE, hD0, hZ⟩ := hpre
  subst hsz
  have hD := hD0.self (sz := s.heap.size)
  generalize hAe : va_A (wX E ax gx lt mo ad ln PL pf pw pk lw lk ik) s.heap.size = A at hD hZ ⊢
  have hA : ∀ q : Nat, s.heap.size ≤ q → A q := fun q h => by rw [← hAe]; exact Or.inr h
  have hS : va_S A s.heap s.heap [] := va_S.rf
  have hP : va_P (eD E) vwCl ([((ax 0), .inr (3, [.ref (ax 1), .ref (ax 2), .ref (ax 4), .ref (ax 6), .int (gx 4), .int (gx 5), .int (gx 6), .int (gx 7), va_rf lt, .int (gx 9), .int (gx 10), .int (gx 11), .int (gx 12), .int (gx 13), .int (gx 14), .int (gx 15), .int (gx 16), .int (gx 17), .int (gx 18)])), ((ax 1), .inr (0, [.int mo, .ref ad, .int ln])), ((ax 2), .inr (2, [.ref (ax 3), .int pk])), ((ax 3), .inl (eC E 1, 157, .inr (.inl pw))), ((ax 4), .inr (2, [.ref (ax 5), .int lk])), ((ax 5), .inl (eC E 1, 157, .inr (.inl lw))), ((ax 6), .inl (eC E 0, 3, .inl ik))] ++ va_pl PL pf) s.heap := hP
  have hD : va_D A ([((ax 0), .inr (3, [.ref (ax 1), .ref (ax 2), .ref (ax 4), .ref (ax 6), .int (gx 4), .int (gx 5), .int (gx 6), .int (gx 7), va_rf lt, .int (gx 9), .int (gx 10), .int (gx 11), .int (gx 12), .int (gx 13), .int (gx 14), .int (gx 15), .int (gx 16), .int (gx 17), .int (gx 18)])), ((ax 1), .inr (0, [.int mo, .ref ad, .int ln])), ((ax 2), .inr (2, [.ref (ax 3), .int pk])), ((ax 3), .inl (eC E 1, 157, .inr (.inl pw))), ((ax 4), .inr (2, [.ref (ax 5), .int lk])), ((ax 5), .inl (eC E 1, 157, .inr (.inl lw))), ((ax 6), .inl (eC E 0, 3, .inl ik))] ++ va_pl PL pf) := hD
  have hl := lv_entry ([.ref (ax 0), .int p0, .int p1, .int p2]) (n := 5) (Nat.le_of_ble_eq_true rfl)
  rw [lg_entry_eq]
  generalize (lg_sl ([.ref (ax 0), .int p0, .int p1, .int p2]) ++ List.replicate (5 - (lg_sl ([.ref (ax 0), .int p0, .int p1, .int p2])).length) Slot.unset).toArray = ls at hl ⊢
  have hl : lv_has ls 5 [(0, .ref (ax 0)), (1, .int p0), (2, .int p1), (3, .int p2)] := hl
  unfold wp_L_act at hw
  refine lv_iload_n hx hb dL_act_0 rfl (lv_at hl 1 rfl) ?_
  refine lv_if_ne (tgt := 20) hx hb dL_act_1 (by decide) (fun c_717 => ?_) (fun c_717 => ?_)
  · have hw := hw.2 c_717
    refine lv_iload_n hx hb dL_act_20 rfl (lv_at hl 1 rfl) ?_
    refine lv_iconst (v := 1) hx hb dL_act_21 (by decide) ?_
    refine lv_icmp_ne (tgt := 33) hx hb dL_act_22 (by decide) (fun c_718 => ?_) (fun c_718 => ?_)
    · have hw := hw.2 c_718
      refine lv_iload_n hx hb dL_act_33 rfl (lv_at hl 1 rfl) ?_
      refine lv_iconst (v := 2) hx hb dL_act_34 (by decide) ?_
      refine lv_icmp_ne (tgt := 46) hx hb dL_act_35 (by decide) (fun c_719 => ?_) (fun c_719 => ?_)
      · have hw := hw.2 c_719
        refine lv_iload_n hx hb dL_act_46 rfl (lv_at hl 1 rfl) ?_
        refine lv_iconst (v := 3) hx hb dL_act_47 (by decide) ?_
        refine lv_icmp_ne (tgt := 60) hx hb dL_act_48 (by decide) (fun c_720 => ?_) (fun c_720 => ?_)
        · have hw := hw.2 c_720
          refine lv_iload_n hx hb dL_act_60 rfl (lv_at hl 1 rfl) ?_
          refine lv_iconst (v := 4) hx hb dL_act_61 (by decide) ?_
          refine lv_icmp_ne (tgt := 73) hx hb dL_act_62 (by decide) (fun c_721 => ?_) (fun c_721 => ?_)
          · have hw := hw.2 c_721
            refine lv_aload_n hx hb dL_act_73 rfl (lv_at hl 0 rfl) ?_
            refine lv_iload_n hx hb dL_act_74 rfl (lv_at hl 2 rfl) ?_
            refine lv_iload_n hx hb dL_act_75 rfl (lv_at hl 3 rfl) ?_
            have hPc : va_P (eD E) vwCl (wX E ax gx lt mo ad ln PL pf pw pk lw lk ik) s.heap := hP
            have hDc : va_D A (wX E ax gx lt mo ad ln PL pf pw pk lw lk ik) := hD
            have hFc : ∀ q, va_A (wX E ax gx lt mo ad ln PL pf pw pk lw lk ik) s.heap.size q → A q := frS hDc hS hA
            refine vx_calli (vx_runV (As := [.int p1, .int p2]) (rest := []) ⟨hx, hb, hml, hown, hta⟩ (c_X2_isMarked E l ax gx lt mo ad ln PL pf pw pk lw lk ik p1 p2 s.heap.size _ _ hw hst) (pcV (n := 2) hta tw_501 tw_498 tw_1 tw_499 tw_500 rfl rfl hd_X2_isMarked ⟨Nat.le_of_ble_eq_true rfl, Nat.le_of_ble_eq_true rfl⟩) ⟨fbM, va_recv hKE.1 hP (ci := 3) (q0 := 0) rfl rfl, fun U hU hW => ⟨rfl, preM.mk hPc hKE hDc hZ hS hFc hU hW⟩⟩ rfl rfl hl.1 rfl (lv_room (Nat.le_of_ble_eq_true rfl)) dL_act_76 ⟨Nat.le_of_ble_eq_true rfl, Nat.le_of_ble_eq_true rfl⟩) hS (fun q _ h => hFc q h) hFc (fun q _ h => hFc q h) (fun E9 ce q9 u t H locs ht hvm hpx hB hz1 hk1 hS hq9 hcv hcl => ?_) (fun r_722 u t H locs ht hvm hw hB hz1 hk1 hS => ?_)
            · obtain ⟨hw, hP1, hD1⟩ := hB
              rw [ht] at hP1
              try dsimp only at hw hP1 hD1
              have hP : va_P (eD E) vwCl ([((ax 0), .inr (3, [.ref (ax 1), .ref (ax 2), .ref (ax 4), .ref (ax 6), .int (gx 4), .int (gx 5), .int (gx 6), .int (gx 7), va_rf lt, .int (gx 9), .int (gx 10), .int (gx 11), .int (gx 12), .int (gx 13), .int (gx 14), .int (gx 15), .int (gx 16), .int (gx 17), .int (gx 18)])), ((ax 1), .inr (0, [.int mo, .ref ad, .int ln])), ((ax 2), .inr (2, [.ref (ax 3), .int pk])), ((ax 3), .inl (eC E 1, 157, .inr (.inl pw))), ((ax 4), .inr (2, [.ref (ax 5), .int lk])), ((ax 5), .inl (eC E 1, 157, .inr (.inl lw))), ((ax 6), .inl (eC E 0, 3, .inl ik))] ++ va_pl PL pf) H := hP1
              have hD : va_D A ([((ax 0), .inr (3, [.ref (ax 1), .ref (ax 2), .ref (ax 4), .ref (ax 6), .int (gx 4), .int (gx 5), .int (gx 6), .int (gx 7), va_rf lt, .int (gx 9), .int (gx 10), .int (gx 11), .int (gx 12), .int (gx 13), .int (gx 14), .int (gx 15), .int (gx 16), .int (gx 17), .int (gx 18)])), ((ax 1), .inr (0, [.int mo, .ref ad, .int ln])), ((ax 2), .inr (2, [.ref (ax 3), .int pk])), ((ax 3), .inl (eC E 1, 157, .inr (.inl pw))), ((ax 4), .inr (2, [.ref (ax 5), .int lk])), ((ax 5), .inl (eC E 1, 157, .inr (.inl lw))), ((ax 6), .inl (eC E 0, 3, .inl ik))] ++ va_pl PL pf) := hD1.weaken (fun _ q _ h => hFc q.1 h)
              rcases hw with ⟨hE, hw⟩ | ⟨hE, hw⟩
              · skip
                subst hE
                refine vx_catch (E := sIB) (name := sIB) hown [] ⟨0, 87, 88, 33⟩ [⟨0, 87, 94, 35⟩] htb (fun z hz => nomatch hz) (by decide) (by decide) (hta _ tw_232) (va_Nw.use rfl (hKE.2.1 _ (List.mem_of_getElem? (i := 21) rfl))) hq9 hcv hcl ?_
                refine lv_astore (lv' := [(4, .ref q9), (0, .ref (ax 0)), (1, .int p0), (2, .int p1), (3, .int p2)]) hx hb dL_act_88 hl (by decide) rfl (fun ls hl => ?_)
                refine lv_sipush (v := (-1151)) hx hb dL_act_90 (by decide) ?_
                have hP9 : va_P (eD E) vwCl (wX E ax gx lt mo ad ln PL pf pw pk lw lk ik) H := hP
                have hD9 : va_D A (wX E ax gx lt mo ad ln PL pf pw pk lw lk ik) := hD
                refine W.widen (k := 9) (n := 288) (Nat.le_of_ble_eq_true rfl) (Nat.le_of_ble_eq_true rfl) ?_
                exact W.iret (v := (-1151)) hx hb hr (fun t ht hW => ⟨⟨(-1151), (gx, lt, mo, ad, ln, PL, pf, pw, pk, lw, lk, ik), rfl, hw, ⟨by rw [ht]; exact hP9, hD9⟩⟩, hS.F ht⟩) hS.2.2 dL_act_93
              · skip
                subst hE
                refine vx_catch (E := sIA) (name := sIA) hown [⟨0, 87, 88, 33⟩] ⟨0, 87, 94, 35⟩ [] htb (fun z hz => Or.inr (by obtain rfl := List.mem_singleton.mp hz; exact ⟨by decide, sIB, (hta _ tw_232), hKE.2.2.2.2.2.2⟩)) (by decide) (by decide) (hta _ tw_233) (va_Nw.use rfl (hKE.2.1 _ (List.mem_of_getElem? (i := 22) rfl))) hq9 hcv hcl ?_
                refine lv_astore (lv' := [(4, .ref q9), (0, .ref (ax 0)), (1, .int p0), (2, .int p1), (3, .int p2)]) hx hb dL_act_94 hl (by decide) rfl (fun ls hl => ?_)
                refine lv_sipush (v := (-1152)) hx hb dL_act_96 (by decide) ?_
                have hP9 : va_P (eD E) vwCl (wX E ax gx lt mo ad ln PL pf pw pk lw lk ik) H := hP
                have hD9 : va_D A (wX E ax gx lt mo ad ln PL pf pw pk lw lk ik) := hD
                refine W.widen (k := 9) (n := 288) (Nat.le_of_ble_eq_true rfl) (Nat.le_of_ble_eq_true rfl) ?_
                exact W.iret (v := (-1152)) hx hb hr (fun t ht hW => ⟨⟨(-1152), (gx, lt, mo, ad, ln, PL, pf, pw, pk, lw, lk, ik), rfl, hw, ⟨by rw [ht]; exact hP9, hD9⟩⟩, hS.F ht⟩) hS.2.2 dL_act_99
            · obtain ⟨gx_723, lt_724, mo_725, ad_726, ln_727, PL_728, pf_729, pw_730, pk_731, lw_732, lk_733, ik_734⟩ := u
              obtain ⟨hP1, hD1⟩ := hB
              rw [ht] at hP1
              try dsimp only at hw hP1 hD1
              have hP : va_P (eD E) vwCl ([((ax 0), .inr (3, [.ref (ax 1), .ref (ax 2), .ref (ax 4), .ref (ax 6), .int (gx_723 4), .int (gx_723 5), .int (gx_723 6), .int (gx_723 7), va_rf lt_724, .int (gx_723 9), .int (gx_723 10), .int (gx_723 11), .int (gx_723 12), .int (gx_723 13), .int (gx_723 14), .int (gx_723 15), .int (gx_723 16), .int (gx_723 17), .int (gx_723 18)])), ((ax 1), .inr (0, [.int mo_725, .ref ad_726, .int ln_727])), ((ax 2), .inr (2, [.ref (ax 3), .int pk_731])), ((ax 3), .inl (eC E 1, 157, .inr (.inl pw_730))), ((ax 4), .inr (2, [.ref (ax 5), .int lk_733])), ((ax 5), .inl (eC E 1, 157, .inr (.inl lw_732))), ((ax 6), .inl (eC E 0, 3, .inl ik_734))] ++ va_pl PL_728 pf_729) H := hP1
              have hD : va_D A ([((ax 0), .inr (3, [.ref (ax 1), .ref (ax 2), .ref (ax 4), .ref (ax 6), .int (gx_723 4), .int (gx_723 5), .int (gx_723 6), .int (gx_723 7), va_rf lt_724, .int (gx_723 9), .int (gx_723 10), .int (gx_723 11), .int (gx_723 12), .int (gx_723 13), .int (gx_723 14), .int (gx_723 15), .int (gx_723 16), .int (gx_723 17), .int (gx_723 18)])), ((ax 1), .inr (0, [.int mo_725, .ref ad_726, .int ln_727])), ((ax 2), .inr (2, [.ref (ax 3), .int pk_731])), ((ax 3), .inl (eC E 1, 157, .inr (.inl pw_730))), ((ax 4), .inr (2, [.ref (ax 5), .int lk_733])), ((ax 5), .inl (eC E 1, 157, .inr (.inl lw_732))), ((ax 6), .inl (eC E 0, 3, .inl ik_734))] ++ va_pl PL_728 pf_729) := hD1.weaken (fun _ q _ h => hFc q.1 h)
              refine lv_if_eq (tgt := 86) hx hb dL_act_79 (by decide) (fun c_735 => ?_) (fun c_735 => ?_)
              · have hw := hw.1 c_735
                refine lv_iconst (v := 0) hx hb dL_act_86 (by decide) ?_
                have hP9 : va_P (eD E) vwCl (wX E ax gx_723 lt_724 mo_725 ad_726 ln_727 PL_728 pf_729 pw_730 pk_731 lw_732 lk_733 ik_734) H := hP
                have hD9 : va_D A (wX E ax gx_723 lt_724 mo_725 ad_726 ln_727 PL_728 pf_729 pw_730 pk_731 lw_732 lk_733 ik_734) := hD
                refine W.widen (k := 9) (n := 288) (Nat.le_of_ble_eq_true rfl) (Nat.le_of_ble_eq_true rfl) ?_
                exact W.iret (v := 0) hx hb hr (fun t ht hW => ⟨⟨0, (gx_723, lt_724, mo_725, ad_726, ln_727, PL_728, pf_729, pw_730, pk_731, lw_732, lk_733, ik_734), rfl, hw, ⟨by rw [ht]; exact hP9, hD9⟩⟩, hS.F ht⟩) hS.2.2 dL_act_87
              · have hw := hw.2 c_735
                refine lv_iconst (v := 1) hx hb dL_act_82 (by decide) ?_
                refine lv_goto (tgt := 87) hx hb dL_act_83 (by decide) ?_
                have hP9 : va_P (eD E) vwCl (wX E ax gx_723 lt_724 mo_725 ad_726 ln_727 PL_728 pf_729 pw_730 pk_731 lw_732 lk_733 ik_734) H := hP
                have hD9 : va_D A (wX E ax gx_723 lt_724 mo_725 ad_726 ln_727 PL_728 pf_729 pw_730 pk_731 lw_732 lk_733 ik_734) := hD
                refine W.widen (k := 9) (n := 288) (Nat.le_of_ble_eq_true rfl) (Nat.le_of_ble_eq_true rfl) ?_
                exact W.iret (v := 1) hx hb hr (fun t ht hW => ⟨⟨1, (gx_723, lt_724, mo_725, ad_726, ln_727, PL_728, pf_729, pw_730, pk_731, lw_732, lk_733, ik_734), rfl, hw, ⟨by rw [ht]; exact hP9, hD9⟩⟩, hS.F ht⟩) hS.2.2 dL_act_87
          · have hw := hw.1 c_721
            refine lv_aload_n hx hb dL_act_65 rfl (lv_at hl 0 rfl) ?_
            refine lv_iload_n hx hb dL_act_66 rfl (lv_at hl 2 rfl) ?_
            have hPc : va_P (eD E) vwCl (wX E ax gx lt mo ad ln PL pf pw pk lw lk ik) s.heap := hP
            have hDc : va_D A (wX E ax gx lt mo ad ln PL pf pw pk lw lk ik) := hD
            have hFc : ∀ q, va_A (wX E ax gx lt mo ad ln PL pf pw pk lw lk ik) s.heap.size q → A q := frS hDc hS hA
            refine vx_calli (vx_runV (As := [.int p1]) (rest := []) ⟨hx, hb, hml, hown, hta⟩ (c_X2_ink E l ax gx lt mo ad ln PL pf pw pk lw lk ik p1 s.heap.size _ _ hw hst) (pcV (n := 1) hta tw_141 tw_138 tw_1 tw_139 tw_140 rfl rfl hd_X2_ink ⟨Nat.le_of_ble_eq_true rfl, Nat.le_of_ble_eq_true rfl⟩) ⟨fbM, va_recv hKE.1 hP (ci := 3) (q0 := 0) rfl rfl, fun U hU hW => ⟨rfl, preM.mk hPc hKE hDc hZ hS hFc hU hW⟩⟩ rfl rfl hl.1 rfl (lv_room (Nat.le_of_ble_eq_true rfl)) dL_act_67 ⟨Nat.le_of_ble_eq_true rfl, Nat.le_of_ble_eq_true rfl⟩) hS (fun q _ h => hFc q h) hFc (fun q _ h => hFc q h) (fun E9 ce q9 u t H locs ht hvm hpx hB hz1 hk1 hS hq9 hcv hcl => ?_) (fun r_736 u t H locs ht hvm hw hB hz1 hk1 hS => ?_)
            · obtain ⟨hw, hP1, hD1⟩ := hB
              rw [ht] at hP1
              try dsimp only at hw hP1 hD1
              have hP : va_P (eD E) vwCl ([((ax 0), .inr (3, [.ref (ax 1), .ref (ax 2), .ref (ax 4), .ref (ax 6), .int (gx 4), .int (gx 5), .int (gx 6), .int (gx 7), va_rf lt, .int (gx 9), .int (gx 10), .int (gx 11), .int (gx 12), .int (gx 13), .int (gx 14), .int (gx 15), .int (gx 16), .int (gx 17), .int (gx 18)])), ((ax 1), .inr (0, [.int mo, .ref ad, .int ln])), ((ax 2), .inr (2, [.ref (ax 3), .int pk])), ((ax 3), .inl (eC E 1, 157, .inr (.inl pw))), ((ax 4), .inr (2, [.ref (ax 5), .int lk])), ((ax 5), .inl (eC E 1, 157, .inr (.inl lw))), ((ax 6), .inl (eC E 0, 3, .inl ik))] ++ va_pl PL pf) H := hP1
              have hD : va_D A ([((ax 0), .inr (3, [.ref (ax 1), .ref (ax 2), .ref (ax 4), .ref (ax 6), .int (gx 4), .int (gx 5), .int (gx 6), .int (gx 7), va_rf lt, .int (gx 9), .int (gx 10), .int (gx 11), .int (gx 12), .int (gx 13), .int (gx 14), .int (gx 15), .int (gx 16), .int (gx 17), .int (gx 18)])), ((ax 1), .inr (0, [.int mo, .ref ad, .int ln])), ((ax 2), .inr (2, [.ref (ax 3), .int pk])), ((ax 3), .inl (eC E 1, 157, .inr (.inl pw))), ((ax 4), .inr (2, [.ref (ax 5), .int lk])), ((ax 5), .inl (eC E 1, 157, .inr (.inl lw))), ((ax 6), .inl (eC E 0, 3, .inl ik))] ++ va_pl PL pf) := hD1.weaken (fun _ q _ h => hFc q.1 h)
              rcases hw with ⟨hE, hw⟩ | ⟨hE, hw⟩
              · skip
                subst hE
                refine vx_catch (E := sIB) (name := sIB) hown [] ⟨0, 87, 88, 33⟩ [⟨0, 87, 94, 35⟩] htb (fun z hz => nomatch hz) (by decide) (by decide) (hta _ tw_232) (va_Nw.use rfl (hKE.2.1 _ (List.mem_of_getElem? (i := 21) rfl))) hq9 hcv hcl ?_
                refine lv_astore (lv' := [(4, .ref q9), (0, .ref (ax 0)), (1, .int p0), (2, .int p1), (3, .int p2)]) hx hb dL_act_88 hl (by decide) rfl (fun ls hl => ?_)
                refine lv_sipush (v := (-1151)) hx hb dL_act_90 (by decide) ?_
                have hP9 : va_P (eD E) vwCl (wX E ax gx lt mo ad ln PL pf pw pk lw lk ik) H := hP
                have hD9 : va_D A (wX E ax gx lt mo ad ln PL pf pw pk lw lk ik) := hD
                refine W.widen (k := 9) (n := 288) (Nat.le_of_ble_eq_true rfl) (Nat.le_of_ble_eq_true rfl) ?_
                exact W.iret (v := (-1151)) hx hb hr (fun t ht hW => ⟨⟨(-1151), (gx, lt, mo, ad, ln, PL, pf, pw, pk, lw, lk, ik), rfl, hw, ⟨by rw [ht]; exact hP9, hD9⟩⟩, hS.F ht⟩) hS.2.2 dL_act_93
              · skip
                subst hE
                refine vx_catch (E := sIA) (name := sIA) hown [⟨0, 87, 88, 33⟩] ⟨0, 87, 94, 35⟩ [] htb (fun z hz => Or.inr (by obtain rfl := List.mem_singleton.mp hz; exact ⟨by decide, sIB, (hta _ tw_232), hKE.2.2.2.2.2.2⟩)) (by decide) (by decide) (hta _ tw_233) (va_Nw.use rfl (hKE.2.1 _ (List.mem_of_getElem? (i := 22) rfl))) hq9 hcv hcl ?_
                refine lv_astore (lv' := [(4, .ref q9), (0, .ref (ax 0)), (1, .int p0), (2, .int p1), (3, .int p2)]) hx hb dL_act_94 hl (by decide) rfl (fun ls hl => ?_)
                refine lv_sipush (v := (-1152)) hx hb dL_act_96 (by decide) ?_
                have hP9 : va_P (eD E) vwCl (wX E ax gx lt mo ad ln PL pf pw pk lw lk ik) H := hP
                have hD9 : va_D A (wX E ax gx lt mo ad ln PL pf pw pk lw lk ik) := hD
                refine W.widen (k := 9) (n := 288) (Nat.le_of_ble_eq_true rfl) (Nat.le_of_ble_eq_true rfl) ?_
                exact W.iret (v := (-1152)) hx hb hr (fun t ht hW => ⟨⟨(-1152), (gx, lt, mo, ad, ln, PL, pf, pw, pk, lw, lk, ik), rfl, hw, ⟨by rw [ht]; exact hP9, hD9⟩⟩, hS.F ht⟩) hS.2.2 dL_act_99
            · obtain ⟨gx_737, lt_738, mo_739, ad_740, ln_741, PL_742, pf_743, pw_744, pk_745, lw_746, lk_747, ik_748⟩ := u
              obtain ⟨hP1, hD1⟩ := hB
              rw [ht] at hP1
              try dsimp only at hw hP1 hD1
              have hP : va_P (eD E) vwCl ([((ax 0), .inr (3, [.ref (ax 1), .ref (ax 2), .ref (ax 4), .ref (ax 6), .int (gx_737 4), .int (gx_737 5), .int (gx_737 6), .int (gx_737 7), va_rf lt_738, .int (gx_737 9), .int (gx_737 10), .int (gx_737 11), .int (gx_737 12), .int (gx_737 13), .int (gx_737 14), .int (gx_737 15), .int (gx_737 16), .int (gx_737 17), .int (gx_737 18)])), ((ax 1), .inr (0, [.int mo_739, .ref ad_740, .int ln_741])), ((ax 2), .inr (2, [.ref (ax 3), .int pk_745])), ((ax 3), .inl (eC E 1, 157, .inr (.inl pw_744))), ((ax 4), .inr (2, [.ref (ax 5), .int lk_747])), ((ax 5), .inl (eC E 1, 157, .inr (.inl lw_746))), ((ax 6), .inl (eC E 0, 3, .inl ik_748))] ++ va_pl PL_742 pf_743) H := hP1
              have hD : va_D A ([((ax 0), .inr (3, [.ref (ax 1), .ref (ax 2), .ref (ax 4), .ref (ax 6), .int (gx_737 4), .int (gx_737 5), .int (gx_737 6), .int (gx_737 7), va_rf lt_738, .int (gx_737 9), .int (gx_737 10), .int (gx_737 11), .int (gx_737 12), .int (gx_737 13), .int (gx_737 14), .int (gx_737 15), .int (gx_737 16), .int (gx_737 17), .int (gx_737 18)])), ((ax 1), .inr (0, [.int mo_739, .ref ad_740, .int ln_741])), ((ax 2), .inr (2, [.ref (ax 3), .int pk_745])), ((ax 3), .inl (eC E 1, 157, .inr (.inl pw_744))), ((ax 4), .inr (2, [.ref (ax 5), .int lk_747])), ((ax 5), .inl (eC E 1, 157, .inr (.inl lw_746))), ((ax 6), .inl (eC E 0, 3, .inl ik_748))] ++ va_pl PL_742 pf_743) := hD1.weaken (fun _ q _ h => hFc q.1 h)
              refine lv_goto (tgt := 87) hx hb dL_act_70 (by decide) ?_
              have hP9 : va_P (eD E) vwCl (wX E ax gx_737 lt_738 mo_739 ad_740 ln_741 PL_742 pf_743 pw_744 pk_745 lw_746 lk_747 ik_748) H := hP
              have hD9 : va_D A (wX E ax gx_737 lt_738 mo_739 ad_740 ln_741 PL_742 pf_743 pw_744 pk_745 lw_746 lk_747 ik_748) := hD
              refine W.widen (k := 9) (n := 288) (Nat.le_of_ble_eq_true rfl) (Nat.le_of_ble_eq_true rfl) ?_
              exact W.iret (v := r_736) hx hb hr (fun t ht hW => ⟨⟨r_736, (gx_737, lt_738, mo_739, ad_740, ln_741, PL_742, pf_743, pw_744, pk_745, lw_746, lk_747, ik_748), rfl, hw, ⟨by rw [ht]; exact hP9, hD9⟩⟩, hS.F ht⟩) hS.2.2 dL_act_87
        · have hw := hw.1 c_720
          refine lv_aload_n hx hb dL_act_51 rfl (lv_at hl 0 rfl) ?_
          refine lv_iload_n hx hb dL_act_52 rfl (lv_at hl 2 rfl) ?_
          refine lv_iload_n hx hb dL_act_53 rfl (lv_at hl 3 rfl) ?_
          have hPc : va_P (eD E) vwCl (wX E ax gx lt mo ad ln PL pf pw pk lw lk ik) s.heap := hP
          have hDc : va_D A (wX E ax gx lt mo ad ln PL pf pw pk lw lk ik) := hD
          have hFc : ∀ q, va_A (wX E ax gx lt mo ad ln PL pf pw pk lw lk ik) s.heap.size q → A q := frS hDc hS hA
          refine vx_calli (vx_runV (As := [.int p1, .int p2]) (rest := []) ⟨hx, hb, hml, hown, hta⟩ (c_X2_pour E l ax gx lt mo ad ln PL pf pw pk lw lk ik p1 p2 s.heap.size _ _ hw hst) (pcV (n := 2) hta tw_495 tw_492 tw_1 tw_493 tw_494 rfl rfl hd_X2_pour ⟨Nat.le_of_ble_eq_true rfl, Nat.le_of_ble_eq_true rfl⟩) ⟨fbM, va_recv hKE.1 hP (ci := 3) (q0 := 0) rfl rfl, fun U hU hW => ⟨rfl, preM.mk hPc hKE hDc hZ hS hFc hU hW⟩⟩ rfl rfl hl.1 rfl (lv_room (Nat.le_of_ble_eq_true rfl)) dL_act_54 ⟨Nat.le_of_ble_eq_true rfl, Nat.le_of_ble_eq_true rfl⟩) hS (fun q _ h => hFc q h) hFc (fun q _ h => hFc q h) (fun E9 ce q9 u t H locs ht hvm hpx hB hz1 hk1 hS hq9 hcv hcl => ?_) (fun r_749 u t H locs ht hvm hw hB hz1 hk1 hS => ?_)
          · obtain ⟨hw, hP1, hD1⟩ := hB
            rw [ht] at hP1
            try dsimp only at hw hP1 hD1
            have hP : va_P (eD E) vwCl ([((ax 0), .inr (3, [.ref (ax 1), .ref (ax 2), .ref (ax 4), .ref (ax 6), .int (gx 4), .int (gx 5), .int (gx 6), .int (gx 7), va_rf lt, .int (gx 9), .int (gx 10), .int (gx 11), .int (gx 12), .int (gx 13), .int (gx 14), .int (gx 15), .int (gx 16), .int (gx 17), .int (gx 18)])), ((ax 1), .inr (0, [.int mo, .ref ad, .int ln])), ((ax 2), .inr (2, [.ref (ax 3), .int pk])), ((ax 3), .inl (eC E 1, 157, .inr (.inl pw))), ((ax 4), .inr (2, [.ref (ax 5), .int lk])), ((ax 5), .inl (eC E 1, 157, .inr (.inl lw))), ((ax 6), .inl (eC E 0, 3, .inl ik))] ++ va_pl PL pf) H := hP1
            have hD : va_D A ([((ax 0), .inr (3, [.ref (ax 1), .ref (ax 2), .ref (ax 4), .ref (ax 6), .int (gx 4), .int (gx 5), .int (gx 6), .int (gx 7), va_rf lt, .int (gx 9), .int (gx 10), .int (gx 11), .int (gx 12), .int (gx 13), .int (gx 14), .int (gx 15), .int (gx 16), .int (gx 17), .int (gx 18)])), ((ax 1), .inr (0, [.int mo, .ref ad, .int ln])), ((ax 2), .inr (2, [.ref (ax 3), .int pk])), ((ax 3), .inl (eC E 1, 157, .inr (.inl pw))), ((ax 4), .inr (2, [.ref (ax 5), .int lk])), ((ax 5), .inl (eC E 1, 157, .inr (.inl lw))), ((ax 6), .inl (eC E 0, 3, .inl ik))] ++ va_pl PL pf) := hD1.weaken (fun _ q _ h => hFc q.1 h)
            rcases hw with ⟨hE, hw⟩ | ⟨hE, hw⟩
            · skip
              subst hE
              refine vx_catch (E := sIB) (name := sIB) hown [] ⟨0, 87, 88, 33⟩ [⟨0, 87, 94, 35⟩] htb (fun z hz => nomatch hz) (by decide) (by decide) (hta _ tw_232) (va_Nw.use rfl (hKE.2.1 _ (List.mem_of_getElem? (i := 21) rfl))) hq9 hcv hcl ?_
              refine lv_astore (lv' := [(4, .ref q9), (0, .ref (ax 0)), (1, .int p0), (2, .int p1), (3, .int p2)]) hx hb dL_act_88 hl (by decide) rfl (fun ls hl => ?_)
              refine lv_sipush (v := (-1151)) hx hb dL_act_90 (by decide) ?_
              have hP9 : va_P (eD E) vwCl (wX E ax gx lt mo ad ln PL pf pw pk lw lk ik) H := hP
              have hD9 : va_D A (wX E ax gx lt mo ad ln PL pf pw pk lw lk ik) := hD
              refine W.widen (k := 9) (n := 288) (Nat.le_of_ble_eq_true rfl) (Nat.le_of_ble_eq_true rfl) ?_
              exact W.iret (v := (-1151)) hx hb hr (fun t ht hW => ⟨⟨(-1151), (gx, lt, mo, ad, ln, PL, pf, pw, pk, lw, lk, ik), rfl, hw, ⟨by rw [ht]; exact hP9, hD9⟩⟩, hS.F ht⟩) hS.2.2 dL_act_93
            · skip
              subst hE
              refine vx_catch (E := sIA) (name := sIA) hown [⟨0, 87, 88, 33⟩] ⟨0, 87, 94, 35⟩ [] htb (fun z hz => Or.inr (by obtain rfl := List.mem_singleton.mp hz; exact ⟨by decide, sIB, (hta _ tw_232), hKE.2.2.2.2.2.2⟩)) (by decide) (by decide) (hta _ tw_233) (va_Nw.use rfl (hKE.2.1 _ (List.mem_of_getElem? (i := 22) rfl))) hq9 hcv hcl ?_
              refine lv_astore (lv' := [(4, .ref q9), (0, .ref (ax 0)), (1, .int p0), (2, .int p1), (3, .int p2)]) hx hb dL_act_94 hl (by decide) rfl (fun ls hl => ?_)
              refine lv_sipush (v := (-1152)) hx hb dL_act_96 (by decide) ?_
              have hP9 : va_P (eD E) vwCl (wX E ax gx lt mo ad ln PL pf pw pk lw lk ik) H := hP
              have hD9 : va_D A (wX E ax gx lt mo ad ln PL pf pw pk lw lk ik) := hD
              refine W.widen (k := 9) (n := 288) (Nat.le_of_ble_eq_true rfl) (Nat.le_of_ble_eq_true rfl) ?_
              exact W.iret (v := (-1152)) hx hb hr (fun t ht hW => ⟨⟨(-1152), (gx, lt, mo, ad, ln, PL, pf, pw, pk, lw, lk, ik), rfl, hw, ⟨by rw [ht]; exact hP9, hD9⟩⟩, hS.F ht⟩) hS.2.2 dL_act_99
          · obtain ⟨gx_750, lt_751, mo_752, ad_753, ln_754, PL_755, pf_756, pw_757, pk_758, lw_759, lk_760, ik_761⟩ := u
            obtain ⟨hP1, hD1⟩ := hB
            rw [ht] at hP1
            try dsimp only at hw hP1 hD1
            have hP : va_P (eD E) vwCl ([((ax 0), .inr (3, [.ref (ax 1), .ref (ax 2), .ref (ax 4), .ref (ax 6), .int (gx_750 4), .int (gx_750 5), .int (gx_750 6), .int (gx_750 7), va_rf lt_751, .int (gx_750 9), .int (gx_750 10), .int (gx_750 11), .int (gx_750 12), .int (gx_750 13), .int (gx_750 14), .int (gx_750 15), .int (gx_750 16), .int (gx_750 17), .int (gx_750 18)])), ((ax 1), .inr (0, [.int mo_752, .ref ad_753, .int ln_754])), ((ax 2), .inr (2, [.ref (ax 3), .int pk_758])), ((ax 3), .inl (eC E 1, 157, .inr (.inl pw_757))), ((ax 4), .inr (2, [.ref (ax 5), .int lk_760])), ((ax 5), .inl (eC E 1, 157, .inr (.inl lw_759))), ((ax 6), .inl (eC E 0, 3, .inl ik_761))] ++ va_pl PL_755 pf_756) H := hP1
            have hD : va_D A ([((ax 0), .inr (3, [.ref (ax 1), .ref (ax 2), .ref (ax 4), .ref (ax 6), .int (gx_750 4), .int (gx_750 5), .int (gx_750 6), .int (gx_750 7), va_rf lt_751, .int (gx_750 9), .int (gx_750 10), .int (gx_750 11), .int (gx_750 12), .int (gx_750 13), .int (gx_750 14), .int (gx_750 15), .int (gx_750 16), .int (gx_750 17), .int (gx_750 18)])), ((ax 1), .inr (0, [.int mo_752, .ref ad_753, .int ln_754])), ((ax 2), .inr (2, [.ref (ax 3), .int pk_758])), ((ax 3), .inl (eC E 1, 157, .inr (.inl pw_757))), ((ax 4), .inr (2, [.ref (ax 5), .int lk_760])), ((ax 5), .inl (eC E 1, 157, .inr (.inl lw_759))), ((ax 6), .inl (eC E 0, 3, .inl ik_761))] ++ va_pl PL_755 pf_756) := hD1.weaken (fun _ q _ h => hFc q.1 h)
            refine lv_goto (tgt := 87) hx hb dL_act_57 (by decide) ?_
            have hP9 : va_P (eD E) vwCl (wX E ax gx_750 lt_751 mo_752 ad_753 ln_754 PL_755 pf_756 pw_757 pk_758 lw_759 lk_760 ik_761) H := hP
            have hD9 : va_D A (wX E ax gx_750 lt_751 mo_752 ad_753 ln_754 PL_755 pf_756 pw_757 pk_758 lw_759 lk_760 ik_761) := hD
            refine W.widen (k := 9) (n := 288) (Nat.le_of_ble_eq_true rfl) (Nat.le_of_ble_eq_true rfl) ?_
            exact W.iret (v := r_749) hx hb hr (fun t ht hW => ⟨⟨r_749, (gx_750, lt_751, mo_752, ad_753, ln_754, PL_755, pf_756, pw_757, pk_758, lw_759, lk_760, ik_761), rfl, hw, ⟨by rw [ht]; exact hP9, hD9⟩⟩, hS.F ht⟩) hS.2.2 dL_act_87
      · have hw := hw.1 c_719
        refine lv_aload_n hx hb dL_act_38 rfl (lv_at hl 0 rfl) ?_
        refine lv_iload_n hx hb dL_act_39 rfl (lv_at hl 2 rfl) ?_
        have hPc : va_P (eD E) vwCl (wX E ax gx lt mo ad ln PL pf pw pk lw lk ik) s.heap := hP
        have hDc : va_D A (wX E ax gx lt mo ad ln PL pf pw pk lw lk ik) := hD
        have hFc : ∀ q, va_A (wX E ax gx lt mo ad ln PL pf pw pk lw lk ik) s.heap.size q → A q := frS hDc hS hA
        refine vx_calli (vx_runV (As := [.int p1]) (rest := []) ⟨hx, hb, hml, hown, hta⟩ (c_X2_refill E l ax gx lt mo ad ln PL pf pw pk lw lk ik p1 s.heap.size _ _ hw hst) (pcV (n := 1) hta tw_491 tw_488 tw_1 tw_489 tw_490 rfl rfl hd_X2_refill ⟨Nat.le_of_ble_eq_true rfl, Nat.le_of_ble_eq_true rfl⟩) ⟨fbM, va_recv hKE.1 hP (ci := 3) (q0 := 0) rfl rfl, fun U hU hW => ⟨rfl, preM.mk hPc hKE hDc hZ hS hFc hU hW⟩⟩ rfl rfl hl.1 rfl (lv_room (Nat.le_of_ble_eq_true rfl)) dL_act_40 ⟨Nat.le_of_ble_eq_true rfl, Nat.le_of_ble_eq_true rfl⟩) hS (fun q _ h => hFc q h) hFc (fun q _ h => hFc q h) (fun E9 ce q9 u t H locs ht hvm hpx hB hz1 hk1 hS hq9 hcv hcl => ?_) (fun r_762 u t H locs ht hvm hw hB hz1 hk1 hS => ?_)
        · obtain ⟨hw, hP1, hD1⟩ := hB
          rw [ht] at hP1
          try dsimp only at hw hP1 hD1
          have hP : va_P (eD E) vwCl ([((ax 0), .inr (3, [.ref (ax 1), .ref (ax 2), .ref (ax 4), .ref (ax 6), .int (gx 4), .int (gx 5), .int (gx 6), .int (gx 7), va_rf lt, .int (gx 9), .int (gx 10), .int (gx 11), .int (gx 12), .int (gx 13), .int (gx 14), .int (gx 15), .int (gx 16), .int (gx 17), .int (gx 18)])), ((ax 1), .inr (0, [.int mo, .ref ad, .int ln])), ((ax 2), .inr (2, [.ref (ax 3), .int pk])), ((ax 3), .inl (eC E 1, 157, .inr (.inl pw))), ((ax 4), .inr (2, [.ref (ax 5), .int lk])), ((ax 5), .inl (eC E 1, 157, .inr (.inl lw))), ((ax 6), .inl (eC E 0, 3, .inl ik))] ++ va_pl PL pf) H := hP1
          have hD : va_D A ([((ax 0), .inr (3, [.ref (ax 1), .ref (ax 2), .ref (ax 4), .ref (ax 6), .int (gx 4), .int (gx 5), .int (gx 6), .int (gx 7), va_rf lt, .int (gx 9), .int (gx 10), .int (gx 11), .int (gx 12), .int (gx 13), .int (gx 14), .int (gx 15), .int (gx 16), .int (gx 17), .int (gx 18)])), ((ax 1), .inr (0, [.int mo, .ref ad, .int ln])), ((ax 2), .inr (2, [.ref (ax 3), .int pk])), ((ax 3), .inl (eC E 1, 157, .inr (.inl pw))), ((ax 4), .inr (2, [.ref (ax 5), .int lk])), ((ax 5), .inl (eC E 1, 157, .inr (.inl lw))), ((ax 6), .inl (eC E 0, 3, .inl ik))] ++ va_pl PL pf) := hD1.weaken (fun _ q _ h => hFc q.1 h)
          rcases hw with ⟨hE, hw⟩ | ⟨hE, hw⟩
          · skip
            subst hE
            refine vx_catch (E := sIB) (name := sIB) hown [] ⟨0, 87, 88, 33⟩ [⟨0, 87, 94, 35⟩] htb (fun z hz => nomatch hz) (by decide) (by decide) (hta _ tw_232) (va_Nw.use rfl (hKE.2.1 _ (List.mem_of_getElem? (i := 21) rfl))) hq9 hcv hcl ?_
            refine lv_astore (lv' := [(4, .ref q9), (0, .ref (ax 0)), (1, .int p0), (2, .int p1), (3, .int p2)]) hx hb dL_act_88 hl (by decide) rfl (fun ls hl => ?_)
            refine lv_sipush (v := (-1151)) hx hb dL_act_90 (by decide) ?_
            have hP9 : va_P (eD E) vwCl (wX E ax gx lt mo ad ln PL pf pw pk lw lk ik) H := hP
            have hD9 : va_D A (wX E ax gx lt mo ad ln PL pf pw pk lw lk ik) := hD
            refine W.widen (k := 9) (n := 288) (Nat.le_of_ble_eq_true rfl) (Nat.le_of_ble_eq_true rfl) ?_
            exact W.iret (v := (-1151)) hx hb hr (fun t ht hW => ⟨⟨(-1151), (gx, lt, mo, ad, ln, PL, pf, pw, pk, lw, lk, ik), rfl, hw, ⟨by rw [ht]; exact hP9, hD9⟩⟩, hS.F ht⟩) hS.2.2 dL_act_93
          · skip
            subst hE
            refine vx_catch (E := sIA) (name := sIA) hown [⟨0, 87, 88, 33⟩] ⟨0, 87, 94, 35⟩ [] htb (fun z hz => Or.inr (by obtain rfl := List.mem_singleton.mp hz; exact ⟨by decide, sIB, (hta _ tw_232), hKE.2.2.2.2.2.2⟩)) (by decide) (by decide) (hta _ tw_233) (va_Nw.use rfl (hKE.2.1 _ (List.mem_of_getElem? (i := 22) rfl))) hq9 hcv hcl ?_
            refine lv_astore (lv' := [(4, .ref q9), (0, .ref (ax 0)), (1, .int p0), (2, .int p1), (3, .int p2)]) hx hb dL_act_94 hl (by decide) rfl (fun ls hl => ?_)
            refine lv_sipush (v := (-1152)) hx hb dL_act_96 (by decide) ?_
            have hP9 : va_P (eD E) vwCl (wX E ax gx lt mo ad ln PL pf pw pk lw lk ik) H := hP
            have hD9 : va_D A (wX E ax gx lt mo ad ln PL pf pw pk lw lk ik) := hD
            refine W.widen (k := 9) (n := 288) (Nat.le_of_ble_eq_true rfl) (Nat.le_of_ble_eq_true rfl) ?_
            exact W.iret (v := (-1152)) hx hb hr (fun t ht hW => ⟨⟨(-1152), (gx, lt, mo, ad, ln, PL, pf, pw, pk, lw, lk, ik), rfl, hw, ⟨by rw [ht]; exact hP9, hD9⟩⟩, hS.F ht⟩) hS.2.2 dL_act_99
        · obtain ⟨gx_763, lt_764, mo_765, ad_766, ln_767, PL_768, pf_769, pw_770, pk_771, lw_772, lk_773, ik_774⟩ := u
          obtain ⟨hP1, hD1⟩ := hB
          rw [ht] at hP1
          try dsimp only at hw hP1 hD1
          have hP : va_P (eD E) vwCl ([((ax 0), .inr (3, [.ref (ax 1), .ref (ax 2), .ref (ax 4), .ref (ax 6), .int (gx_763 4), .int (gx_763 5), .int (gx_763 6), .int (gx_763 7), va_rf lt_764, .int (gx_763 9), .int (gx_763 10), .int (gx_763 11), .int (gx_763 12), .int (gx_763 13), .int (gx_763 14), .int (gx_763 15), .int (gx_763 16), .int (gx_763 17), .int (gx_763 18)])), ((ax 1), .inr (0, [.int mo_765, .ref ad_766, .int ln_767])), ((ax 2), .inr (2, [.ref (ax 3), .int pk_771])), ((ax 3), .inl (eC E 1, 157, .inr (.inl pw_770))), ((ax 4), .inr (2, [.ref (ax 5), .int lk_773])), ((ax 5), .inl (eC E 1, 157, .inr (.inl lw_772))), ((ax 6), .inl (eC E 0, 3, .inl ik_774))] ++ va_pl PL_768 pf_769) H := hP1
          have hD : va_D A ([((ax 0), .inr (3, [.ref (ax 1), .ref (ax 2), .ref (ax 4), .ref (ax 6), .int (gx_763 4), .int (gx_763 5), .int (gx_763 6), .int (gx_763 7), va_rf lt_764, .int (gx_763 9), .int (gx_763 10), .int (gx_763 11), .int (gx_763 12), .int (gx_763 13), .int (gx_763 14), .int (gx_763 15), .int (gx_763 16), .int (gx_763 17), .int (gx_763 18)])), ((ax 1), .inr (0, [.int mo_765, .ref ad_766, .int ln_767])), ((ax 2), .inr (2, [.ref (ax 3), .int pk_771])), ((ax 3), .inl (eC E 1, 157, .inr (.inl pw_770))), ((ax 4), .inr (2, [.ref (ax 5), .int lk_773])), ((ax 5), .inl (eC E 1, 157, .inr (.inl lw_772))), ((ax 6), .inl (eC E 0, 3, .inl ik_774))] ++ va_pl PL_768 pf_769) := hD1.weaken (fun _ q _ h => hFc q.1 h)
          refine lv_goto (tgt := 87) hx hb dL_act_43 (by decide) ?_
          have hP9 : va_P (eD E) vwCl (wX E ax gx_763 lt_764 mo_765 ad_766 ln_767 PL_768 pf_769 pw_770 pk_771 lw_772 lk_773 ik_774) H := hP
          have hD9 : va_D A (wX E ax gx_763 lt_764 mo_765 ad_766 ln_767 PL_768 pf_769 pw_770 pk_771 lw_772 lk_773 ik_774) := hD
          refine W.widen (k := 9) (n := 288) (Nat.le_of_ble_eq_true rfl) (Nat.le_of_ble_eq_true rfl) ?_
          exact W.iret (v := r_762) hx hb hr (fun t ht hW => ⟨⟨r_762, (gx_763, lt_764, mo_765, ad_766, ln_767, PL_768, pf_769, pw_770, pk_771, lw_772, lk_773, ik_774), rfl, hw, ⟨by rw [ht]; exact hP9, hD9⟩⟩, hS.F ht⟩) hS.2.2 dL_act_87
    · have hw := hw.1 c_718
      refine lv_aload_n hx hb dL_act_25 rfl (lv_at hl 0 rfl) ?_
      refine lv_iload_n hx hb dL_act_26 rfl (lv_at hl 2 rfl) ?_
      have hPc : va_P (eD E) vwCl (wX E ax gx lt mo ad ln PL pf pw pk lw lk ik) s.heap := hP
      have hDc : va_D A (wX E ax gx lt mo ad ln PL pf pw pk lw lk ik) := hD
      have hFc : ∀ q, va_A (wX E ax gx lt mo ad ln PL pf pw pk lw lk ik) s.heap.size q → A q := frS hDc hS hA
      refine vx_calli (vx_runV (As := [.int p1]) (rest := []) ⟨hx, hb, hml, hown, hta⟩ (c_X2_tick E l ax gx lt mo ad ln PL pf pw pk lw lk ik p1 s.heap.size _ _ hw hst) (pcV (n := 1) hta tw_415 tw_412 tw_1 tw_413 tw_414 rfl rfl hd_X2_tick ⟨Nat.le_of_ble_eq_true rfl, Nat.le_of_ble_eq_true rfl⟩) ⟨fbM, va_recv hKE.1 hP (ci := 3) (q0 := 0) rfl rfl, fun U hU hW => ⟨rfl, preM.mk hPc hKE hDc hZ hS hFc hU hW⟩⟩ rfl rfl hl.1 rfl (lv_room (Nat.le_of_ble_eq_true rfl)) dL_act_27 ⟨Nat.le_of_ble_eq_true rfl, Nat.le_of_ble_eq_true rfl⟩) hS (fun q _ h => hFc q h) hFc (fun q _ h => hFc q h) (fun E9 ce q9 u t H locs ht hvm hpx hB hz1 hk1 hS hq9 hcv hcl => ?_) (fun r_775 u t H locs ht hvm hw hB hz1 hk1 hS => ?_)
      · obtain ⟨hw, hP1, hD1⟩ := hB
        rw [ht] at hP1
        try dsimp only at hw hP1 hD1
        have hP : va_P (eD E) vwCl ([((ax 0), .inr (3, [.ref (ax 1), .ref (ax 2), .ref (ax 4), .ref (ax 6), .int (gx 4), .int (gx 5), .int (gx 6), .int (gx 7), va_rf lt, .int (gx 9), .int (gx 10), .int (gx 11), .int (gx 12), .int (gx 13), .int (gx 14), .int (gx 15), .int (gx 16), .int (gx 17), .int (gx 18)])), ((ax 1), .inr (0, [.int mo, .ref ad, .int ln])), ((ax 2), .inr (2, [.ref (ax 3), .int pk])), ((ax 3), .inl (eC E 1, 157, .inr (.inl pw))), ((ax 4), .inr (2, [.ref (ax 5), .int lk])), ((ax 5), .inl (eC E 1, 157, .inr (.inl lw))), ((ax 6), .inl (eC E 0, 3, .inl ik))] ++ va_pl PL pf) H := hP1
        have hD : va_D A ([((ax 0), .inr (3, [.ref (ax 1), .ref (ax 2), .ref (ax 4), .ref (ax 6), .int (gx 4), .int (gx 5), .int (gx 6), .int (gx 7), va_rf lt, .int (gx 9), .int (gx 10), .int (gx 11), .int (gx 12), .int (gx 13), .int (gx 14), .int (gx 15), .int (gx 16), .int (gx 17), .int (gx 18)])), ((ax 1), .inr (0, [.int mo, .ref ad, .int ln])), ((ax 2), .inr (2, [.ref (ax 3), .int pk])), ((ax 3), .inl (eC E 1, 157, .inr (.inl pw))), ((ax 4), .inr (2, [.ref (ax 5), .int lk])), ((ax 5), .inl (eC E 1, 157, .inr (.inl lw))), ((ax 6), .inl (eC E 0, 3, .inl ik))] ++ va_pl PL pf) := hD1.weaken (fun _ q _ h => hFc q.1 h)
        rcases hw with ⟨hE, hw⟩ | ⟨hE, hw⟩
        · skip
          subst hE
          refine vx_catch (E := sIB) (name := sIB) hown [] ⟨0, 87, 88, 33⟩ [⟨0, 87, 94, 35⟩] htb (fun z hz => nomatch hz) (by decide) (by decide) (hta _ tw_232) (va_Nw.use rfl (hKE.2.1 _ (List.mem_of_getElem? (i := 21) rfl))) hq9 hcv hcl ?_
          refine lv_astore (lv' := [(4, .ref q9), (0, .ref (ax 0)), (1, .int p0), (2, .int p1), (3, .int p2)]) hx hb dL_act_88 hl (by decide) rfl (fun ls hl => ?_)
          refine lv_sipush (v := (-1151)) hx hb dL_act_90 (by decide) ?_
          have hP9 : va_P (eD E) vwCl (wX E ax gx lt mo ad ln PL pf pw pk lw lk ik) H := hP
          have hD9 : va_D A (wX E ax gx lt mo ad ln PL pf pw pk lw lk ik) := hD
          refine W.widen (k := 9) (n := 288) (Nat.le_of_ble_eq_true rfl) (Nat.le_of_ble_eq_true rfl) ?_
          exact W.iret (v := (-1151)) hx hb hr (fun t ht hW => ⟨⟨(-1151), (gx, lt, mo, ad, ln, PL, pf, pw, pk, lw, lk, ik), rfl, hw, ⟨by rw [ht]; exact hP9, hD9⟩⟩, hS.F ht⟩) hS.2.2 dL_act_93
        · skip
          subst hE
          refine vx_catch (E := sIA) (name := sIA) hown [⟨0, 87, 88, 33⟩] ⟨0, 87, 94, 35⟩ [] htb (fun z hz => Or.inr (by obtain rfl := List.mem_singleton.mp hz; exact ⟨by decide, sIB, (hta _ tw_232), hKE.2.2.2.2.2.2⟩)) (by decide) (by decide) (hta _ tw_233) (va_Nw.use rfl (hKE.2.1 _ (List.mem_of_getElem? (i := 22) rfl))) hq9 hcv hcl ?_
          refine lv_astore (lv' := [(4, .ref q9), (0, .ref (ax 0)), (1, .int p0), (2, .int p1), (3, .int p2)]) hx hb dL_act_94 hl (by decide) rfl (fun ls hl => ?_)
          refine lv_sipush (v := (-1152)) hx hb dL_act_96 (by decide) ?_
          have hP9 : va_P (eD E) vwCl (wX E ax gx lt mo ad ln PL pf pw pk lw lk ik) H := hP
          have hD9 : va_D A (wX E ax gx lt mo ad ln PL pf pw pk lw lk ik) := hD
          refine W.widen (k := 9) (n := 288) (Nat.le_of_ble_eq_true rfl) (Nat.le_of_ble_eq_true rfl) ?_
          exact W.iret (v := (-1152)) hx hb hr (fun t ht hW => ⟨⟨(-1152), (gx, lt, mo, ad, ln, PL, pf, pw, pk, lw, lk, ik), rfl, hw, ⟨by rw [ht]; exact hP9, hD9⟩⟩, hS.F ht⟩) hS.2.2 dL_act_99
      · obtain ⟨gx_776, lt_777, mo_778, ad_779, ln_780, PL_781, pf_782, pw_783, pk_784, lw_785, lk_786, ik_787⟩ := u
        obtain ⟨hP1, hD1⟩ := hB
        rw [ht] at hP1
        try dsimp only at hw hP1 hD1
        have hP : va_P (eD E) vwCl ([((ax 0), .inr (3, [.ref (ax 1), .ref (ax 2), .ref (ax 4), .ref (ax 6), .int (gx_776 4), .int (gx_776 5), .int (gx_776 6), .int (gx_776 7), va_rf lt_777, .int (gx_776 9), .int (gx_776 10), .int (gx_776 11), .int (gx_776 12), .int (gx_776 13), .int (gx_776 14), .int (gx_776 15), .int (gx_776 16), .int (gx_776 17), .int (gx_776 18)])), ((ax 1), .inr (0, [.int mo_778, .ref ad_779, .int ln_780])), ((ax 2), .inr (2, [.ref (ax 3), .int pk_784])), ((ax 3), .inl (eC E 1, 157, .inr (.inl pw_783))), ((ax 4), .inr (2, [.ref (ax 5), .int lk_786])), ((ax 5), .inl (eC E 1, 157, .inr (.inl lw_785))), ((ax 6), .inl (eC E 0, 3, .inl ik_787))] ++ va_pl PL_781 pf_782) H := hP1
        have hD : va_D A ([((ax 0), .inr (3, [.ref (ax 1), .ref (ax 2), .ref (ax 4), .ref (ax 6), .int (gx_776 4), .int (gx_776 5), .int (gx_776 6), .int (gx_776 7), va_rf lt_777, .int (gx_776 9), .int (gx_776 10), .int (gx_776 11), .int (gx_776 12), .int (gx_776 13), .int (gx_776 14), .int (gx_776 15), .int (gx_776 16), .int (gx_776 17), .int (gx_776 18)])), ((ax 1), .inr (0, [.int mo_778, .ref ad_779, .int ln_780])), ((ax 2), .inr (2, [.ref (ax 3), .int pk_784])), ((ax 3), .inl (eC E 1, 157, .inr (.inl pw_783))), ((ax 4), .inr (2, [.ref (ax 5), .int lk_786])), ((ax 5), .inl (eC E 1, 157, .inr (.inl lw_785))), ((ax 6), .inl (eC E 0, 3, .inl ik_787))] ++ va_pl PL_781 pf_782) := hD1.weaken (fun _ q _ h => hFc q.1 h)
        refine lv_goto (tgt := 87) hx hb dL_act_30 (by decide) ?_
        have hP9 : va_P (eD E) vwCl (wX E ax gx_776 lt_777 mo_778 ad_779 ln_780 PL_781 pf_782 pw_783 pk_784 lw_785 lk_786 ik_787) H := hP
        have hD9 : va_D A (wX E ax gx_776 lt_777 mo_778 ad_779 ln_780 PL_781 pf_782 pw_783 pk_784 lw_785 lk_786 ik_787) := hD
        refine W.widen (k := 9) (n := 288) (Nat.le_of_ble_eq_true rfl) (Nat.le_of_ble_eq_true rfl) ?_
        exact W.iret (v := r_775) hx hb hr (fun t ht hW => ⟨⟨r_775, (gx_776, lt_777, mo_778, ad_779, ln_780, PL_781, pf_782, pw_783, pk_784, lw_785, lk_786, ik_787), rfl, hw, ⟨by rw [ht]; exact hP9, hD9⟩⟩, hS.F ht⟩) hS.2.2 dL_act_87
  · have hw := hw.1 c_717
    refine lv_aload_n hx hb dL_act_4 rfl (lv_at hl 0 rfl) ?_
    refine lv_iload_n hx hb dL_act_5 rfl (lv_at hl 2 rfl) ?_
    have hPc : va_P (eD E) vwCl (wX E ax gx lt mo ad ln PL pf pw pk lw lk ik) s.heap := hP
    have hDc : va_D A (wX E ax gx lt mo ad ln PL pf pw pk lw lk ik) := hD
    have hFc : ∀ q, va_A (wX E ax gx lt mo ad ln PL pf pw pk lw lk ik) s.heap.size q → A q := frS hDc hS hA
    refine vx_calli (vx_runV (As := [.int p1]) (rest := []) ⟨hx, hb, hml, hown, hta⟩ (c_X2_feed E l ax gx lt mo ad ln PL pf pw pk lw lk ik p1 s.heap.size _ _ hw hst) (pcV (n := 1) hta tw_237 tw_234 tw_1 tw_235 tw_236 rfl rfl hd_X2_feed ⟨Nat.le_of_ble_eq_true rfl, Nat.le_of_ble_eq_true rfl⟩) ⟨fbM, va_recv hKE.1 hP (ci := 3) (q0 := 0) rfl rfl, fun U hU hW => ⟨rfl, preM.mk hPc hKE hDc hZ hS hFc hU hW⟩⟩ rfl rfl hl.1 rfl (lv_room (Nat.le_of_ble_eq_true rfl)) dL_act_6 ⟨Nat.le_of_ble_eq_true rfl, Nat.le_of_ble_eq_true rfl⟩) hS (fun q _ h => hFc q h) hFc (fun q _ h => hFc q h) (fun E9 ce q9 u t H locs ht hvm hpx hB hz1 hk1 hS hq9 hcv hcl => ?_) (fun r_788 u t H locs ht hvm hw hB hz1 hk1 hS => ?_)
    · obtain ⟨hw, hP1, hD1⟩ := hB
      rw [ht] at hP1
      try dsimp only at hw hP1 hD1
      have hP : va_P (eD E) vwCl ([((ax 0), .inr (3, [.ref (ax 1), .ref (ax 2), .ref (ax 4), .ref (ax 6), .int (gx 4), .int (gx 5), .int (gx 6), .int (gx 7), va_rf lt, .int (gx 9), .int (gx 10), .int (gx 11), .int (gx 12), .int (gx 13), .int (gx 14), .int (gx 15), .int (gx 16), .int (gx 17), .int (gx 18)])), ((ax 1), .inr (0, [.int mo, .ref ad, .int ln])), ((ax 2), .inr (2, [.ref (ax 3), .int pk])), ((ax 3), .inl (eC E 1, 157, .inr (.inl pw))), ((ax 4), .inr (2, [.ref (ax 5), .int lk])), ((ax 5), .inl (eC E 1, 157, .inr (.inl lw))), ((ax 6), .inl (eC E 0, 3, .inl ik))] ++ va_pl PL pf) H := hP1
      have hD : va_D A ([((ax 0), .inr (3, [.ref (ax 1), .ref (ax 2), .ref (ax 4), .ref (ax 6), .int (gx 4), .int (gx 5), .int (gx 6), .int (gx 7), va_rf lt, .int (gx 9), .int (gx 10), .int (gx 11), .int (gx 12), .int (gx 13), .int (gx 14), .int (gx 15), .int (gx 16), .int (gx 17), .int (gx 18)])), ((ax 1), .inr (0, [.int mo, .ref ad, .int ln])), ((ax 2), .inr (2, [.ref (ax 3), .int pk])), ((ax 3), .inl (eC E 1, 157, .inr (.inl pw))), ((ax 4), .inr (2, [.ref (ax 5), .int lk])), ((ax 5), .inl (eC E 1, 157, .inr (.inl lw))), ((ax 6), .inl (eC E 0, 3, .inl ik))] ++ va_pl PL pf) := hD1.weaken (fun _ q _ h => hFc q.1 h)
      rcases hw with ⟨hE, hw⟩ | ⟨hE, hw⟩
      · skip
        subst hE
        refine vx_catch (E := sIB) (name := sIB) hown [] ⟨0, 87, 88, 33⟩ [⟨0, 87, 94, 35⟩] htb (fun z hz => nomatch hz) (by decide) (by decide) (hta _ tw_232) (va_Nw.use rfl (hKE.2.1 _ (List.mem_of_getElem? (i := 21) rfl))) hq9 hcv hcl ?_
        refine lv_astore (lv' := [(4, .ref q9), (0, .ref (ax 0)), (1, .int p0), (2, .int p1), (3, .int p2)]) hx hb dL_act_88 hl (by decide) rfl (fun ls hl => ?_)
        refine lv_sipush (v := (-1151)) hx hb dL_act_90 (by decide) ?_
        have hP9 : va_P (eD E) vwCl (wX E ax gx lt mo ad ln PL pf pw pk lw lk ik) H := hP
        have hD9 : va_D A (wX E ax gx lt mo ad ln PL pf pw pk lw lk ik) := hD
        exact W.iret (v := (-1151)) hx hb hr (fun t ht hW => ⟨⟨(-1151), (gx, lt, mo, ad, ln, PL, pf, pw, pk, lw, lk, ik), rfl, hw, ⟨by rw [ht]; exact hP9, hD9⟩⟩, hS.F ht⟩) hS.2.2 dL_act_93
      · skip
        subst hE
        refine vx_catch (E := sIA) (name := sIA) hown [⟨0, 87, 88, 33⟩] ⟨0, 87, 94, 35⟩ [] htb (fun z hz => Or.inr (by obtain rfl := List.mem_singleton.mp hz; exact ⟨by decide, sIB, (hta _ tw_232), hKE.2.2.2.2.2.2⟩)) (by decide) (by decide) (hta _ tw_233) (va_Nw.use rfl (hKE.2.1 _ (List.mem_of_getElem? (i := 22) rfl))) hq9 hcv hcl ?_
        refine lv_astore (lv' := [(4, .ref q9), (0, .ref (ax 0)), (1, .int p0), (2, .int p1), (3, .int p2)]) hx hb dL_act_94 hl (by decide) rfl (fun ls hl => ?_)
        refine lv_sipush (v := (-1152)) hx hb dL_act_96 (by decide) ?_
        have hP9 : va_P (eD E) vwCl (wX E ax gx lt mo ad ln PL pf pw pk lw lk ik) H := hP
        have hD9 : va_D A (wX E ax gx lt mo ad ln PL pf pw pk lw lk ik) := hD
        exact W.iret (v := (-1152)) hx hb hr (fun t ht hW => ⟨⟨(-1152), (gx, lt, mo, ad, ln, PL, pf, pw, pk, lw, lk, ik), rfl, hw, ⟨by rw [ht]; exact hP9, hD9⟩⟩, hS.F ht⟩) hS.2.2 dL_act_99
    · obtain ⟨gx_789, lt_790, mo_791, ad_792, ln_793, PL_794, pf_795, pw_796, pk_797, lw_798, lk_799, ik_800⟩ := u
      obtain ⟨hP1, hD1⟩ := hB
      rw [ht] at hP1
      try dsimp only at hw hP1 hD1
      have hP : va_P (eD E) vwCl ([((ax 0), .inr (3, [.ref (ax 1), .ref (ax 2), .ref (ax 4), .ref (ax 6), .int (gx_789 4), .int (gx_789 5), .int (gx_789 6), .int (gx_789 7), va_rf lt_790, .int (gx_789 9), .int (gx_789 10), .int (gx_789 11), .int (gx_789 12), .int (gx_789 13), .int (gx_789 14), .int (gx_789 15), .int (gx_789 16), .int (gx_789 17), .int (gx_789 18)])), ((ax 1), .inr (0, [.int mo_791, .ref ad_792, .int ln_793])), ((ax 2), .inr (2, [.ref (ax 3), .int pk_797])), ((ax 3), .inl (eC E 1, 157, .inr (.inl pw_796))), ((ax 4), .inr (2, [.ref (ax 5), .int lk_799])), ((ax 5), .inl (eC E 1, 157, .inr (.inl lw_798))), ((ax 6), .inl (eC E 0, 3, .inl ik_800))] ++ va_pl PL_794 pf_795) H := hP1
      have hD : va_D A ([((ax 0), .inr (3, [.ref (ax 1), .ref (ax 2), .ref (ax 4), .ref (ax 6), .int (gx_789 4), .int (gx_789 5), .int (gx_789 6), .int (gx_789 7), va_rf lt_790, .int (gx_789 9), .int (gx_789 10), .int (gx_789 11), .int (gx_789 12), .int (gx_789 13), .int (gx_789 14), .int (gx_789 15), .int (gx_789 16), .int (gx_789 17), .int (gx_789 18)])), ((ax 1), .inr (0, [.int mo_791, .ref ad_792, .int ln_793])), ((ax 2), .inr (2, [.ref (ax 3), .int pk_797])), ((ax 3), .inl (eC E 1, 157, .inr (.inl pw_796))), ((ax 4), .inr (2, [.ref (ax 5), .int lk_799])), ((ax 5), .inl (eC E 1, 157, .inr (.inl lw_798))), ((ax 6), .inl (eC E 0, 3, .inl ik_800))] ++ va_pl PL_794 pf_795) := hD1.weaken (fun _ q _ h => hFc q.1 h)
      refine lv_if_eq (tgt := 16) hx hb dL_act_9 (by decide) (fun c_801 => ?_) (fun c_801 => ?_)
      · have hw := hw.1 c_801
        refine lv_iconst (v := 0) hx hb dL_act_16 (by decide) ?_
        refine lv_goto (tgt := 87) hx hb dL_act_17 (by decide) ?_
        have hP9 : va_P (eD E) vwCl (wX E ax gx_789 lt_790 mo_791 ad_792 ln_793 PL_794 pf_795 pw_796 pk_797 lw_798 lk_799 ik_800) H := hP
        have hD9 : va_D A (wX E ax gx_789 lt_790 mo_791 ad_792 ln_793 PL_794 pf_795 pw_796 pk_797 lw_798 lk_799 ik_800) := hD
        exact W.iret (v := 0) hx hb hr (fun t ht hW => ⟨⟨0, (gx_789, lt_790, mo_791, ad_792, ln_793, PL_794, pf_795, pw_796, pk_797, lw_798, lk_799, ik_800), rfl, hw, ⟨by rw [ht]; exact hP9, hD9⟩⟩, hS.F ht⟩) hS.2.2 dL_act_87
      · have hw := hw.2 c_801
        refine lv_iconst (v := 1) hx hb dL_act_12 (by decide) ?_
        refine lv_goto (tgt := 87) hx hb dL_act_13 (by decide) ?_
        have hP9 : va_P (eD E) vwCl (wX E ax gx_789 lt_790 mo_791 ad_792 ln_793 PL_794 pf_795 pw_796 pk_797 lw_798 lk_799 ik_800) H := hP
        have hD9 : va_D A (wX E ax gx_789 lt_790 mo_791 ad_792 ln_793 PL_794 pf_795 pw_796 pk_797 lw_798 lk_799 ik_800) := hD
        exact W.iret (v := 1) hx hb hr (fun t ht hW => ⟨⟨1, (gx_789, lt_790, mo_791, ad_792, ln_793, PL_794, pf_795, pw_796, pk_797, lw_798, lk_799, ik_800), rfl, hw, ⟨by rw [ht]; exact hP9, hD9⟩⟩, hS.F ht⟩) hS.2.2 dL_act_87
def wp_L_all (E : EV) (post : Int64 → Prop) (gx : Nat → Int32) (lt : Option Nat) (mo : Int32) (ad : Nat) (ln : Int32) (PL : List Nat) (pf : Nat → va_E) (pw : Nat → Int64) (pk : Int32) (lw : Nat → Int64) (lk : Int32) (ik : Nat → Int32) : Prop := (wp_X2_errors E (fun r_802 : Int32 => (wp_X2_queued E (fun r_803 : Int32 => (wp_X2_pending E (fun r_804 : Int32 => (wp_X2_at E (fun r_805 : Int32 => (wp_X2_timeLeft E (fun r_806 : Int32 => (wp_X2_marks E (fun r_807 : Int32 => (wp_X2_marksInTheEnd E (fun r_808 : Int32 => (wp_X2_pen E (fun r_809 : Int32 => (wp_X2_stepsUp E (fun r_810 : Int32 => (wp_X2_stepsDown E (fun r_811 : Int32 => (wp_X2_ink_r E (fun r_812 : Int32 => (wp_X2_ink_r E (fun r_813 : Int32 => (wp_X2_ink_r E (fun r_814 : Int32 => (wp_X2_isDown E (fun r_815 : Int32 => ((r_815 = 0 → (wp_X2_isWaiting E (fun r_817 : Int32 => ((r_817 = 0 → post (((((((((((((((r_802.toInt64) + ((31 : Int64) * (r_803.toInt64))) + ((1009 : Int64) * (r_804.toInt64))) + ((65537 : Int64) * (r_805.toInt64))) + ((7 : Int64) * (r_806.toInt64))) + ((1000003 : Int64) * (r_807.toInt64))) + ((17 : Int64) * (r_808.toInt64))) + ((257 : Int64) * (r_809.toInt64))) + ((769 : Int64) * (r_810.toInt64))) + ((6151 : Int64) * (r_811.toInt64))) + (r_812.toInt64)) + ((3 : Int64) * (r_813.toInt64))) + ((5 : Int64) * (r_814.toInt64))) + 0) + 0)) ∧ (¬ (r_817 = 0) → post (((((((((((((((r_802.toInt64) + ((31 : Int64) * (r_803.toInt64))) + ((1009 : Int64) * (r_804.toInt64))) + ((65537 : Int64) * (r_805.toInt64))) + ((7 : Int64) * (r_806.toInt64))) + ((1000003 : Int64) * (r_807.toInt64))) + ((17 : Int64) * (r_808.toInt64))) + ((257 : Int64) * (r_809.toInt64))) + ((769 : Int64) * (r_810.toInt64))) + ((6151 : Int64) * (r_811.toInt64))) + (r_812.toInt64)) + ((3 : Int64) * (r_813.toInt64))) + ((5 : Int64) * (r_814.toInt64))) + 0) + (13 : Int64))))) gx lt mo ad ln PL pf pw pk lw lk ik)) ∧ (¬ (r_815 = 0) → (wp_X2_isWaiting E (fun r_819 : Int32 => ((r_819 = 0 → post (((((((((((((((r_802.toInt64) + ((31 : Int64) * (r_803.toInt64))) + ((1009 : Int64) * (r_804.toInt64))) + ((65537 : Int64) * (r_805.toInt64))) + ((7 : Int64) * (r_806.toInt64))) + ((1000003 : Int64) * (r_807.toInt64))) + ((17 : Int64) * (r_808.toInt64))) + ((257 : Int64) * (r_809.toInt64))) + ((769 : Int64) * (r_810.toInt64))) + ((6151 : Int64) * (r_811.toInt64))) + (r_812.toInt64)) + ((3 : Int64) * (r_813.toInt64))) + ((5 : Int64) * (r_814.toInt64))) + (11 : Int64)) + 0)) ∧ (¬ (r_819 = 0) → post (((((((((((((((r_802.toInt64) + ((31 : Int64) * (r_803.toInt64))) + ((1009 : Int64) * (r_804.toInt64))) + ((65537 : Int64) * (r_805.toInt64))) + ((7 : Int64) * (r_806.toInt64))) + ((1000003 : Int64) * (r_807.toInt64))) + ((17 : Int64) * (r_808.toInt64))) + ((257 : Int64) * (r_809.toInt64))) + ((769 : Int64) * (r_810.toInt64))) + ((6151 : Int64) * (r_811.toInt64))) + (r_812.toInt64)) + ((3 : Int64) * (r_813.toInt64))) + ((5 : Int64) * (r_814.toInt64))) + (11 : Int64)) + (13 : Int64))))) gx lt mo ad ln PL pf pw pk lw lk ik)))) gx lt mo ad ln PL pf pw pk lw lk ik)) gx lt mo ad ln PL pf pw pk lw lk ik 2)) gx lt mo ad ln PL pf pw pk lw lk ik 1)) gx lt mo ad ln PL pf pw pk lw lk ik 0)) gx lt mo ad ln PL pf pw pk lw lk ik)) gx lt mo ad ln PL pf pw pk lw lk ik)) gx lt mo ad ln PL pf pw pk lw lk ik)) gx lt mo ad ln PL pf pw pk lw lk ik)) gx lt mo ad ln PL pf pw pk lw lk ik)) gx lt mo ad ln PL pf pw pk lw lk ik)) gx lt mo ad ln PL pf pw pk lw lk ik)) gx lt mo ad ln PL pf pw pk lw lk ik)) gx lt mo ad ln PL pf pw pk lw lk ik)) gx lt mo ad ln PL pf pw pk lw lk ik)
set_option maxHeartbeats 4000000 in
set_option maxRecDepth 100000 in
theorem c_L_all (E : EV) (l : Launch) (ax : Nat → Nat) (gx : Nat → Int32) (lt : Option Nat) (mo : Int32) (ad : Nat) (ln : Int32) (PL : List Nat) (pf : Nat → va_E) (pw : Nat → Int64) (pk : Int32) (lw : Nat → Int64) (lk : Int32) (ik : Nat → Int32) (post : Int64 → Prop) (hw : wp_L_all E post gx lt mo ad ln PL pf pw pk lw lk ik) : Met l yL_all (Cond.code yL_all cL_all 1 (some .long) :: ALLW) ({ frames := 6, cells := 0, slots := 0, locals := 125 } : Room) (va_Pc [.ref (ax 0)] (preR E (wX E ax gx lt mo ad ln PL pf pw pk lw lk ik))) (vp_Sl post) 0 0 (fun _ => False) := by
  refine Met.ofW (cc := cL_all) (maxL := 1) (ret := (some .long)) (by decide) rfl ?_
  intro p e s m args below meth c s₁ B hml hv
  obtain ⟨rfl, hpre⟩ := hv
  have hx := B.exec
  have hb := B.bytes
  have hr := B.returns
  have hlocks := B.notSynchronized
  have hts := atoms_spec (ws := (Cond.code yL_all cL_all 1 (some .long) :: ALLW)) B.pre
  have hta : ∀ w ∈ ALLW, w.before ([.ref (ax 0)] : List Value).toArray s = true := fun w h => hts w (List.mem_cons_of_mem _ h)
  have hown : s.vm.findClass RL = some m.cls := findClass_of_methodNamed B.named
  obtain ⟨hP, hKE⟩ := hpre
  have hP : va_P (eD E) vwCl ([((ax 0), .inr (3, [.ref (ax 1), .ref (ax 2), .ref (ax 4), .ref (ax 6), .int (gx 4), .int (gx 5), .int (gx 6), .int (gx 7), va_rf lt, .int (gx 9), .int (gx 10), .int (gx 11), .int (gx 12), .int (gx 13), .int (gx 14), .int (gx 15), .int (gx 16), .int (gx 17), .int (gx 18)])), ((ax 1), .inr (0, [.int mo, .ref ad, .int ln])), ((ax 2), .inr (2, [.ref (ax 3), .int pk])), ((ax 3), .inl (eC E 1, 157, .inr (.inl pw))), ((ax 4), .inr (2, [.ref (ax 5), .int lk])), ((ax 5), .inl (eC E 1, 157, .inr (.inl lw))), ((ax 6), .inl (eC E 0, 3, .inl ik))] ++ va_pl PL pf) s.heap := hP
  have hl := lv_entry ([.ref (ax 0)]) (n := 1) (Nat.le_of_ble_eq_true rfl)
  rw [lg_entry_eq]
  generalize (lg_sl ([.ref (ax 0)]) ++ List.replicate (1 - (lg_sl ([.ref (ax 0)])).length) Slot.unset).toArray = ls at hl ⊢
  have hl : lv_has ls 1 [(0, .ref (ax 0))] := hl
  unfold wp_L_all at hw
  refine lv_aload_n hx hb dL_all_0 rfl (lv_at hl 0 rfl) ?_
  have hPc : va_P (eD E) vwCl (wX E ax gx lt mo ad ln PL pf pw pk lw lk ik) s.heap := hP
  refine vp_callSi (va_Run.run (va_runV (As := []) (rest := []) ⟨hx, hb, hml, hown, hta⟩ (c_X2_errors E l ax gx lt mo ad ln PL pf pw pk lw lk ik _ hw) (pcV (n := 0) hta tw_514 tw_511 tw_1 tw_512 tw_513 rfl rfl hd_X2_errors ⟨Nat.le_of_ble_eq_true rfl, Nat.le_of_ble_eq_true rfl⟩) ⟨fbR, va_recv hKE.1 hP (ci := 3) (q0 := 0) rfl rfl, fun U hU hW => ⟨rfl, preR.mk hPc hKE hU hW⟩⟩ rfl rfl hl.1 rfl (lv_room (Nat.le_of_ble_eq_true rfl)) dL_all_1 ⟨Nat.le_of_ble_eq_true rfl, Nat.le_of_ble_eq_true rfl⟩)) (fun r_802 hw => ?_)
  refine lv_i2l hx hb dL_all_4 rfl ?_
  refine lv_ldc2 hx hb hown (v := 31) (hta _ tw_549) dL_all_5 ?_
  refine lv_aload_n hx hb dL_all_8 rfl (lv_at hl 0 rfl) ?_
  have hPc : va_P (eD E) vwCl (wX E ax gx lt mo ad ln PL pf pw pk lw lk ik) s.heap := hP
  refine vp_callSi (va_Run.run (va_runV (As := []) (rest := [.long (31 : Int64), .long (r_802.toInt64)]) ⟨hx, hb, hml, hown, hta⟩ (c_X2_queued E l ax gx lt mo ad ln PL pf pw pk lw lk ik _ hw) (pcV (n := 0) hta tw_510 tw_507 tw_1 tw_508 tw_509 rfl rfl hd_X2_queued ⟨Nat.le_of_ble_eq_true rfl, Nat.le_of_ble_eq_true rfl⟩) ⟨fbR, va_recv hKE.1 hP (ci := 3) (q0 := 0) rfl rfl, fun U hU hW => ⟨rfl, preR.mk hPc hKE hU hW⟩⟩ rfl rfl hl.1 rfl (lv_room (Nat.le_of_ble_eq_true rfl)) dL_all_9 ⟨Nat.le_of_ble_eq_true rfl, Nat.le_of_ble_eq_true rfl⟩)) (fun r_803 hw => ?_)
  refine lv_i2l hx hb dL_all_12 rfl ?_
  refine lv_lmul hx hb dL_all_13 ?_
  refine lv_ladd hx hb dL_all_14 ?_
  refine lv_ldc2 hx hb hown (v := 1009) (hta _ tw_550) dL_all_15 ?_
  refine lv_aload_n hx hb dL_all_18 rfl (lv_at hl 0 rfl) ?_
  have hPc : va_P (eD E) vwCl (wX E ax gx lt mo ad ln PL pf pw pk lw lk ik) s.heap := hP
  refine vp_callSi (va_Run.run (va_runV (As := []) (rest := [.long (1009 : Int64), .long ((r_802.toInt64) + ((31 : Int64) * (r_803.toInt64)))]) ⟨hx, hb, hml, hown, hta⟩ (c_X2_pending E l ax gx lt mo ad ln PL pf pw pk lw lk ik _ hw) (pcV (n := 0) hta tw_129 tw_126 tw_1 tw_127 tw_128 rfl rfl hd_X2_pending ⟨Nat.le_of_ble_eq_true rfl, Nat.le_of_ble_eq_true rfl⟩) ⟨fbR, va_recv hKE.1 hP (ci := 3) (q0 := 0) rfl rfl, fun U hU hW => ⟨rfl, preR.mk hPc hKE hU hW⟩⟩ rfl rfl hl.1 rfl (lv_room (Nat.le_of_ble_eq_true rfl)) dL_all_19 ⟨Nat.le_of_ble_eq_true rfl, Nat.le_of_ble_eq_true rfl⟩)) (fun r_804 hw => ?_)
  refine lv_i2l hx hb dL_all_22 rfl ?_
  refine lv_lmul hx hb dL_all_23 ?_
  refine lv_ladd hx hb dL_all_24 ?_
  refine lv_ldc2 hx hb hown (v := 65537) (hta _ tw_551) dL_all_25 ?_
  refine lv_aload_n hx hb dL_all_28 rfl (lv_at hl 0 rfl) ?_
  have hPc : va_P (eD E) vwCl (wX E ax gx lt mo ad ln PL pf pw pk lw lk ik) s.heap := hP
  refine vp_callSi (va_Run.run (va_runV (As := []) (rest := [.long (65537 : Int64), .long (((r_802.toInt64) + ((31 : Int64) * (r_803.toInt64))) + ((1009 : Int64) * (r_804.toInt64)))]) ⟨hx, hb, hml, hown, hta⟩ (c_X2_at E l ax gx lt mo ad ln PL pf pw pk lw lk ik _ hw) (pcV (n := 0) hta tw_522 tw_519 tw_1 tw_520 tw_521 rfl rfl hd_X2_at ⟨Nat.le_of_ble_eq_true rfl, Nat.le_of_ble_eq_true rfl⟩) ⟨fbR, va_recv hKE.1 hP (ci := 3) (q0 := 0) rfl rfl, fun U hU hW => ⟨rfl, preR.mk hPc hKE hU hW⟩⟩ rfl rfl hl.1 rfl (lv_room (Nat.le_of_ble_eq_true rfl)) dL_all_29 ⟨Nat.le_of_ble_eq_true rfl, Nat.le_of_ble_eq_true rfl⟩)) (fun r_805 hw => ?_)
  refine lv_i2l hx hb dL_all_32 rfl ?_
  refine lv_lmul hx hb dL_all_33 ?_
  refine lv_ladd hx hb dL_all_34 ?_
  refine lv_ldc2 hx hb hown (v := 7) (hta _ tw_552) dL_all_35 ?_
  refine lv_aload_n hx hb dL_all_38 rfl (lv_at hl 0 rfl) ?_
  have hPc : va_P (eD E) vwCl (wX E ax gx lt mo ad ln PL pf pw pk lw lk ik) s.heap := hP
  refine vp_callSi (va_Run.run (va_runV (As := []) (rest := [.long (7 : Int64), .long ((((r_802.toInt64) + ((31 : Int64) * (r_803.toInt64))) + ((1009 : Int64) * (r_804.toInt64))) + ((65537 : Int64) * (r_805.toInt64)))]) ⟨hx, hb, hml, hown, hta⟩ (c_X2_timeLeft E l ax gx lt mo ad ln PL pf pw pk lw lk ik _ hw) (pcV (n := 0) hta tw_518 tw_515 tw_1 tw_516 tw_517 rfl rfl hd_X2_timeLeft ⟨Nat.le_of_ble_eq_true rfl, Nat.le_of_ble_eq_true rfl⟩) ⟨fbR, va_recv hKE.1 hP (ci := 3) (q0 := 0) rfl rfl, fun U hU hW => ⟨rfl, preR.mk hPc hKE hU hW⟩⟩ rfl rfl hl.1 rfl (lv_room (Nat.le_of_ble_eq_true rfl)) dL_all_39 ⟨Nat.le_of_ble_eq_true rfl, Nat.le_of_ble_eq_true rfl⟩)) (fun r_806 hw => ?_)
  refine lv_i2l hx hb dL_all_42 rfl ?_
  refine lv_lmul hx hb dL_all_43 ?_
  refine lv_ladd hx hb dL_all_44 ?_
  refine lv_ldc2 hx hb hown (v := 1000003) (hta _ tw_553) dL_all_45 ?_
  refine lv_aload_n hx hb dL_all_48 rfl (lv_at hl 0 rfl) ?_
  have hPc : va_P (eD E) vwCl (wX E ax gx lt mo ad ln PL pf pw pk lw lk ik) s.heap := hP
  refine vp_callSi (va_Run.run (va_runV (As := []) (rest := [.long (1000003 : Int64), .long (((((r_802.toInt64) + ((31 : Int64) * (r_803.toInt64))) + ((1009 : Int64) * (r_804.toInt64))) + ((65537 : Int64) * (r_805.toInt64))) + ((7 : Int64) * (r_806.toInt64)))]) ⟨hx, hb, hml, hown, hta⟩ (c_X2_marks E l ax gx lt mo ad ln PL pf pw pk lw lk ik _ hw) (pcV (n := 0) hta tw_219 tw_216 tw_1 tw_217 tw_218 rfl rfl hd_X2_marks ⟨Nat.le_of_ble_eq_true rfl, Nat.le_of_ble_eq_true rfl⟩) ⟨fbR, va_recv hKE.1 hP (ci := 3) (q0 := 0) rfl rfl, fun U hU hW => ⟨rfl, preR.mk hPc hKE hU hW⟩⟩ rfl rfl hl.1 rfl (lv_room (Nat.le_of_ble_eq_true rfl)) dL_all_49 ⟨Nat.le_of_ble_eq_true rfl, Nat.le_of_ble_eq_true rfl⟩)) (fun r_807 hw => ?_)
  refine lv_i2l hx hb dL_all_52 rfl ?_
  refine lv_lmul hx hb dL_all_53 ?_
  refine lv_ladd hx hb dL_all_54 ?_
  refine lv_ldc2 hx hb hown (v := 17) (hta _ tw_554) dL_all_55 ?_
  refine lv_aload_n hx hb dL_all_58 rfl (lv_at hl 0 rfl) ?_
  have hPc : va_P (eD E) vwCl (wX E ax gx lt mo ad ln PL pf pw pk lw lk ik) s.heap := hP
  refine vp_callSi (va_Run.run (va_runV (As := []) (rest := [.long (17 : Int64), .long ((((((r_802.toInt64) + ((31 : Int64) * (r_803.toInt64))) + ((1009 : Int64) * (r_804.toInt64))) + ((65537 : Int64) * (r_805.toInt64))) + ((7 : Int64) * (r_806.toInt64))) + ((1000003 : Int64) * (r_807.toInt64)))]) ⟨hx, hb, hml, hown, hta⟩ (c_X2_marksInTheEnd E l ax gx lt mo ad ln PL pf pw pk lw lk ik _ hw) (pcV (n := 0) hta tw_223 tw_220 tw_1 tw_221 tw_222 rfl rfl hd_X2_marksInTheEnd ⟨Nat.le_of_ble_eq_true rfl, Nat.le_of_ble_eq_true rfl⟩) ⟨fbR, va_recv hKE.1 hP (ci := 3) (q0 := 0) rfl rfl, fun U hU hW => ⟨rfl, preR.mk hPc hKE hU hW⟩⟩ rfl rfl hl.1 rfl (lv_room (Nat.le_of_ble_eq_true rfl)) dL_all_59 ⟨Nat.le_of_ble_eq_true rfl, Nat.le_of_ble_eq_true rfl⟩)) (fun r_808 hw => ?_)
  refine lv_i2l hx hb dL_all_62 rfl ?_
  refine lv_lmul hx hb dL_all_63 ?_
  refine lv_ladd hx hb dL_all_64 ?_
  refine lv_ldc2 hx hb hown (v := 257) (hta _ tw_555) dL_all_65 ?_
  refine lv_aload_n hx hb dL_all_68 rfl (lv_at hl 0 rfl) ?_
  have hPc : va_P (eD E) vwCl (wX E ax gx lt mo ad ln PL pf pw pk lw lk ik) s.heap := hP
  refine vp_callSi (va_Run.run (va_runV (As := []) (rest := [.long (257 : Int64), .long (((((((r_802.toInt64) + ((31 : Int64) * (r_803.toInt64))) + ((1009 : Int64) * (r_804.toInt64))) + ((65537 : Int64) * (r_805.toInt64))) + ((7 : Int64) * (r_806.toInt64))) + ((1000003 : Int64) * (r_807.toInt64))) + ((17 : Int64) * (r_808.toInt64)))]) ⟨hx, hb, hml, hown, hta⟩ (c_X2_pen E l ax gx lt mo ad ln PL pf pw pk lw lk ik _ hw) (pcV (n := 0) hta tw_137 tw_134 tw_1 tw_135 tw_136 rfl rfl hd_X2_pen ⟨Nat.le_of_ble_eq_true rfl, Nat.le_of_ble_eq_true rfl⟩) ⟨fbR, va_recv hKE.1 hP (ci := 3) (q0 := 0) rfl rfl, fun U hU hW => ⟨rfl, preR.mk hPc hKE hU hW⟩⟩ rfl rfl hl.1 rfl (lv_room (Nat.le_of_ble_eq_true rfl)) dL_all_69 ⟨Nat.le_of_ble_eq_true rfl, Nat.le_of_ble_eq_true rfl⟩)) (fun r_809 hw => ?_)
  refine lv_i2l hx hb dL_all_72 rfl ?_
  refine lv_lmul hx hb dL_all_73 ?_
  refine lv_ladd hx hb dL_all_74 ?_
  refine lv_ldc2 hx hb hown (v := 769) (hta _ tw_556) dL_all_75 ?_
  refine lv_aload_n hx hb dL_all_78 rfl (lv_at hl 0 rfl) ?_
  have hPc : va_P (eD E) vwCl (wX E ax gx lt mo ad ln PL pf pw pk lw lk ik) s.heap := hP
  refine vp_callSi (va_Run.run (va_runV (As := []) (rest := [.long (769 : Int64), .long ((((((((r_802.toInt64) + ((31 : Int64) * (r_803.toInt64))) + ((1009 : Int64) * (r_804.toInt64))) + ((65537 : Int64) * (r_805.toInt64))) + ((7 : Int64) * (r_806.toInt64))) + ((1000003 : Int64) * (r_807.toInt64))) + ((17 : Int64) * (r_808.toInt64))) + ((257 : Int64) * (r_809.toInt64)))]) ⟨hx, hb, hml, hown, hta⟩ (c_X2_stepsUp E l ax gx lt mo ad ln PL pf pw pk lw lk ik _ hw) (pcV (n := 0) hta tw_560 tw_557 tw_1 tw_558 tw_559 rfl rfl hd_X2_stepsUp ⟨Nat.le_of_ble_eq_true rfl, Nat.le_of_ble_eq_true rfl⟩) ⟨fbR, va_recv hKE.1 hP (ci := 3) (q0 := 0) rfl rfl, fun U hU hW => ⟨rfl, preR.mk hPc hKE hU hW⟩⟩ rfl rfl hl.1 rfl (lv_room (Nat.le_of_ble_eq_true rfl)) dL_all_79 ⟨Nat.le_of_ble_eq_true rfl, Nat.le_of_ble_eq_true rfl⟩)) (fun r_810 hw => ?_)
  refine lv_i2l hx hb dL_all_82 rfl ?_
  refine lv_lmul hx hb dL_all_83 ?_
  refine lv_ladd hx hb dL_all_84 ?_
  refine lv_ldc2 hx hb hown (v := 6151) (hta _ tw_561) dL_all_85 ?_
  refine lv_aload_n hx hb dL_all_88 rfl (lv_at hl 0 rfl) ?_
  have hPc : va_P (eD E) vwCl (wX E ax gx lt mo ad ln PL pf pw pk lw lk ik) s.heap := hP
  refine vp_callSi (va_Run.run (va_runV (As := []) (rest := [.long (6151 : Int64), .long (((((((((r_802.toInt64) + ((31 : Int64) * (r_803.toInt64))) + ((1009 : Int64) * (r_804.toInt64))) + ((65537 : Int64) * (r_805.toInt64))) + ((7 : Int64) * (r_806.toInt64))) + ((1000003 : Int64) * (r_807.toInt64))) + ((17 : Int64) * (r_808.toInt64))) + ((257 : Int64) * (r_809.toInt64))) + ((769 : Int64) * (r_810.toInt64)))]) ⟨hx, hb, hml, hown, hta⟩ (c_X2_stepsDown E l ax gx lt mo ad ln PL pf pw pk lw lk ik _ hw) (pcV (n := 0) hta tw_565 tw_562 tw_1 tw_563 tw_564 rfl rfl hd_X2_stepsDown ⟨Nat.le_of_ble_eq_true rfl, Nat.le_of_ble_eq_true rfl⟩) ⟨fbR, va_recv hKE.1 hP (ci := 3) (q0 := 0) rfl rfl, fun U hU hW => ⟨rfl, preR.mk hPc hKE hU hW⟩⟩ rfl rfl hl.1 rfl (lv_room (Nat.le_of_ble_eq_true rfl)) dL_all_89 ⟨Nat.le_of_ble_eq_true rfl, Nat.le_of_ble_eq_true rfl⟩)) (fun r_811 hw => ?_)
  refine lv_i2l hx hb dL_all_92 rfl ?_
  refine lv_lmul hx hb dL_all_93 ?_
  refine lv_ladd hx hb dL_all_94 ?_
  refine lv_aload_n hx hb dL_all_95 rfl (lv_at hl 0 rfl) ?_
  refine lv_iconst (v := 0) hx hb dL_all_96 (by decide) ?_
  have hPc : va_P (eD E) vwCl (wX E ax gx lt mo ad ln PL pf pw pk lw lk ik) s.heap := hP
  refine vp_callSi (va_Run.run (va_runV (As := [.int 0]) (rest := [.long ((((((((((r_802.toInt64) + ((31 : Int64) * (r_803.toInt64))) + ((1009 : Int64) * (r_804.toInt64))) + ((65537 : Int64) * (r_805.toInt64))) + ((7 : Int64) * (r_806.toInt64))) + ((1000003 : Int64) * (r_807.toInt64))) + ((17 : Int64) * (r_808.toInt64))) + ((257 : Int64) * (r_809.toInt64))) + ((769 : Int64) * (r_810.toInt64))) + ((6151 : Int64) * (r_811.toInt64)))]) ⟨hx, hb, hml, hown, hta⟩ (c_X2_ink_r E l ax gx lt mo ad ln PL pf pw pk lw lk ik 0 _ hw) (pcV (n := 1) hta tw_141 tw_138 tw_1 tw_139 tw_140 rfl rfl hd_X2_ink ⟨Nat.le_of_ble_eq_true rfl, Nat.le_of_ble_eq_true rfl⟩) ⟨fbR, va_recv hKE.1 hP (ci := 3) (q0 := 0) rfl rfl, fun U hU hW => ⟨rfl, preR.mk hPc hKE hU hW⟩⟩ rfl rfl hl.1 rfl (lv_room (Nat.le_of_ble_eq_true rfl)) dL_all_97 ⟨Nat.le_of_ble_eq_true rfl, Nat.le_of_ble_eq_true rfl⟩)) (fun r_812 hw => ?_)
  refine lv_i2l hx hb dL_all_100 rfl ?_
  refine lv_ladd hx hb dL_all_101 ?_
  refine lv_ldc2 hx hb hown (v := 3) (hta _ tw_566) dL_all_102 ?_
  refine lv_aload_n hx hb dL_all_105 rfl (lv_at hl 0 rfl) ?_
  refine lv_iconst (v := 1) hx hb dL_all_106 (by decide) ?_
  have hPc : va_P (eD E) vwCl (wX E ax gx lt mo ad ln PL pf pw pk lw lk ik) s.heap := hP
  refine vp_callSi (va_Run.run (va_runV (As := [.int 1]) (rest := [.long (3 : Int64), .long (((((((((((r_802.toInt64) + ((31 : Int64) * (r_803.toInt64))) + ((1009 : Int64) * (r_804.toInt64))) + ((65537 : Int64) * (r_805.toInt64))) + ((7 : Int64) * (r_806.toInt64))) + ((1000003 : Int64) * (r_807.toInt64))) + ((17 : Int64) * (r_808.toInt64))) + ((257 : Int64) * (r_809.toInt64))) + ((769 : Int64) * (r_810.toInt64))) + ((6151 : Int64) * (r_811.toInt64))) + (r_812.toInt64))]) ⟨hx, hb, hml, hown, hta⟩ (c_X2_ink_r E l ax gx lt mo ad ln PL pf pw pk lw lk ik 1 _ hw) (pcV (n := 1) hta tw_141 tw_138 tw_1 tw_139 tw_140 rfl rfl hd_X2_ink ⟨Nat.le_of_ble_eq_true rfl, Nat.le_of_ble_eq_true rfl⟩) ⟨fbR, va_recv hKE.1 hP (ci := 3) (q0 := 0) rfl rfl, fun U hU hW => ⟨rfl, preR.mk hPc hKE hU hW⟩⟩ rfl rfl hl.1 rfl (lv_room (Nat.le_of_ble_eq_true rfl)) dL_all_107 ⟨Nat.le_of_ble_eq_true rfl, Nat.le_of_ble_eq_true rfl⟩)) (fun r_813 hw => ?_)
  refine lv_i2l hx hb dL_all_110 rfl ?_
  refine lv_lmul hx hb dL_all_111 ?_
  refine lv_ladd hx hb dL_all_112 ?_
  refine lv_ldc2 hx hb hown (v := 5) (hta _ tw_567) dL_all_113 ?_
  refine lv_aload_n hx hb dL_all_116 rfl (lv_at hl 0 rfl) ?_
  refine lv_iconst (v := 2) hx hb dL_all_117 (by decide) ?_
  have hPc : va_P (eD E) vwCl (wX E ax gx lt mo ad ln PL pf pw pk lw lk ik) s.heap := hP
  refine vp_callSi (va_Run.run (va_runV (As := [.int 2]) (rest := [.long (5 : Int64), .long ((((((((((((r_802.toInt64) + ((31 : Int64) * (r_803.toInt64))) + ((1009 : Int64) * (r_804.toInt64))) + ((65537 : Int64) * (r_805.toInt64))) + ((7 : Int64) * (r_806.toInt64))) + ((1000003 : Int64) * (r_807.toInt64))) + ((17 : Int64) * (r_808.toInt64))) + ((257 : Int64) * (r_809.toInt64))) + ((769 : Int64) * (r_810.toInt64))) + ((6151 : Int64) * (r_811.toInt64))) + (r_812.toInt64)) + ((3 : Int64) * (r_813.toInt64)))]) ⟨hx, hb, hml, hown, hta⟩ (c_X2_ink_r E l ax gx lt mo ad ln PL pf pw pk lw lk ik 2 _ hw) (pcV (n := 1) hta tw_141 tw_138 tw_1 tw_139 tw_140 rfl rfl hd_X2_ink ⟨Nat.le_of_ble_eq_true rfl, Nat.le_of_ble_eq_true rfl⟩) ⟨fbR, va_recv hKE.1 hP (ci := 3) (q0 := 0) rfl rfl, fun U hU hW => ⟨rfl, preR.mk hPc hKE hU hW⟩⟩ rfl rfl hl.1 rfl (lv_room (Nat.le_of_ble_eq_true rfl)) dL_all_118 ⟨Nat.le_of_ble_eq_true rfl, Nat.le_of_ble_eq_true rfl⟩)) (fun r_814 hw => ?_)
  refine lv_i2l hx hb dL_all_121 rfl ?_
  refine lv_lmul hx hb dL_all_122 ?_
  refine lv_ladd hx hb dL_all_123 ?_
  refine lv_aload_n hx hb dL_all_124 rfl (lv_at hl 0 rfl) ?_
  have hPc : va_P (eD E) vwCl (wX E ax gx lt mo ad ln PL pf pw pk lw lk ik) s.heap := hP
  refine vp_callSi (va_Run.run (va_runV (As := []) (rest := [.long (((((((((((((r_802.toInt64) + ((31 : Int64) * (r_803.toInt64))) + ((1009 : Int64) * (r_804.toInt64))) + ((65537 : Int64) * (r_805.toInt64))) + ((7 : Int64) * (r_806.toInt64))) + ((1000003 : Int64) * (r_807.toInt64))) + ((17 : Int64) * (r_808.toInt64))) + ((257 : Int64) * (r_809.toInt64))) + ((769 : Int64) * (r_810.toInt64))) + ((6151 : Int64) * (r_811.toInt64))) + (r_812.toInt64)) + ((3 : Int64) * (r_813.toInt64))) + ((5 : Int64) * (r_814.toInt64)))]) ⟨hx, hb, hml, hown, hta⟩ (c_X2_isDown E l ax gx lt mo ad ln PL pf pw pk lw lk ik _ hw) (pcV (n := 0) hta tw_533 tw_530 tw_1 tw_531 tw_532 rfl rfl hd_X2_isDown ⟨Nat.le_of_ble_eq_true rfl, Nat.le_of_ble_eq_true rfl⟩) ⟨fbR, va_recv hKE.1 hP (ci := 3) (q0 := 0) rfl rfl, fun U hU hW => ⟨rfl, preR.mk hPc hKE hU hW⟩⟩ rfl rfl hl.1 rfl (lv_room (Nat.le_of_ble_eq_true rfl)) dL_all_125 ⟨Nat.le_of_ble_eq_true rfl, Nat.le_of_ble_eq_true rfl⟩)) (fun r_815 hw => ?_)
  refine lv_if_eq (tgt := 137) hx hb dL_all_128 (by decide) (fun c_816 => ?_) (fun c_816 => ?_)
  · have hw := hw.1 c_816
    refine lv_lconst (v := 0) hx hb dL_all_137 (by decide) ?_
    refine lv_ladd hx hb dL_all_138 ?_
    refine lv_aload_n hx hb dL_all_139 rfl (lv_at hl 0 rfl) ?_
    have hPc : va_P (eD E) vwCl (wX E ax gx lt mo ad ln PL pf pw pk lw lk ik) s.heap := hP
    refine vp_callSi (va_Run.run (va_runV (As := []) (rest := [.long ((((((((((((((r_802.toInt64) + ((31 : Int64) * (r_803.toInt64))) + ((1009 : Int64) * (r_804.toInt64))) + ((65537 : Int64) * (r_805.toInt64))) + ((7 : Int64) * (r_806.toInt64))) + ((1000003 : Int64) * (r_807.toInt64))) + ((17 : Int64) * (r_808.toInt64))) + ((257 : Int64) * (r_809.toInt64))) + ((769 : Int64) * (r_810.toInt64))) + ((6151 : Int64) * (r_811.toInt64))) + (r_812.toInt64)) + ((3 : Int64) * (r_813.toInt64))) + ((5 : Int64) * (r_814.toInt64))) + 0)]) ⟨hx, hb, hml, hown, hta⟩ (c_X2_isWaiting E l ax gx lt mo ad ln PL pf pw pk lw lk ik _ hw) (pcV (n := 0) hta tw_526 tw_523 tw_1 tw_524 tw_525 rfl rfl hd_X2_isWaiting ⟨Nat.le_of_ble_eq_true rfl, Nat.le_of_ble_eq_true rfl⟩) ⟨fbR, va_recv hKE.1 hP (ci := 3) (q0 := 0) rfl rfl, fun U hU hW => ⟨rfl, preR.mk hPc hKE hU hW⟩⟩ rfl rfl hl.1 rfl (lv_room (Nat.le_of_ble_eq_true rfl)) dL_all_140 ⟨Nat.le_of_ble_eq_true rfl, Nat.le_of_ble_eq_true rfl⟩)) (fun r_817 hw => ?_)
    refine lv_if_eq (tgt := 152) hx hb dL_all_143 (by decide) (fun c_818 => ?_) (fun c_818 => ?_)
    · have hw := hw.1 c_818
      refine lv_lconst (v := 0) hx hb dL_all_152 (by decide) ?_
      refine lv_ladd hx hb dL_all_153 ?_
      exact W.lret (v := (((((((((((((((r_802.toInt64) + ((31 : Int64) * (r_803.toInt64))) + ((1009 : Int64) * (r_804.toInt64))) + ((65537 : Int64) * (r_805.toInt64))) + ((7 : Int64) * (r_806.toInt64))) + ((1000003 : Int64) * (r_807.toInt64))) + ((17 : Int64) * (r_808.toInt64))) + ((257 : Int64) * (r_809.toInt64))) + ((769 : Int64) * (r_810.toInt64))) + ((6151 : Int64) * (r_811.toInt64))) + (r_812.toInt64)) + ((3 : Int64) * (r_813.toInt64))) + ((5 : Int64) * (r_814.toInt64))) + 0) + 0)) hx hb hr (fun t ht hW => ⟨(((((((((((((((r_802.toInt64) + ((31 : Int64) * (r_803.toInt64))) + ((1009 : Int64) * (r_804.toInt64))) + ((65537 : Int64) * (r_805.toInt64))) + ((7 : Int64) * (r_806.toInt64))) + ((1000003 : Int64) * (r_807.toInt64))) + ((17 : Int64) * (r_808.toInt64))) + ((257 : Int64) * (r_809.toInt64))) + ((769 : Int64) * (r_810.toInt64))) + ((6151 : Int64) * (r_811.toInt64))) + (r_812.toInt64)) + ((3 : Int64) * (r_813.toInt64))) + ((5 : Int64) * (r_814.toInt64))) + 0) + 0), rfl, hw, ht⟩) (fun q hq => nomatch hq) dL_all_154
    · have hw := hw.2 c_818
      refine lv_ldc2 hx hb hown (v := 13) (hta _ tw_569) dL_all_146 ?_
      refine lv_goto (tgt := 153) hx hb dL_all_149 (by decide) ?_
      refine lv_ladd hx hb dL_all_153 ?_
      exact W.lret (v := (((((((((((((((r_802.toInt64) + ((31 : Int64) * (r_803.toInt64))) + ((1009 : Int64) * (r_804.toInt64))) + ((65537 : Int64) * (r_805.toInt64))) + ((7 : Int64) * (r_806.toInt64))) + ((1000003 : Int64) * (r_807.toInt64))) + ((17 : Int64) * (r_808.toInt64))) + ((257 : Int64) * (r_809.toInt64))) + ((769 : Int64) * (r_810.toInt64))) + ((6151 : Int64) * (r_811.toInt64))) + (r_812.toInt64)) + ((3 : Int64) * (r_813.toInt64))) + ((5 : Int64) * (r_814.toInt64))) + 0) + (13 : Int64))) hx hb hr (fun t ht hW => ⟨(((((((((((((((r_802.toInt64) + ((31 : Int64) * (r_803.toInt64))) + ((1009 : Int64) * (r_804.toInt64))) + ((65537 : Int64) * (r_805.toInt64))) + ((7 : Int64) * (r_806.toInt64))) + ((1000003 : Int64) * (r_807.toInt64))) + ((17 : Int64) * (r_808.toInt64))) + ((257 : Int64) * (r_809.toInt64))) + ((769 : Int64) * (r_810.toInt64))) + ((6151 : Int64) * (r_811.toInt64))) + (r_812.toInt64)) + ((3 : Int64) * (r_813.toInt64))) + ((5 : Int64) * (r_814.toInt64))) + 0) + (13 : Int64)), rfl, hw, ht⟩) (fun q hq => nomatch hq) dL_all_154
  · have hw := hw.2 c_816
    refine lv_ldc2 hx hb hown (v := 11) (hta _ tw_568) dL_all_131 ?_
    refine lv_goto (tgt := 138) hx hb dL_all_134 (by decide) ?_
    refine lv_ladd hx hb dL_all_138 ?_
    refine lv_aload_n hx hb dL_all_139 rfl (lv_at hl 0 rfl) ?_
    have hPc : va_P (eD E) vwCl (wX E ax gx lt mo ad ln PL pf pw pk lw lk ik) s.heap := hP
    refine vp_callSi (va_Run.run (va_runV (As := []) (rest := [.long ((((((((((((((r_802.toInt64) + ((31 : Int64) * (r_803.toInt64))) + ((1009 : Int64) * (r_804.toInt64))) + ((65537 : Int64) * (r_805.toInt64))) + ((7 : Int64) * (r_806.toInt64))) + ((1000003 : Int64) * (r_807.toInt64))) + ((17 : Int64) * (r_808.toInt64))) + ((257 : Int64) * (r_809.toInt64))) + ((769 : Int64) * (r_810.toInt64))) + ((6151 : Int64) * (r_811.toInt64))) + (r_812.toInt64)) + ((3 : Int64) * (r_813.toInt64))) + ((5 : Int64) * (r_814.toInt64))) + (11 : Int64))]) ⟨hx, hb, hml, hown, hta⟩ (c_X2_isWaiting E l ax gx lt mo ad ln PL pf pw pk lw lk ik _ hw) (pcV (n := 0) hta tw_526 tw_523 tw_1 tw_524 tw_525 rfl rfl hd_X2_isWaiting ⟨Nat.le_of_ble_eq_true rfl, Nat.le_of_ble_eq_true rfl⟩) ⟨fbR, va_recv hKE.1 hP (ci := 3) (q0 := 0) rfl rfl, fun U hU hW => ⟨rfl, preR.mk hPc hKE hU hW⟩⟩ rfl rfl hl.1 rfl (lv_room (Nat.le_of_ble_eq_true rfl)) dL_all_140 ⟨Nat.le_of_ble_eq_true rfl, Nat.le_of_ble_eq_true rfl⟩)) (fun r_819 hw => ?_)
    refine lv_if_eq (tgt := 152) hx hb dL_all_143 (by decide) (fun c_820 => ?_) (fun c_820 => ?_)
    · have hw := hw.1 c_820
      refine lv_lconst (v := 0) hx hb dL_all_152 (by decide) ?_
      refine lv_ladd hx hb dL_all_153 ?_
      exact W.lret (v := (((((((((((((((r_802.toInt64) + ((31 : Int64) * (r_803.toInt64))) + ((1009 : Int64) * (r_804.toInt64))) + ((65537 : Int64) * (r_805.toInt64))) + ((7 : Int64) * (r_806.toInt64))) + ((1000003 : Int64) * (r_807.toInt64))) + ((17 : Int64) * (r_808.toInt64))) + ((257 : Int64) * (r_809.toInt64))) + ((769 : Int64) * (r_810.toInt64))) + ((6151 : Int64) * (r_811.toInt64))) + (r_812.toInt64)) + ((3 : Int64) * (r_813.toInt64))) + ((5 : Int64) * (r_814.toInt64))) + (11 : Int64)) + 0)) hx hb hr (fun t ht hW => ⟨(((((((((((((((r_802.toInt64) + ((31 : Int64) * (r_803.toInt64))) + ((1009 : Int64) * (r_804.toInt64))) + ((65537 : Int64) * (r_805.toInt64))) + ((7 : Int64) * (r_806.toInt64))) + ((1000003 : Int64) * (r_807.toInt64))) + ((17 : Int64) * (r_808.toInt64))) + ((257 : Int64) * (r_809.toInt64))) + ((769 : Int64) * (r_810.toInt64))) + ((6151 : Int64) * (r_811.toInt64))) + (r_812.toInt64)) + ((3 : Int64) * (r_813.toInt64))) + ((5 : Int64) * (r_814.toInt64))) + (11 : Int64)) + 0), rfl, hw, ht⟩) (fun q hq => nomatch hq) dL_all_154
    · have hw := hw.2 c_820
      refine lv_ldc2 hx hb hown (v := 13) (hta _ tw_569) dL_all_146 ?_
      refine lv_goto (tgt := 153) hx hb dL_all_149 (by decide) ?_
      refine lv_ladd hx hb dL_all_153 ?_
      exact W.lret (v := (((((((((((((((r_802.toInt64) + ((31 : Int64) * (r_803.toInt64))) + ((1009 : Int64) * (r_804.toInt64))) + ((65537 : Int64) * (r_805.toInt64))) + ((7 : Int64) * (r_806.toInt64))) + ((1000003 : Int64) * (r_807.toInt64))) + ((17 : Int64) * (r_808.toInt64))) + ((257 : Int64) * (r_809.toInt64))) + ((769 : Int64) * (r_810.toInt64))) + ((6151 : Int64) * (r_811.toInt64))) + (r_812.toInt64)) + ((3 : Int64) * (r_813.toInt64))) + ((5 : Int64) * (r_814.toInt64))) + (11 : Int64)) + (13 : Int64))) hx hb hr (fun t ht hW => ⟨(((((((((((((((r_802.toInt64) + ((31 : Int64) * (r_803.toInt64))) + ((1009 : Int64) * (r_804.toInt64))) + ((65537 : Int64) * (r_805.toInt64))) + ((7 : Int64) * (r_806.toInt64))) + ((1000003 : Int64) * (r_807.toInt64))) + ((17 : Int64) * (r_808.toInt64))) + ((257 : Int64) * (r_809.toInt64))) + ((769 : Int64) * (r_810.toInt64))) + ((6151 : Int64) * (r_811.toInt64))) + (r_812.toInt64)) + ((3 : Int64) * (r_813.toInt64))) + ((5 : Int64) * (r_814.toInt64))) + (11 : Int64)) + (13 : Int64)), rfl, hw, ht⟩) (fun q hq => nomatch hq) dL_all_154
def wp_L_size (E : EV) (post : Int32 → Prop) (p0 : Int32) (p1 : Int32) : Prop := ((0 ≤ p0 → ((0 ≤ p1 → ((p0 ≤ p1 → post p1) ∧ (¬ (p0 ≤ p1) → post p0))) ∧ (¬ (0 ≤ p1) → ((p0 ≤ (-p1) → post (-p1)) ∧ (¬ (p0 ≤ (-p1)) → post p0))))) ∧ (¬ (0 ≤ p0) → ((0 ≤ p1 → (((-p0) ≤ p1 → post p1) ∧ (¬ (-p0) ≤ p1 → post (-p0)))) ∧ (¬ (0 ≤ p1) → (((-p0) ≤ (-p1) → post (-p1)) ∧ (¬ (-p0) ≤ (-p1) → post (-p0)))))))
set_option maxHeartbeats 4000000 in
set_option maxRecDepth 100000 in
theorem c_L_size (E : EV) (l : Launch) (p0 : Int32) (p1 : Int32) (post : Int32 → Prop) (hw : wp_L_size E post p0 p1) : Met l yL_size (Cond.code yL_size cL_size 4 (some .int) :: ALLW) ({ frames := 0, cells := 0, slots := 0, locals := 0 } : Room) (va_Pc [.int p0, .int p1] (preR E ([]))) (vp_Si post) 0 0 (fun _ => False) := by
  refine Met.ofW (cc := cL_size) (maxL := 4) (ret := (some .int)) (by decide) rfl ?_
  intro p e s m args below meth c s₁ B hml hv
  obtain ⟨rfl, hpre⟩ := hv
  have hx := B.exec
  have hb := B.bytes
  have hr := B.returns
  have hlocks := B.notSynchronized
  have hts := atoms_spec (ws := (Cond.code yL_size cL_size 4 (some .int) :: ALLW)) B.pre
  have hta : ∀ w ∈ ALLW, w.before ([.int p0, .int p1] : List Value).toArray s = true := fun w h => hts w (List.mem_cons_of_mem _ h)
  have hown : s.vm.findClass RL = some m.cls := findClass_of_methodNamed B.named
  obtain ⟨hP, hKE⟩ := hpre
  have hP : va_P (eD E) vwCl [] s.heap := hP
  have hl := lv_entry ([.int p0, .int p1]) (n := 4) (Nat.le_of_ble_eq_true rfl)
  rw [lg_entry_eq]
  generalize (lg_sl ([.int p0, .int p1]) ++ List.replicate (4 - (lg_sl ([.int p0, .int p1])).length) Slot.unset).toArray = ls at hl ⊢
  have hl : lv_has ls 4 [(0, .int p0), (1, .int p1)] := hl
  unfold wp_L_size at hw
  refine lv_iload_n hx hb dL_size_0 rfl (lv_at hl 0 rfl) ?_
  refine lv_if_ge (tgt := 9) hx hb dL_size_1 (by decide) (fun c_821 => ?_) (fun c_821 => ?_)
  · have hw := hw.1 c_821
    refine lv_iload_n hx hb dL_size_9 rfl (lv_at hl 0 rfl) ?_
    refine lv_istore_n (lv' := [(2, .int p0), (0, .int p0), (1, .int p1)]) hx hb dL_size_10 rfl hl (by decide) rfl (fun ls hl => ?_)
    refine lv_iload_n hx hb dL_size_11 rfl (lv_at hl 2 rfl) ?_
    refine lv_if_ge (tgt := 20) hx hb dL_size_12 (by decide) (fun c_822 => ?_) (fun c_822 => ?_)
    · have hw := hw.1 c_822
      refine lv_iload_n hx hb dL_size_20 rfl (lv_at hl 2 rfl) ?_
      refine lv_istore_n (lv' := [(3, .int p1), (2, .int p0), (0, .int p0), (1, .int p1)]) hx hb dL_size_21 rfl hl (by decide) rfl (fun ls hl => ?_)
      refine lv_iload_n hx hb dL_size_22 rfl (lv_at hl 1 rfl) ?_
      refine lv_iload_n hx hb dL_size_23 rfl (lv_at hl 0 rfl) ?_
      refine lv_icmp_le (tgt := 31) hx hb dL_size_24 (by decide) (fun c_823 => ?_) (fun c_823 => ?_)
      · have hw := hw.1 c_823
        refine lv_iload_n hx hb dL_size_31 rfl (lv_at hl 0 rfl) ?_
        exact W.iret (v := p1) hx hb hr (fun t ht hW => ⟨p1, rfl, hw, ht⟩) (fun q hq => nomatch hq) dL_size_32
      · have hw := hw.2 c_823
        refine lv_iload_n hx hb dL_size_27 rfl (lv_at hl 1 rfl) ?_
        refine lv_goto (tgt := 32) hx hb dL_size_28 (by decide) ?_
        exact W.iret (v := p0) hx hb hr (fun t ht hW => ⟨p0, rfl, hw, ht⟩) (fun q hq => nomatch hq) dL_size_32
    · have hw := hw.2 c_822
      refine lv_iload_n hx hb dL_size_15 rfl (lv_at hl 2 rfl) ?_
      refine lv_ineg hx hb dL_size_16 ?_
      refine lv_goto (tgt := 21) hx hb dL_size_17 (by decide) ?_
      refine lv_istore_n (lv' := [(3, .int (-p1)), (2, .int p0), (0, .int p0), (1, .int p1)]) hx hb dL_size_21 rfl hl (by decide) rfl (fun ls hl => ?_)
      refine lv_iload_n hx hb dL_size_22 rfl (lv_at hl 1 rfl) ?_
      refine lv_iload_n hx hb dL_size_23 rfl (lv_at hl 0 rfl) ?_
      refine lv_icmp_le (tgt := 31) hx hb dL_size_24 (by decide) (fun c_824 => ?_) (fun c_824 => ?_)
      · have hw := hw.1 c_824
        refine lv_iload_n hx hb dL_size_31 rfl (lv_at hl 0 rfl) ?_
        exact W.iret (v := (-p1)) hx hb hr (fun t ht hW => ⟨(-p1), rfl, hw, ht⟩) (fun q hq => nomatch hq) dL_size_32
      · have hw := hw.2 c_824
        refine lv_iload_n hx hb dL_size_27 rfl (lv_at hl 1 rfl) ?_
        refine lv_goto (tgt := 32) hx hb dL_size_28 (by decide) ?_
        exact W.iret (v := p0) hx hb hr (fun t ht hW => ⟨p0, rfl, hw, ht⟩) (fun q hq => nomatch hq) dL_size_32
  · have hw := hw.2 c_821
    refine lv_iload_n hx hb dL_size_4 rfl (lv_at hl 0 rfl) ?_
    refine lv_ineg hx hb dL_size_5 ?_
    refine lv_goto (tgt := 10) hx hb dL_size_6 (by decide) ?_
    refine lv_istore_n (lv' := [(2, .int (-p0)), (0, .int p0), (1, .int p1)]) hx hb dL_size_10 rfl hl (by decide) rfl (fun ls hl => ?_)
    refine lv_iload_n hx hb dL_size_11 rfl (lv_at hl 2 rfl) ?_
    refine lv_if_ge (tgt := 20) hx hb dL_size_12 (by decide) (fun c_825 => ?_) (fun c_825 => ?_)
    · have hw := hw.1 c_825
      refine lv_iload_n hx hb dL_size_20 rfl (lv_at hl 2 rfl) ?_
      refine lv_istore_n (lv' := [(3, .int p1), (2, .int (-p0)), (0, .int p0), (1, .int p1)]) hx hb dL_size_21 rfl hl (by decide) rfl (fun ls hl => ?_)
      refine lv_iload_n hx hb dL_size_22 rfl (lv_at hl 1 rfl) ?_
      refine lv_iload_n hx hb dL_size_23 rfl (lv_at hl 0 rfl) ?_
      refine lv_icmp_le (tgt := 31) hx hb dL_size_24 (by decide) (fun c_826 => ?_) (fun c_826 => ?_)
      · have hw := hw.1 c_826
        refine lv_iload_n hx hb dL_size_31 rfl (lv_at hl 0 rfl) ?_
        exact W.iret (v := p1) hx hb hr (fun t ht hW => ⟨p1, rfl, hw, ht⟩) (fun q hq => nomatch hq) dL_size_32
      · have hw := hw.2 c_826
        refine lv_iload_n hx hb dL_size_27 rfl (lv_at hl 1 rfl) ?_
        refine lv_goto (tgt := 32) hx hb dL_size_28 (by decide) ?_
        exact W.iret (v := (-p0)) hx hb hr (fun t ht hW => ⟨(-p0), rfl, hw, ht⟩) (fun q hq => nomatch hq) dL_size_32
    · have hw := hw.2 c_825
      refine lv_iload_n hx hb dL_size_15 rfl (lv_at hl 2 rfl) ?_
      refine lv_ineg hx hb dL_size_16 ?_
      refine lv_goto (tgt := 21) hx hb dL_size_17 (by decide) ?_
      refine lv_istore_n (lv' := [(3, .int (-p1)), (2, .int (-p0)), (0, .int p0), (1, .int p1)]) hx hb dL_size_21 rfl hl (by decide) rfl (fun ls hl => ?_)
      refine lv_iload_n hx hb dL_size_22 rfl (lv_at hl 1 rfl) ?_
      refine lv_iload_n hx hb dL_size_23 rfl (lv_at hl 0 rfl) ?_
      refine lv_icmp_le (tgt := 31) hx hb dL_size_24 (by decide) (fun c_827 => ?_) (fun c_827 => ?_)
      · have hw := hw.1 c_827
        refine lv_iload_n hx hb dL_size_31 rfl (lv_at hl 0 rfl) ?_
        exact W.iret (v := (-p1)) hx hb hr (fun t ht hW => ⟨(-p1), rfl, hw, ht⟩) (fun q hq => nomatch hq) dL_size_32
      · have hw := hw.2 c_827
        refine lv_iload_n hx hb dL_size_27 rfl (lv_at hl 1 rfl) ?_
        refine lv_goto (tgt := 32) hx hb dL_size_28 (by decide) ?_
        exact W.iret (v := (-p0)) hx hb hr (fun t ht hW => ⟨(-p0), rfl, hw, ht⟩) (fun q hq => nomatch hq) dL_size_32
def wp_L_moves_L14 (E : EV) (post : (Nat → Int32) → (Nat → Int32) → Prop)  : Nat → (Nat → Int32) → (Nat → Int32) → Int32 → Prop
  | 0, _, _, _ => False
  | n + 1, cw_L, mw_L, x2 => (((4 * (mw_L (0 : Int32).toNatClampNeg)) ≤ x2 → post cw_L mw_L) ∧ (¬ (4 * (mw_L (0 : Int32).toNatClampNeg)) ≤ x2 → (vp_in (x2 + 4) 64 ∧ (vp_in x2 64 ∧ (wp_L_moves_L14 E post n (upd cw_L x2.toNatClampNeg (cw_L (x2 + 4).toNatClampNeg)) mw_L (x2 + 1))))))
def wp_L_moves (E : EV) (post : (Nat → Int32) → (Nat → Int32) → Prop) (cw : Nat → Int32) (mw : Nat → Int32) : Prop := (∃ n : Nat, wp_L_moves_L14 E post n cw (upd (upd mw (7 : Int32).toNatClampNeg 0) (0 : Int32).toNatClampNeg (((upd mw (7 : Int32).toNatClampNeg 0) (0 : Int32).toNatClampNeg) - 1)) 0)
set_option maxHeartbeats 4000000 in
set_option maxRecDepth 100000 in
theorem c_L_moves (E : EV) (l : Launch) (bx : Nat → Nat) (cw : Nat → Int32) (mw : Nat → Int32) (hz : Nat) (post : (Nat → Int32) → (Nat → Int32) → Prop) (hw : wp_L_moves E post cw mw) : Met l yL_moves (Cond.code yL_moves cL_moves 3 none :: ALLW) ({ frames := 0, cells := 0, slots := 0, locals := 0 } : Room) (va_Pc [.ref (bx 0), .ref (bx 1)] (preM E (wCM E bx cw mw) hz)) (va_Qv (fun (u : (Nat → Int32) × (Nat → Int32)) => post u.1 u.2) (fun (u : (Nat → Int32) × (Nat → Int32)) t => va_P (eD E) vwCl (wCM E bx u.1 u.2) t.heap ∧ va_D (va_A (wCM E bx cw mw) hz) (wCM E bx u.1 u.2)) (va_A (wCM E bx cw mw) hz)) 0 0 (va_A (wCM E bx cw mw) hz) := by
  refine Met.ofW (cc := cL_moves) (maxL := 3) (ret := none) (by decide) rfl ?_
  intro p e s m args below meth c s₁ B hml hv
  obtain ⟨rfl, hpre⟩ := hv
  have hx := B.exec
  have hb := B.bytes
  have hr := B.returns
  have hlocks := B.notSynchronized
  have hts := atoms_spec (ws := (Cond.code yL_moves cL_moves 3 none :: ALLW)) B.pre
  have hta : ∀ w ∈ ALLW, w.before ([.ref (bx 0), .ref (bx 1)] : List Value).toArray s = true := fun w h => hts w (List.mem_cons_of_mem _ h)
  have hown : s.vm.findClass RL = some m.cls := findClass_of_methodNamed B.named
  obtain ⟨hsz, hP, hKE, hD0, hZ⟩ := hpre
  subst hsz
  have hD := hD0.self (sz := s.heap.size)
  generalize hAe : va_A (wCM E bx cw mw) s.heap.size = A at hD hZ ⊢
  have hA : ∀ q : Nat, s.heap.size ≤ q → A q := fun q h => by rw [← hAe]; exact Or.inr h
  have hS : va_S A s.heap s.heap [] := va_S.rf
  have hP : va_P (eD E) vwCl [((bx 0), .inl (eC E 0, 64, .inl cw)), ((bx 1), .inl (eC E 0, 8, .inl mw))] s.heap := hP
  have hD : va_D A [((bx 0), .inl (eC E 0, 64, .inl cw)), ((bx 1), .inl (eC E 0, 8, .inl mw))] := hD
  have hl := lv_entry ([.ref (bx 0), .ref (bx 1)]) (n := 3) (Nat.le_of_ble_eq_true rfl)
  rw [lg_entry_eq]
  generalize (lg_sl ([.ref (bx 0), .ref (bx 1)]) ++ List.replicate (3 - (lg_sl ([.ref (bx 0), .ref (bx 1)])).length) Slot.unset).toArray = ls at hl ⊢
  have hl : lv_has ls 3 [(0, .ref (bx 0)), (1, .ref (bx 1))] := hl
  have loop_14 : ∀ (n : Nat) (cw_L : Nat → Int32) (mw_L : Nat → Int32) (x2 : Int32), wp_L_moves_L14 E post n cw_L mw_L x2 → ∀ (H : Heap) (locs : List Loc), va_P (eD E) vwCl [((bx 0), .inl (eC E 0, 64, .inl cw_L)), ((bx 1), .inl (eC E 0, 8, .inl mw_L))] H → va_D A [((bx 0), .inl (eC E 0, 64, .inl cw_L)), ((bx 1), .inl (eC E 0, 8, .inl mw_L))] → va_S A s.heap H locs → ∀ (ls : Array Slot), lv_has ls 3 [(0, .ref (bx 0)), (1, .ref (bx 1)), (2, .int x2)] → W p l e (headSpec (Cond.code yL_moves cL_moves 3 none :: ALLW) ({ frames := 0, cells := 0, slots := 0, locals := 0 } : Room)).room s m ([.ref (bx 0), .ref (bx 1)] : List Value).toArray below meth c H locs 0 0 (MQ below (va_Qv (fun (u : (Nat → Int32) × (Nat → Int32)) => post u.1 u.2) (fun (u : (Nat → Int32) × (Nat → Int32)) t => va_P (eD E) vwCl (wCM E bx u.1 u.2) t.heap ∧ va_D A (wCM E bx u.1 u.2)) A) ([.ref (bx 0), .ref (bx 1)] : List Value).toArray s 0 0 A) (F0 m 14 ls []) := by
    intro n
    induction n with
    | zero => intro cw_L mw_L x2 hw; exact hw.elim
    | succ n ih =>
      intro cw_L mw_L x2 hw H locs hP hD hS ls hl
      unfold wp_L_moves_L14 at hw
      refine lv_iload_n hx hb dL_moves_14 rfl (lv_at hl 2 rfl) ?_
      refine lv_iconst (v := 4) hx hb dL_moves_15 (by decide) ?_
      refine lv_aload_n hx hb dL_moves_16 rfl (lv_at hl 1 rfl) ?_
      refine lv_iconst (v := 0) hx hb dL_moves_17 (by decide) ?_
      refine va_iald hx hb hKE.1 hP 1 0 rfl rfl (show vp_in 0 8 from by unfold vp_in; decide) dL_moves_18 ?_
      refine lv_imul hx hb dL_moves_19 ?_
      refine lv_icmp_ge (tgt := 37) hx hb dL_moves_20 (by decide) (fun c_828 => ?_) (fun c_828 => ?_)
      · have hw := hw.1 c_828
        have hP9 : va_P (eD E) vwCl (wCM E bx cw_L mw_L) H := hP
        have hD9 : va_D A (wCM E bx cw_L mw_L) := hD
        exact W.vret hx hb hr (fun t ht hW => ⟨⟨(cw_L, mw_L), rfl, hw, ⟨by rw [ht]; exact hP9, hD9⟩⟩, hS.F ht⟩) hS.2.2 dL_moves_37
      · have hw := hw.2 c_828
        refine lv_aload_n hx hb dL_moves_23 rfl (lv_at hl 0 rfl) ?_
        refine lv_iload_n hx hb dL_moves_24 rfl (lv_at hl 2 rfl) ?_
        refine lv_aload_n hx hb dL_moves_25 rfl (lv_at hl 0 rfl) ?_
        refine lv_iload_n hx hb dL_moves_26 rfl (lv_at hl 2 rfl) ?_
        refine lv_iconst (v := 4) hx hb dL_moves_27 (by decide) ?_
        refine lv_iadd hx hb dL_moves_28 ?_
        obtain ⟨hi_829, hw⟩ := hw
        refine va_iald hx hb hKE.1 hP 0 0 rfl rfl hi_829 dL_moves_29 ?_
        obtain ⟨hi_830, hw⟩ := hw
        refine va_iast hx hb hKE.1 hP hD hS 0 0 rfl rfl hi_830 dL_moves_30 (fun H locs hP hD hS => ?_)
        have hP : va_P (eD E) vwCl [((bx 0), .inl (eC E 0, 64, .inl (upd cw_L x2.toNatClampNeg (cw_L (x2 + 4).toNatClampNeg)))), ((bx 1), .inl (eC E 0, 8, .inl mw_L))] H := hP
        have hD : va_D A [((bx 0), .inl (eC E 0, 64, .inl (upd cw_L x2.toNatClampNeg (cw_L (x2 + 4).toNatClampNeg)))), ((bx 1), .inl (eC E 0, 8, .inl mw_L))] := hD
        refine lv_iinc (v := (x2 + 1)) (lv' := [(2, .int (x2 + 1)), (0, .ref (bx 0)), (1, .ref (bx 1))]) hx hb dL_moves_31 hl (k := 2) rfl rfl (by decide) rfl (fun ls hl => ?_)
        refine lv_goto (tgt := 14) hx hb dL_moves_34 (by decide) ?_
        exact ih (upd cw_L x2.toNatClampNeg (cw_L (x2 + 4).toNatClampNeg)) mw_L (x2 + 1) hw _ _ hP hD hS ls (lv_sub hl [1, 2, 0] rfl)
  unfold wp_L_moves at hw
  refine lv_aload_n hx hb dL_moves_0 rfl (lv_at hl 1 rfl) ?_
  refine lv_bipush (v := 7) hx hb dL_moves_1 (by decide) ?_
  refine lv_iconst (v := 0) hx hb dL_moves_3 (by decide) ?_
  refine va_iast hx hb hKE.1 hP hD hS 1 0 rfl rfl (show vp_in 7 8 from by unfold vp_in; decide) dL_moves_4 (fun H locs hP hD hS => ?_)
  have hP : va_P (eD E) vwCl [((bx 0), .inl (eC E 0, 64, .inl cw)), ((bx 1), .inl (eC E 0, 8, .inl (upd mw (7 : Int32).toNatClampNeg 0)))] H := hP
  have hD : va_D A [((bx 0), .inl (eC E 0, 64, .inl cw)), ((bx 1), .inl (eC E 0, 8, .inl (upd mw (7 : Int32).toNatClampNeg 0)))] := hD
  refine lv_aload_n hx hb dL_moves_5 rfl (lv_at hl 1 rfl) ?_
  refine lv_iconst (v := 0) hx hb dL_moves_6 (by decide) ?_
  refine lv_dup2_11 hx hb dL_moves_7 rfl rfl ?_
  refine va_iald hx hb hKE.1 hP 1 0 rfl rfl (show vp_in 0 8 from by unfold vp_in; decide) dL_moves_8 ?_
  refine lv_iconst (v := 1) hx hb dL_moves_9 (by decide) ?_
  refine lv_isub hx hb dL_moves_10 ?_
  refine va_iast hx hb hKE.1 hP hD hS 1 0 rfl rfl (show vp_in 0 8 from by unfold vp_in; decide) dL_moves_11 (fun H locs hP hD hS => ?_)
  have hP : va_P (eD E) vwCl [((bx 0), .inl (eC E 0, 64, .inl cw)), ((bx 1), .inl (eC E 0, 8, .inl (upd (upd mw (7 : Int32).toNatClampNeg 0) (0 : Int32).toNatClampNeg (((upd mw (7 : Int32).toNatClampNeg 0) (0 : Int32).toNatClampNeg) - 1))))] H := hP
  have hD : va_D A [((bx 0), .inl (eC E 0, 64, .inl cw)), ((bx 1), .inl (eC E 0, 8, .inl (upd (upd mw (7 : Int32).toNatClampNeg 0) (0 : Int32).toNatClampNeg (((upd mw (7 : Int32).toNatClampNeg 0) (0 : Int32).toNatClampNeg) - 1))))] := hD
  refine lv_iconst (v := 0) hx hb dL_moves_12 (by decide) ?_
  refine lv_istore_n (lv' := [(2, .int 0), (0, .ref (bx 0)), (1, .ref (bx 1))]) hx hb dL_moves_13 rfl hl (by decide) rfl (fun ls hl => ?_)
  obtain ⟨n_831, hw⟩ := hw
  exact loop_14 n_831 cw (upd (upd mw (7 : Int32).toNatClampNeg 0) (0 : Int32).toNatClampNeg (((upd mw (7 : Int32).toNatClampNeg 0) (0 : Int32).toNatClampNeg) - 1)) 0 hw _ _ hP hD hS ls (lv_sub hl [1, 2, 0] rfl)
def wp_L_queues_L92 (E : EV) (post : Int32 → (Nat → Int32) → (Nat → Int32) → Prop)  : Nat → (Nat → Int32) → (Nat → Int32) → Int32 → Int32 → Int32 → Int32 → Int32 → Int32 → Prop
  | 0, _, _, _, _, _, _, _, _ => False
  | n + 1, cw_L, mw_L, x2, x3, x4, x5, x6, x7 => ((x7 = 0 → (narrow .boolean (.int x7) = .int x7 ∧ post x7 cw_L (upd mw_L (1 : Int32).toNatClampNeg ((mw_L (1 : Int32).toNatClampNeg) + 1)))) ∧ (¬ (x7 = 0) → (vp_in (4 * ((upd mw_L (1 : Int32).toNatClampNeg ((mw_L (1 : Int32).toNatClampNeg) + 0)) (0 : Int32).toNatClampNeg)) 64 ∧ (vp_in ((4 * ((upd mw_L (1 : Int32).toNatClampNeg ((mw_L (1 : Int32).toNatClampNeg) + 0)) (0 : Int32).toNatClampNeg)) + 1) 64 ∧ (vp_in ((4 * ((upd mw_L (1 : Int32).toNatClampNeg ((mw_L (1 : Int32).toNatClampNeg) + 0)) (0 : Int32).toNatClampNeg)) + 2) 64 ∧ (vp_in ((4 * ((upd mw_L (1 : Int32).toNatClampNeg ((mw_L (1 : Int32).toNatClampNeg) + 0)) (0 : Int32).toNatClampNeg)) + 3) 64 ∧ (narrow .boolean (.int x7) = .int x7 ∧ post x7 (upd (upd (upd (upd cw_L (4 * ((upd mw_L (1 : Int32).toNatClampNeg ((mw_L (1 : Int32).toNatClampNeg) + 0)) (0 : Int32).toNatClampNeg)).toNatClampNeg x2) ((4 * ((upd mw_L (1 : Int32).toNatClampNeg ((mw_L (1 : Int32).toNatClampNeg) + 0)) (0 : Int32).toNatClampNeg)) + 1).toNatClampNeg x3) ((4 * ((upd mw_L (1 : Int32).toNatClampNeg ((mw_L (1 : Int32).toNatClampNeg) + 0)) (0 : Int32).toNatClampNeg)) + 2).toNatClampNeg x4) ((4 * ((upd mw_L (1 : Int32).toNatClampNeg ((mw_L (1 : Int32).toNatClampNeg) + 0)) (0 : Int32).toNatClampNeg)) + 3).toNatClampNeg ((100 * ((upd mw_L (1 : Int32).toNatClampNeg ((mw_L (1 : Int32).toNatClampNeg) + 0)) (6 : Int32).toNatClampNeg)) + ((upd mw_L (1 : Int32).toNatClampNeg ((mw_L (1 : Int32).toNatClampNeg) + 0)) (5 : Int32).toNatClampNeg))) (upd (upd (upd (upd mw_L (1 : Int32).toNatClampNeg ((mw_L (1 : Int32).toNatClampNeg) + 0)) (0 : Int32).toNatClampNeg (((upd mw_L (1 : Int32).toNatClampNeg ((mw_L (1 : Int32).toNatClampNeg) + 0)) (0 : Int32).toNatClampNeg) + 1)) (5 : Int32).toNatClampNeg x5) (6 : Int32).toNatClampNeg x6))))))))
def wp_L_queues (E : EV) (post : Int32 → (Nat → Int32) → (Nat → Int32) → Prop) (cw : Nat → Int32) (mw : Nat → Int32) (p0 : Int32) (p1 : Int32) (p2 : Int32) : Prop := ((p0 = 3 → ((3 ≤ p1 → (∃ n : Nat, wp_L_queues_L92 E post n cw mw p0 p1 p2 ((mw (5 : Int32).toNatClampNeg) + 0) ((mw (6 : Int32).toNatClampNeg) + 0) 0)) ∧ (¬ (3 ≤ p1) → (∃ n : Nat, wp_L_queues_L92 E post n cw mw p0 p1 p2 ((mw (5 : Int32).toNatClampNeg) + 0) ((mw (6 : Int32).toNatClampNeg) + 0) 1)))) ∧ (¬ (p0 = 3) → (wp_L_size E (fun r_833 : Int32 => ((r_833 ≤ 0 → (∃ n : Nat, wp_L_queues_L92 E post n cw mw p0 p1 p2 ((mw (5 : Int32).toNatClampNeg) + p1) ((mw (6 : Int32).toNatClampNeg) + p2) 0)) ∧ (¬ (r_833 ≤ 0) → ((((mw (5 : Int32).toNatClampNeg) + p1) < 0 → (∃ n : Nat, wp_L_queues_L92 E post n cw mw p0 p1 p2 ((mw (5 : Int32).toNatClampNeg) + p1) ((mw (6 : Int32).toNatClampNeg) + p2) 0)) ∧ (¬ ((mw (5 : Int32).toNatClampNeg) + p1) < 0 → ((100 ≤ ((mw (5 : Int32).toNatClampNeg) + p1) → (∃ n : Nat, wp_L_queues_L92 E post n cw mw p0 p1 p2 ((mw (5 : Int32).toNatClampNeg) + p1) ((mw (6 : Int32).toNatClampNeg) + p2) 0)) ∧ (¬ (100 ≤ ((mw (5 : Int32).toNatClampNeg) + p1)) → ((((mw (6 : Int32).toNatClampNeg) + p2) < 0 → (∃ n : Nat, wp_L_queues_L92 E post n cw mw p0 p1 p2 ((mw (5 : Int32).toNatClampNeg) + p1) ((mw (6 : Int32).toNatClampNeg) + p2) 0)) ∧ (¬ ((mw (6 : Int32).toNatClampNeg) + p2) < 0 → ((100 ≤ ((mw (6 : Int32).toNatClampNeg) + p2) → (∃ n : Nat, wp_L_queues_L92 E post n cw mw p0 p1 p2 ((mw (5 : Int32).toNatClampNeg) + p1) ((mw (6 : Int32).toNatClampNeg) + p2) 0)) ∧ (¬ (100 ≤ ((mw (6 : Int32).toNatClampNeg) + p2)) → (∃ n : Nat, wp_L_queues_L92 E post n cw mw p0 p1 p2 ((mw (5 : Int32).toNatClampNeg) + p1) ((mw (6 : Int32).toNatClampNeg) + p2) 1)))))))))))) p1 p2)))
set_option maxHeartbeats 4000000 in
set_option maxRecDepth 100000 in
theorem c_L_queues (E : EV) (l : Launch) (bx : Nat → Nat) (cw : Nat → Int32) (mw : Nat → Int32) (p0 : Int32) (p1 : Int32) (p2 : Int32) (hz : Nat) (post : Int32 → (Nat → Int32) → (Nat → Int32) → Prop) (hw : wp_L_queues E post cw mw p0 p1 p2) : Met l yL_queues (Cond.code yL_queues cL_queues 8 (some .boolean) :: ALLW) ({ frames := 1, cells := 0, slots := 0, locals := 23 } : Room) (va_Pc [.ref (bx 0), .ref (bx 1), .int p0, .int p1, .int p2] (preM E (wCM E bx cw mw) hz)) (va_Qi (fun (r : Int32) (u : (Nat → Int32) × (Nat → Int32)) => post r u.1 u.2) (fun (u : (Nat → Int32) × (Nat → Int32)) t => va_P (eD E) vwCl (wCM E bx u.1 u.2) t.heap ∧ va_D (va_A (wCM E bx cw mw) hz) (wCM E bx u.1 u.2)) (va_A (wCM E bx cw mw) hz)) 0 0 (va_A (wCM E bx cw mw) hz) := by
  refine Met.ofW (cc := cL_queues) (maxL := 8) (ret := (some .boolean)) (by decide) rfl ?_
  intro p e s m args below meth c s₁ B hml hv
  obtain ⟨rfl, hpre⟩ := hv
  have hx := B.exec
  have hb := B.bytes
  have hr := B.returns
  have hlocks := B.notSynchronized
  have hts := atoms_spec (ws := (Cond.code yL_queues cL_queues 8 (some .boolean) :: ALLW)) B.pre
  have hta : ∀ w ∈ ALLW, w.before ([.ref (bx 0), .ref (bx 1), .int p0, .int p1, .int p2] : List Value).toArray s = true := fun w h => hts w (List.mem_cons_of_mem _ h)
  have hown : s.vm.findClass RL = some m.cls := findClass_of_methodNamed B.named
  obtain ⟨hsz, hP, hKE, hD0, hZ⟩ := hpre
  subst hsz
  have hD := hD0.self (sz := s.heap.size)
  generalize hAe : va_A (wCM E bx cw mw) s.heap.size = A at hD hZ ⊢
  have hA : ∀ q : Nat, s.heap.size ≤ q → A q := fun q h => by rw [← hAe]; exact Or.inr h
  have hS : va_S A s.heap s.heap [] := va_S.rf
  have hP : va_P (eD E) vwCl [((bx 0), .inl (eC E 0, 64, .inl cw)), ((bx 1), .inl (eC E 0, 8, .inl mw))] s.heap := hP
  have hD : va_D A [((bx 0), .inl (eC E 0, 64, .inl cw)), ((bx 1), .inl (eC E 0, 8, .inl mw))] := hD
  have hl := lv_entry ([.ref (bx 0), .ref (bx 1), .int p0, .int p1, .int p2]) (n := 8) (Nat.le_of_ble_eq_true rfl)
  rw [lg_entry_eq]
  generalize (lg_sl ([.ref (bx 0), .ref (bx 1), .int p0, .int p1, .int p2]) ++ List.replicate (8 - (lg_sl ([.ref (bx 0), .ref (bx 1), .int p0, .int p1, .int p2])).length) Slot.unset).toArray = ls at hl ⊢
  have hl : lv_has ls 8 [(0, .ref (bx 0)), (1, .ref (bx 1)), (2, .int p0), (3, .int p1), (4, .int p2)] := hl
  have loop_92 : ∀ (n : Nat) (cw_L : Nat → Int32) (mw_L : Nat → Int32) (x2 : Int32) (x3 : Int32) (x4 : Int32) (x5 : Int32) (x6 : Int32) (x7 : Int32), wp_L_queues_L92 E post n cw_L mw_L x2 x3 x4 x5 x6 x7 → ∀ (H : Heap) (locs : List Loc), va_P (eD E) vwCl [((bx 0), .inl (eC E 0, 64, .inl cw_L)), ((bx 1), .inl (eC E 0, 8, .inl mw_L))] H → va_D A [((bx 0), .inl (eC E 0, 64, .inl cw_L)), ((bx 1), .inl (eC E 0, 8, .inl mw_L))] → va_S A s.heap H locs → ∀ (ls : Array Slot), lv_has ls 8 [(0, .ref (bx 0)), (1, .ref (bx 1)), (2, .int x2), (3, .int x3), (4, .int x4), (5, .int x5), (6, .int x6), (7, .int x7)] → W p l e (headSpec (Cond.code yL_queues cL_queues 8 (some .boolean) :: ALLW) ({ frames := 1, cells := 0, slots := 0, locals := 23 } : Room)).room s m ([.ref (bx 0), .ref (bx 1), .int p0, .int p1, .int p2] : List Value).toArray below meth c H locs 0 0 (MQ below (va_Qi (fun (r : Int32) (u : (Nat → Int32) × (Nat → Int32)) => post r u.1 u.2) (fun (u : (Nat → Int32) × (Nat → Int32)) t => va_P (eD E) vwCl (wCM E bx u.1 u.2) t.heap ∧ va_D A (wCM E bx u.1 u.2)) A) ([.ref (bx 0), .ref (bx 1), .int p0, .int p1, .int p2] : List Value).toArray s 0 0 A) (F0 m 92 ls []) := by
    intro n
    induction n with
    | zero => intro cw_L mw_L x2 x3 x4 x5 x6 x7 hw; exact hw.elim
    | succ n ih =>
      intro cw_L mw_L x2 x3 x4 x5 x6 x7 hw H locs hP hD hS ls hl
      unfold wp_L_queues_L92 at hw
      refine lv_aload_n hx hb dL_queues_92 rfl (lv_at hl 1 rfl) ?_
      refine lv_iconst (v := 1) hx hb dL_queues_93 (by decide) ?_
      refine lv_dup2_11 hx hb dL_queues_94 rfl rfl ?_
      refine va_iald hx hb hKE.1 hP 1 0 rfl rfl (show vp_in 1 8 from by unfold vp_in; decide) dL_queues_95 ?_
      refine lv_iload hx hb dL_queues_96 (lv_at hl 7 rfl) ?_
      refine lv_if_eq (tgt := 105) hx hb dL_queues_98 (by decide) (fun c_835 => ?_) (fun c_835 => ?_)
      · have hw := hw.1 c_835
        refine lv_iconst (v := 1) hx hb dL_queues_105 (by decide) ?_
        refine lv_iadd hx hb dL_queues_106 ?_
        refine va_iast hx hb hKE.1 hP hD hS 1 0 rfl rfl (show vp_in 1 8 from by unfold vp_in; decide) dL_queues_107 (fun H locs hP hD hS => ?_)
        have hP : va_P (eD E) vwCl [((bx 0), .inl (eC E 0, 64, .inl cw_L)), ((bx 1), .inl (eC E 0, 8, .inl (upd mw_L (1 : Int32).toNatClampNeg ((mw_L (1 : Int32).toNatClampNeg) + 1))))] H := hP
        have hD : va_D A [((bx 0), .inl (eC E 0, 64, .inl cw_L)), ((bx 1), .inl (eC E 0, 8, .inl (upd mw_L (1 : Int32).toNatClampNeg ((mw_L (1 : Int32).toNatClampNeg) + 1))))] := hD
        refine lv_iload hx hb dL_queues_108 (lv_at hl 7 rfl) ?_
        refine lv_if_eq (tgt := 180) hx hb dL_queues_110 (by decide) (fun _ => ?_) (fun c9 => absurd c_835 c9)
        refine lv_iload hx hb dL_queues_180 (lv_at hl 7 rfl) ?_
        obtain ⟨hn_836, hw⟩ := hw
        have hP9 : va_P (eD E) vwCl (wCM E bx cw_L (upd mw_L (1 : Int32).toNatClampNeg ((mw_L (1 : Int32).toNatClampNeg) + 1))) H := hP
        have hD9 : va_D A (wCM E bx cw_L (upd mw_L (1 : Int32).toNatClampNeg ((mw_L (1 : Int32).toNatClampNeg) + 1))) := hD
        exact W.zret (v := x7) hx hb hr hn_836 (fun t ht hW => ⟨⟨x7, (cw_L, (upd mw_L (1 : Int32).toNatClampNeg ((mw_L (1 : Int32).toNatClampNeg) + 1))), rfl, hw, ⟨by rw [ht]; exact hP9, hD9⟩⟩, hS.F ht⟩) hS.2.2 dL_queues_182
      · have hw := hw.2 c_835
        refine lv_iconst (v := 0) hx hb dL_queues_101 (by decide) ?_
        refine lv_goto (tgt := 106) hx hb dL_queues_102 (by decide) ?_
        refine lv_iadd hx hb dL_queues_106 ?_
        refine va_iast hx hb hKE.1 hP hD hS 1 0 rfl rfl (show vp_in 1 8 from by unfold vp_in; decide) dL_queues_107 (fun H locs hP hD hS => ?_)
        have hP : va_P (eD E) vwCl [((bx 0), .inl (eC E 0, 64, .inl cw_L)), ((bx 1), .inl (eC E 0, 8, .inl (upd mw_L (1 : Int32).toNatClampNeg ((mw_L (1 : Int32).toNatClampNeg) + 0))))] H := hP
        have hD : va_D A [((bx 0), .inl (eC E 0, 64, .inl cw_L)), ((bx 1), .inl (eC E 0, 8, .inl (upd mw_L (1 : Int32).toNatClampNeg ((mw_L (1 : Int32).toNatClampNeg) + 0))))] := hD
        refine lv_iload hx hb dL_queues_108 (lv_at hl 7 rfl) ?_
        refine lv_if_eq (tgt := 180) hx hb dL_queues_110 (by decide) (fun c9 => absurd c9 c_835) (fun _ => ?_)
        refine lv_aload_n hx hb dL_queues_113 rfl (lv_at hl 0 rfl) ?_
        refine lv_iconst (v := 4) hx hb dL_queues_114 (by decide) ?_
        refine lv_aload_n hx hb dL_queues_115 rfl (lv_at hl 1 rfl) ?_
        refine lv_iconst (v := 0) hx hb dL_queues_116 (by decide) ?_
        refine va_iald hx hb hKE.1 hP 1 0 rfl rfl (show vp_in 0 8 from by unfold vp_in; decide) dL_queues_117 ?_
        refine lv_imul hx hb dL_queues_118 ?_
        refine lv_iload_n hx hb dL_queues_119 rfl (lv_at hl 2 rfl) ?_
        obtain ⟨hi_837, hw⟩ := hw
        refine va_iast hx hb hKE.1 hP hD hS 0 0 rfl rfl hi_837 dL_queues_120 (fun H locs hP hD hS => ?_)
        have hP : va_P (eD E) vwCl [((bx 0), .inl (eC E 0, 64, .inl (upd cw_L (4 * ((upd mw_L (1 : Int32).toNatClampNeg ((mw_L (1 : Int32).toNatClampNeg) + 0)) (0 : Int32).toNatClampNeg)).toNatClampNeg x2))), ((bx 1), .inl (eC E 0, 8, .inl (upd mw_L (1 : Int32).toNatClampNeg ((mw_L (1 : Int32).toNatClampNeg) + 0))))] H := hP
        have hD : va_D A [((bx 0), .inl (eC E 0, 64, .inl (upd cw_L (4 * ((upd mw_L (1 : Int32).toNatClampNeg ((mw_L (1 : Int32).toNatClampNeg) + 0)) (0 : Int32).toNatClampNeg)).toNatClampNeg x2))), ((bx 1), .inl (eC E 0, 8, .inl (upd mw_L (1 : Int32).toNatClampNeg ((mw_L (1 : Int32).toNatClampNeg) + 0))))] := hD
        refine lv_aload_n hx hb dL_queues_121 rfl (lv_at hl 0 rfl) ?_
        refine lv_iconst (v := 4) hx hb dL_queues_122 (by decide) ?_
        refine lv_aload_n hx hb dL_queues_123 rfl (lv_at hl 1 rfl) ?_
        refine lv_iconst (v := 0) hx hb dL_queues_124 (by decide) ?_
        refine va_iald hx hb hKE.1 hP 1 0 rfl rfl (show vp_in 0 8 from by unfold vp_in; decide) dL_queues_125 ?_
        refine lv_imul hx hb dL_queues_126 ?_
        refine lv_iconst (v := 1) hx hb dL_queues_127 (by decide) ?_
        refine lv_iadd hx hb dL_queues_128 ?_
        refine lv_iload_n hx hb dL_queues_129 rfl (lv_at hl 3 rfl) ?_
        obtain ⟨hi_838, hw⟩ := hw
        refine va_iast hx hb hKE.1 hP hD hS 0 0 rfl rfl hi_838 dL_queues_130 (fun H locs hP hD hS => ?_)
        have hP : va_P (eD E) vwCl [((bx 0), .inl (eC E 0, 64, .inl (upd (upd cw_L (4 * ((upd mw_L (1 : Int32).toNatClampNeg ((mw_L (1 : Int32).toNatClampNeg) + 0)) (0 : Int32).toNatClampNeg)).toNatClampNeg x2) ((4 * ((upd mw_L (1 : Int32).toNatClampNeg ((mw_L (1 : Int32).toNatClampNeg) + 0)) (0 : Int32).toNatClampNeg)) + 1).toNatClampNeg x3))), ((bx 1), .inl (eC E 0, 8, .inl (upd mw_L (1 : Int32).toNatClampNeg ((mw_L (1 : Int32).toNatClampNeg) + 0))))] H := hP
        have hD : va_D A [((bx 0), .inl (eC E 0, 64, .inl (upd (upd cw_L (4 * ((upd mw_L (1 : Int32).toNatClampNeg ((mw_L (1 : Int32).toNatClampNeg) + 0)) (0 : Int32).toNatClampNeg)).toNatClampNeg x2) ((4 * ((upd mw_L (1 : Int32).toNatClampNeg ((mw_L (1 : Int32).toNatClampNeg) + 0)) (0 : Int32).toNatClampNeg)) + 1).toNatClampNeg x3))), ((bx 1), .inl (eC E 0, 8, .inl (upd mw_L (1 : Int32).toNatClampNeg ((mw_L (1 : Int32).toNatClampNeg) + 0))))] := hD
        refine lv_aload_n hx hb dL_queues_131 rfl (lv_at hl 0 rfl) ?_
        refine lv_iconst (v := 4) hx hb dL_queues_132 (by decide) ?_
        refine lv_aload_n hx hb dL_queues_133 rfl (lv_at hl 1 rfl) ?_
        refine lv_iconst (v := 0) hx hb dL_queues_134 (by decide) ?_
        refine va_iald hx hb hKE.1 hP 1 0 rfl rfl (show vp_in 0 8 from by unfold vp_in; decide) dL_queues_135 ?_
        refine lv_imul hx hb dL_queues_136 ?_
        refine lv_iconst (v := 2) hx hb dL_queues_137 (by decide) ?_
        refine lv_iadd hx hb dL_queues_138 ?_
        refine lv_iload hx hb dL_queues_139 (lv_at hl 4 rfl) ?_
        obtain ⟨hi_839, hw⟩ := hw
        refine va_iast hx hb hKE.1 hP hD hS 0 0 rfl rfl hi_839 dL_queues_141 (fun H locs hP hD hS => ?_)
        have hP : va_P (eD E) vwCl [((bx 0), .inl (eC E 0, 64, .inl (upd (upd (upd cw_L (4 * ((upd mw_L (1 : Int32).toNatClampNeg ((mw_L (1 : Int32).toNatClampNeg) + 0)) (0 : Int32).toNatClampNeg)).toNatClampNeg x2) ((4 * ((upd mw_L (1 : Int32).toNatClampNeg ((mw_L (1 : Int32).toNatClampNeg) + 0)) (0 : Int32).toNatClampNeg)) + 1).toNatClampNeg x3) ((4 * ((upd mw_L (1 : Int32).toNatClampNeg ((mw_L (1 : Int32).toNatClampNeg) + 0)) (0 : Int32).toNatClampNeg)) + 2).toNatClampNeg x4))), ((bx 1), .inl (eC E 0, 8, .inl (upd mw_L (1 : Int32).toNatClampNeg ((mw_L (1 : Int32).toNatClampNeg) + 0))))] H := hP
        have hD : va_D A [((bx 0), .inl (eC E 0, 64, .inl (upd (upd (upd cw_L (4 * ((upd mw_L (1 : Int32).toNatClampNeg ((mw_L (1 : Int32).toNatClampNeg) + 0)) (0 : Int32).toNatClampNeg)).toNatClampNeg x2) ((4 * ((upd mw_L (1 : Int32).toNatClampNeg ((mw_L (1 : Int32).toNatClampNeg) + 0)) (0 : Int32).toNatClampNeg)) + 1).toNatClampNeg x3) ((4 * ((upd mw_L (1 : Int32).toNatClampNeg ((mw_L (1 : Int32).toNatClampNeg) + 0)) (0 : Int32).toNatClampNeg)) + 2).toNatClampNeg x4))), ((bx 1), .inl (eC E 0, 8, .inl (upd mw_L (1 : Int32).toNatClampNeg ((mw_L (1 : Int32).toNatClampNeg) + 0))))] := hD
        refine lv_aload_n hx hb dL_queues_142 rfl (lv_at hl 0 rfl) ?_
        refine lv_iconst (v := 4) hx hb dL_queues_143 (by decide) ?_
        refine lv_aload_n hx hb dL_queues_144 rfl (lv_at hl 1 rfl) ?_
        refine lv_iconst (v := 0) hx hb dL_queues_145 (by decide) ?_
        refine va_iald hx hb hKE.1 hP 1 0 rfl rfl (show vp_in 0 8 from by unfold vp_in; decide) dL_queues_146 ?_
        refine lv_imul hx hb dL_queues_147 ?_
        refine lv_iconst (v := 3) hx hb dL_queues_148 (by decide) ?_
        refine lv_iadd hx hb dL_queues_149 ?_
        refine lv_bipush (v := 100) hx hb dL_queues_150 (by decide) ?_
        refine lv_aload_n hx hb dL_queues_152 rfl (lv_at hl 1 rfl) ?_
        refine lv_bipush (v := 6) hx hb dL_queues_153 (by decide) ?_
        refine va_iald hx hb hKE.1 hP 1 0 rfl rfl (show vp_in 6 8 from by unfold vp_in; decide) dL_queues_155 ?_
        refine lv_imul hx hb dL_queues_156 ?_
        refine lv_aload_n hx hb dL_queues_157 rfl (lv_at hl 1 rfl) ?_
        refine lv_iconst (v := 5) hx hb dL_queues_158 (by decide) ?_
        refine va_iald hx hb hKE.1 hP 1 0 rfl rfl (show vp_in 5 8 from by unfold vp_in; decide) dL_queues_159 ?_
        refine lv_iadd hx hb dL_queues_160 ?_
        obtain ⟨hi_840, hw⟩ := hw
        refine va_iast hx hb hKE.1 hP hD hS 0 0 rfl rfl hi_840 dL_queues_161 (fun H locs hP hD hS => ?_)
        have hP : va_P (eD E) vwCl [((bx 0), .inl (eC E 0, 64, .inl (upd (upd (upd (upd cw_L (4 * ((upd mw_L (1 : Int32).toNatClampNeg ((mw_L (1 : Int32).toNatClampNeg) + 0)) (0 : Int32).toNatClampNeg)).toNatClampNeg x2) ((4 * ((upd mw_L (1 : Int32).toNatClampNeg ((mw_L (1 : Int32).toNatClampNeg) + 0)) (0 : Int32).toNatClampNeg)) + 1).toNatClampNeg x3) ((4 * ((upd mw_L (1 : Int32).toNatClampNeg ((mw_L (1 : Int32).toNatClampNeg) + 0)) (0 : Int32).toNatClampNeg)) + 2).toNatClampNeg x4) ((4 * ((upd mw_L (1 : Int32).toNatClampNeg ((mw_L (1 : Int32).toNatClampNeg) + 0)) (0 : Int32).toNatClampNeg)) + 3).toNatClampNeg ((100 * ((upd mw_L (1 : Int32).toNatClampNeg ((mw_L (1 : Int32).toNatClampNeg) + 0)) (6 : Int32).toNatClampNeg)) + ((upd mw_L (1 : Int32).toNatClampNeg ((mw_L (1 : Int32).toNatClampNeg) + 0)) (5 : Int32).toNatClampNeg))))), ((bx 1), .inl (eC E 0, 8, .inl (upd mw_L (1 : Int32).toNatClampNeg ((mw_L (1 : Int32).toNatClampNeg) + 0))))] H := hP
        have hD : va_D A [((bx 0), .inl (eC E 0, 64, .inl (upd (upd (upd (upd cw_L (4 * ((upd mw_L (1 : Int32).toNatClampNeg ((mw_L (1 : Int32).toNatClampNeg) + 0)) (0 : Int32).toNatClampNeg)).toNatClampNeg x2) ((4 * ((upd mw_L (1 : Int32).toNatClampNeg ((mw_L (1 : Int32).toNatClampNeg) + 0)) (0 : Int32).toNatClampNeg)) + 1).toNatClampNeg x3) ((4 * ((upd mw_L (1 : Int32).toNatClampNeg ((mw_L (1 : Int32).toNatClampNeg) + 0)) (0 : Int32).toNatClampNeg)) + 2).toNatClampNeg x4) ((4 * ((upd mw_L (1 : Int32).toNatClampNeg ((mw_L (1 : Int32).toNatClampNeg) + 0)) (0 : Int32).toNatClampNeg)) + 3).toNatClampNeg ((100 * ((upd mw_L (1 : Int32).toNatClampNeg ((mw_L (1 : Int32).toNatClampNeg) + 0)) (6 : Int32).toNatClampNeg)) + ((upd mw_L (1 : Int32).toNatClampNeg ((mw_L (1 : Int32).toNatClampNeg) + 0)) (5 : Int32).toNatClampNeg))))), ((bx 1), .inl (eC E 0, 8, .inl (upd mw_L (1 : Int32).toNatClampNeg ((mw_L (1 : Int32).toNatClampNeg) + 0))))] := hD
        refine lv_aload_n hx hb dL_queues_162 rfl (lv_at hl 1 rfl) ?_
        refine lv_iconst (v := 0) hx hb dL_queues_163 (by decide) ?_
        refine lv_dup2_11 hx hb dL_queues_164 rfl rfl ?_
        refine va_iald hx hb hKE.1 hP 1 0 rfl rfl (show vp_in 0 8 from by unfold vp_in; decide) dL_queues_165 ?_
        refine lv_iconst (v := 1) hx hb dL_queues_166 (by decide) ?_
        refine lv_iadd hx hb dL_queues_167 ?_
        refine va_iast hx hb hKE.1 hP hD hS 1 0 rfl rfl (show vp_in 0 8 from by unfold vp_in; decide) dL_queues_168 (fun H locs hP hD hS => ?_)
        have hP : va_P (eD E) vwCl [((bx 0), .inl (eC E 0, 64, .inl (upd (upd (upd (upd cw_L (4 * ((upd mw_L (1 : Int32).toNatClampNeg ((mw_L (1 : Int32).toNatClampNeg) + 0)) (0 : Int32).toNatClampNeg)).toNatClampNeg x2) ((4 * ((upd mw_L (1 : Int32).toNatClampNeg ((mw_L (1 : Int32).toNatClampNeg) + 0)) (0 : Int32).toNatClampNeg)) + 1).toNatClampNeg x3) ((4 * ((upd mw_L (1 : Int32).toNatClampNeg ((mw_L (1 : Int32).toNatClampNeg) + 0)) (0 : Int32).toNatClampNeg)) + 2).toNatClampNeg x4) ((4 * ((upd mw_L (1 : Int32).toNatClampNeg ((mw_L (1 : Int32).toNatClampNeg) + 0)) (0 : Int32).toNatClampNeg)) + 3).toNatClampNeg ((100 * ((upd mw_L (1 : Int32).toNatClampNeg ((mw_L (1 : Int32).toNatClampNeg) + 0)) (6 : Int32).toNatClampNeg)) + ((upd mw_L (1 : Int32).toNatClampNeg ((mw_L (1 : Int32).toNatClampNeg) + 0)) (5 : Int32).toNatClampNeg))))), ((bx 1), .inl (eC E 0, 8, .inl (upd (upd mw_L (1 : Int32).toNatClampNeg ((mw_L (1 : Int32).toNatClampNeg) + 0)) (0 : Int32).toNatClampNeg (((upd mw_L (1 : Int32).toNatClampNeg ((mw_L (1 : Int32).toNatClampNeg) + 0)) (0 : Int32).toNatClampNeg) + 1))))] H := hP
        have hD : va_D A [((bx 0), .inl (eC E 0, 64, .inl (upd (upd (upd (upd cw_L (4 * ((upd mw_L (1 : Int32).toNatClampNeg ((mw_L (1 : Int32).toNatClampNeg) + 0)) (0 : Int32).toNatClampNeg)).toNatClampNeg x2) ((4 * ((upd mw_L (1 : Int32).toNatClampNeg ((mw_L (1 : Int32).toNatClampNeg) + 0)) (0 : Int32).toNatClampNeg)) + 1).toNatClampNeg x3) ((4 * ((upd mw_L (1 : Int32).toNatClampNeg ((mw_L (1 : Int32).toNatClampNeg) + 0)) (0 : Int32).toNatClampNeg)) + 2).toNatClampNeg x4) ((4 * ((upd mw_L (1 : Int32).toNatClampNeg ((mw_L (1 : Int32).toNatClampNeg) + 0)) (0 : Int32).toNatClampNeg)) + 3).toNatClampNeg ((100 * ((upd mw_L (1 : Int32).toNatClampNeg ((mw_L (1 : Int32).toNatClampNeg) + 0)) (6 : Int32).toNatClampNeg)) + ((upd mw_L (1 : Int32).toNatClampNeg ((mw_L (1 : Int32).toNatClampNeg) + 0)) (5 : Int32).toNatClampNeg))))), ((bx 1), .inl (eC E 0, 8, .inl (upd (upd mw_L (1 : Int32).toNatClampNeg ((mw_L (1 : Int32).toNatClampNeg) + 0)) (0 : Int32).toNatClampNeg (((upd mw_L (1 : Int32).toNatClampNeg ((mw_L (1 : Int32).toNatClampNeg) + 0)) (0 : Int32).toNatClampNeg) + 1))))] := hD
        refine lv_aload_n hx hb dL_queues_169 rfl (lv_at hl 1 rfl) ?_
        refine lv_iconst (v := 5) hx hb dL_queues_170 (by decide) ?_
        refine lv_iload hx hb dL_queues_171 (lv_at hl 5 rfl) ?_
        refine va_iast hx hb hKE.1 hP hD hS 1 0 rfl rfl (show vp_in 5 8 from by unfold vp_in; decide) dL_queues_173 (fun H locs hP hD hS => ?_)
        have hP : va_P (eD E) vwCl [((bx 0), .inl (eC E 0, 64, .inl (upd (upd (upd (upd cw_L (4 * ((upd mw_L (1 : Int32).toNatClampNeg ((mw_L (1 : Int32).toNatClampNeg) + 0)) (0 : Int32).toNatClampNeg)).toNatClampNeg x2) ((4 * ((upd mw_L (1 : Int32).toNatClampNeg ((mw_L (1 : Int32).toNatClampNeg) + 0)) (0 : Int32).toNatClampNeg)) + 1).toNatClampNeg x3) ((4 * ((upd mw_L (1 : Int32).toNatClampNeg ((mw_L (1 : Int32).toNatClampNeg) + 0)) (0 : Int32).toNatClampNeg)) + 2).toNatClampNeg x4) ((4 * ((upd mw_L (1 : Int32).toNatClampNeg ((mw_L (1 : Int32).toNatClampNeg) + 0)) (0 : Int32).toNatClampNeg)) + 3).toNatClampNeg ((100 * ((upd mw_L (1 : Int32).toNatClampNeg ((mw_L (1 : Int32).toNatClampNeg) + 0)) (6 : Int32).toNatClampNeg)) + ((upd mw_L (1 : Int32).toNatClampNeg ((mw_L (1 : Int32).toNatClampNeg) + 0)) (5 : Int32).toNatClampNeg))))), ((bx 1), .inl (eC E 0, 8, .inl (upd (upd (upd mw_L (1 : Int32).toNatClampNeg ((mw_L (1 : Int32).toNatClampNeg) + 0)) (0 : Int32).toNatClampNeg (((upd mw_L (1 : Int32).toNatClampNeg ((mw_L (1 : Int32).toNatClampNeg) + 0)) (0 : Int32).toNatClampNeg) + 1)) (5 : Int32).toNatClampNeg x5)))] H := hP
        have hD : va_D A [((bx 0), .inl (eC E 0, 64, .inl (upd (upd (upd (upd cw_L (4 * ((upd mw_L (1 : Int32).toNatClampNeg ((mw_L (1 : Int32).toNatClampNeg) + 0)) (0 : Int32).toNatClampNeg)).toNatClampNeg x2) ((4 * ((upd mw_L (1 : Int32).toNatClampNeg ((mw_L (1 : Int32).toNatClampNeg) + 0)) (0 : Int32).toNatClampNeg)) + 1).toNatClampNeg x3) ((4 * ((upd mw_L (1 : Int32).toNatClampNeg ((mw_L (1 : Int32).toNatClampNeg) + 0)) (0 : Int32).toNatClampNeg)) + 2).toNatClampNeg x4) ((4 * ((upd mw_L (1 : Int32).toNatClampNeg ((mw_L (1 : Int32).toNatClampNeg) + 0)) (0 : Int32).toNatClampNeg)) + 3).toNatClampNeg ((100 * ((upd mw_L (1 : Int32).toNatClampNeg ((mw_L (1 : Int32).toNatClampNeg) + 0)) (6 : Int32).toNatClampNeg)) + ((upd mw_L (1 : Int32).toNatClampNeg ((mw_L (1 : Int32).toNatClampNeg) + 0)) (5 : Int32).toNatClampNeg))))), ((bx 1), .inl (eC E 0, 8, .inl (upd (upd (upd mw_L (1 : Int32).toNatClampNeg ((mw_L (1 : Int32).toNatClampNeg) + 0)) (0 : Int32).toNatClampNeg (((upd mw_L (1 : Int32).toNatClampNeg ((mw_L (1 : Int32).toNatClampNeg) + 0)) (0 : Int32).toNatClampNeg) + 1)) (5 : Int32).toNatClampNeg x5)))] := hD
        refine lv_aload_n hx hb dL_queues_174 rfl (lv_at hl 1 rfl) ?_
        refine lv_bipush (v := 6) hx hb dL_queues_175 (by decide) ?_
        refine lv_iload hx hb dL_queues_177 (lv_at hl 6 rfl) ?_
        refine va_iast hx hb hKE.1 hP hD hS 1 0 rfl rfl (show vp_in 6 8 from by unfold vp_in; decide) dL_queues_179 (fun H locs hP hD hS => ?_)
        have hP : va_P (eD E) vwCl [((bx 0), .inl (eC E 0, 64, .inl (upd (upd (upd (upd cw_L (4 * ((upd mw_L (1 : Int32).toNatClampNeg ((mw_L (1 : Int32).toNatClampNeg) + 0)) (0 : Int32).toNatClampNeg)).toNatClampNeg x2) ((4 * ((upd mw_L (1 : Int32).toNatClampNeg ((mw_L (1 : Int32).toNatClampNeg) + 0)) (0 : Int32).toNatClampNeg)) + 1).toNatClampNeg x3) ((4 * ((upd mw_L (1 : Int32).toNatClampNeg ((mw_L (1 : Int32).toNatClampNeg) + 0)) (0 : Int32).toNatClampNeg)) + 2).toNatClampNeg x4) ((4 * ((upd mw_L (1 : Int32).toNatClampNeg ((mw_L (1 : Int32).toNatClampNeg) + 0)) (0 : Int32).toNatClampNeg)) + 3).toNatClampNeg ((100 * ((upd mw_L (1 : Int32).toNatClampNeg ((mw_L (1 : Int32).toNatClampNeg) + 0)) (6 : Int32).toNatClampNeg)) + ((upd mw_L (1 : Int32).toNatClampNeg ((mw_L (1 : Int32).toNatClampNeg) + 0)) (5 : Int32).toNatClampNeg))))), ((bx 1), .inl (eC E 0, 8, .inl (upd (upd (upd (upd mw_L (1 : Int32).toNatClampNeg ((mw_L (1 : Int32).toNatClampNeg) + 0)) (0 : Int32).toNatClampNeg (((upd mw_L (1 : Int32).toNatClampNeg ((mw_L (1 : Int32).toNatClampNeg) + 0)) (0 : Int32).toNatClampNeg) + 1)) (5 : Int32).toNatClampNeg x5) (6 : Int32).toNatClampNeg x6)))] H := hP
        have hD : va_D A [((bx 0), .inl (eC E 0, 64, .inl (upd (upd (upd (upd cw_L (4 * ((upd mw_L (1 : Int32).toNatClampNeg ((mw_L (1 : Int32).toNatClampNeg) + 0)) (0 : Int32).toNatClampNeg)).toNatClampNeg x2) ((4 * ((upd mw_L (1 : Int32).toNatClampNeg ((mw_L (1 : Int32).toNatClampNeg) + 0)) (0 : Int32).toNatClampNeg)) + 1).toNatClampNeg x3) ((4 * ((upd mw_L (1 : Int32).toNatClampNeg ((mw_L (1 : Int32).toNatClampNeg) + 0)) (0 : Int32).toNatClampNeg)) + 2).toNatClampNeg x4) ((4 * ((upd mw_L (1 : Int32).toNatClampNeg ((mw_L (1 : Int32).toNatClampNeg) + 0)) (0 : Int32).toNatClampNeg)) + 3).toNatClampNeg ((100 * ((upd mw_L (1 : Int32).toNatClampNeg ((mw_L (1 : Int32).toNatClampNeg) + 0)) (6 : Int32).toNatClampNeg)) + ((upd mw_L (1 : Int32).toNatClampNeg ((mw_L (1 : Int32).toNatClampNeg) + 0)) (5 : Int32).toNatClampNeg))))), ((bx 1), .inl (eC E 0, 8, .inl (upd (upd (upd (upd mw_L (1 : Int32).toNatClampNeg ((mw_L (1 : Int32).toNatClampNeg) + 0)) (0 : Int32).toNatClampNeg (((upd mw_L (1 : Int32).toNatClampNeg ((mw_L (1 : Int32).toNatClampNeg) + 0)) (0 : Int32).toNatClampNeg) + 1)) (5 : Int32).toNatClampNeg x5) (6 : Int32).toNatClampNeg x6)))] := hD
        refine lv_iload hx hb dL_queues_180 (lv_at hl 7 rfl) ?_
        obtain ⟨hn_841, hw⟩ := hw
        have hP9 : va_P (eD E) vwCl (wCM E bx (upd (upd (upd (upd cw_L (4 * ((upd mw_L (1 : Int32).toNatClampNeg ((mw_L (1 : Int32).toNatClampNeg) + 0)) (0 : Int32).toNatClampNeg)).toNatClampNeg x2) ((4 * ((upd mw_L (1 : Int32).toNatClampNeg ((mw_L (1 : Int32).toNatClampNeg) + 0)) (0 : Int32).toNatClampNeg)) + 1).toNatClampNeg x3) ((4 * ((upd mw_L (1 : Int32).toNatClampNeg ((mw_L (1 : Int32).toNatClampNeg) + 0)) (0 : Int32).toNatClampNeg)) + 2).toNatClampNeg x4) ((4 * ((upd mw_L (1 : Int32).toNatClampNeg ((mw_L (1 : Int32).toNatClampNeg) + 0)) (0 : Int32).toNatClampNeg)) + 3).toNatClampNeg ((100 * ((upd mw_L (1 : Int32).toNatClampNeg ((mw_L (1 : Int32).toNatClampNeg) + 0)) (6 : Int32).toNatClampNeg)) + ((upd mw_L (1 : Int32).toNatClampNeg ((mw_L (1 : Int32).toNatClampNeg) + 0)) (5 : Int32).toNatClampNeg))) (upd (upd (upd (upd mw_L (1 : Int32).toNatClampNeg ((mw_L (1 : Int32).toNatClampNeg) + 0)) (0 : Int32).toNatClampNeg (((upd mw_L (1 : Int32).toNatClampNeg ((mw_L (1 : Int32).toNatClampNeg) + 0)) (0 : Int32).toNatClampNeg) + 1)) (5 : Int32).toNatClampNeg x5) (6 : Int32).toNatClampNeg x6)) H := hP
        have hD9 : va_D A (wCM E bx (upd (upd (upd (upd cw_L (4 * ((upd mw_L (1 : Int32).toNatClampNeg ((mw_L (1 : Int32).toNatClampNeg) + 0)) (0 : Int32).toNatClampNeg)).toNatClampNeg x2) ((4 * ((upd mw_L (1 : Int32).toNatClampNeg ((mw_L (1 : Int32).toNatClampNeg) + 0)) (0 : Int32).toNatClampNeg)) + 1).toNatClampNeg x3) ((4 * ((upd mw_L (1 : Int32).toNatClampNeg ((mw_L (1 : Int32).toNatClampNeg) + 0)) (0 : Int32).toNatClampNeg)) + 2).toNatClampNeg x4) ((4 * ((upd mw_L (1 : Int32).toNatClampNeg ((mw_L (1 : Int32).toNatClampNeg) + 0)) (0 : Int32).toNatClampNeg)) + 3).toNatClampNeg ((100 * ((upd mw_L (1 : Int32).toNatClampNeg ((mw_L (1 : Int32).toNatClampNeg) + 0)) (6 : Int32).toNatClampNeg)) + ((upd mw_L (1 : Int32).toNatClampNeg ((mw_L (1 : Int32).toNatClampNeg) + 0)) (5 : Int32).toNatClampNeg))) (upd (upd (upd (upd mw_L (1 : Int32).toNatClampNeg ((mw_L (1 : Int32).toNatClampNeg) + 0)) (0 : Int32).toNatClampNeg (((upd mw_L (1 : Int32).toNatClampNeg ((mw_L (1 : Int32).toNatClampNeg) + 0)) (0 : Int32).toNatClampNeg) + 1)) (5 : Int32).toNatClampNeg x5) (6 : Int32).toNatClampNeg x6)) := hD
        exact W.zret (v := x7) hx hb hr hn_841 (fun t ht hW => ⟨⟨x7, ((upd (upd (upd (upd cw_L (4 * ((upd mw_L (1 : Int32).toNatClampNeg ((mw_L (1 : Int32).toNatClampNeg) + 0)) (0 : Int32).toNatClampNeg)).toNatClampNeg x2) ((4 * ((upd mw_L (1 : Int32).toNatClampNeg ((mw_L (1 : Int32).toNatClampNeg) + 0)) (0 : Int32).toNatClampNeg)) + 1).toNatClampNeg x3) ((4 * ((upd mw_L (1 : Int32).toNatClampNeg ((mw_L (1 : Int32).toNatClampNeg) + 0)) (0 : Int32).toNatClampNeg)) + 2).toNatClampNeg x4) ((4 * ((upd mw_L (1 : Int32).toNatClampNeg ((mw_L (1 : Int32).toNatClampNeg) + 0)) (0 : Int32).toNatClampNeg)) + 3).toNatClampNeg ((100 * ((upd mw_L (1 : Int32).toNatClampNeg ((mw_L (1 : Int32).toNatClampNeg) + 0)) (6 : Int32).toNatClampNeg)) + ((upd mw_L (1 : Int32).toNatClampNeg ((mw_L (1 : Int32).toNatClampNeg) + 0)) (5 : Int32).toNatClampNeg))), (upd (upd (upd (upd mw_L (1 : Int32).toNatClampNeg ((mw_L (1 : Int32).toNatClampNeg) + 0)) (0 : Int32).toNatClampNeg (((upd mw_L (1 : Int32).toNatClampNeg ((mw_L (1 : Int32).toNatClampNeg) + 0)) (0 : Int32).toNatClampNeg) + 1)) (5 : Int32).toNatClampNeg x5) (6 : Int32).toNatClampNeg x6)), rfl, hw, ⟨by rw [ht]; exact hP9, hD9⟩⟩, hS.F ht⟩) hS.2.2 dL_queues_182
  unfold wp_L_queues at hw
  refine lv_aload_n hx hb dL_queues_0 rfl (lv_at hl 1 rfl) ?_
  refine lv_iconst (v := 5) hx hb dL_queues_1 (by decide) ?_
  refine va_iald hx hb hKE.1 hP 1 0 rfl rfl (show vp_in 5 8 from by unfold vp_in; decide) dL_queues_2 ?_
  refine lv_iload_n hx hb dL_queues_3 rfl (lv_at hl 2 rfl) ?_
  refine lv_iconst (v := 3) hx hb dL_queues_4 (by decide) ?_
  refine lv_icmp_ne (tgt := 12) hx hb dL_queues_5 (by decide) (fun c_832 => ?_) (fun c_832 => ?_)
  · have hw := hw.2 c_832
    refine lv_iload_n hx hb dL_queues_12 rfl (lv_at hl 3 rfl) ?_
    refine lv_iadd hx hb dL_queues_13 ?_
    refine lv_istore (lv' := [(5, .int ((mw (5 : Int32).toNatClampNeg) + p1)), (0, .ref (bx 0)), (1, .ref (bx 1)), (2, .int p0), (3, .int p1), (4, .int p2)]) hx hb dL_queues_14 hl (by decide) rfl (fun ls hl => ?_)
    refine lv_aload_n hx hb dL_queues_16 rfl (lv_at hl 2 rfl) ?_
    refine lv_bipush (v := 6) hx hb dL_queues_17 (by decide) ?_
    refine va_iald hx hb hKE.1 hP 1 0 rfl rfl (show vp_in 6 8 from by unfold vp_in; decide) dL_queues_19 ?_
    refine lv_iload_n hx hb dL_queues_20 rfl (lv_at hl 3 rfl) ?_
    refine lv_iconst (v := 3) hx hb dL_queues_21 (by decide) ?_
    refine lv_icmp_ne (tgt := 29) hx hb dL_queues_22 (by decide) (fun _ => ?_) (fun c9 => absurd c9 c_832)
    refine lv_iload hx hb dL_queues_29 (lv_at hl 5 rfl) ?_
    refine lv_iadd hx hb dL_queues_31 ?_
    refine lv_istore (lv' := [(6, .int ((mw (6 : Int32).toNatClampNeg) + p2)), (5, .int ((mw (5 : Int32).toNatClampNeg) + p1)), (0, .ref (bx 0)), (1, .ref (bx 1)), (2, .int p0), (3, .int p1), (4, .int p2)]) hx hb dL_queues_32 hl (by decide) rfl (fun ls hl => ?_)
    refine lv_iload_n hx hb dL_queues_34 rfl (lv_at hl 4 rfl) ?_
    refine lv_iconst (v := 3) hx hb dL_queues_35 (by decide) ?_
    refine lv_icmp_ne (tgt := 52) hx hb dL_queues_36 (by decide) (fun _ => ?_) (fun c9 => absurd c9 c_832)
    refine lv_iload_n hx hb dL_queues_52 rfl (lv_at hl 5 rfl) ?_
    refine lv_iload hx hb dL_queues_53 (lv_at hl 6 rfl) ?_
    have hPc : va_P (eD E) vwCl [] s.heap := va_P_nil
    refine vp_callSi (va_Run.run (va_runS (As := [.int p1, .int p2]) (rest := []) ⟨hx, hb, hml, hown, hta⟩ (c_L_size E l p1 p2 _ hw) (pcS (n := 2) hta tw_536 tw_534 tw_0 tw_535 rfl rfl hd_L_size ⟨Nat.le_of_ble_eq_true rfl, Nat.le_of_ble_eq_true rfl⟩) ⟨fbR, fun U hU hW => ⟨rfl, preR.mk hPc hKE hU hW⟩⟩ rfl rfl hl.1 rfl (lv_room (Nat.le_of_ble_eq_true rfl)) dL_queues_55 ⟨Nat.le_of_ble_eq_true rfl, Nat.le_of_ble_eq_true rfl⟩)) (fun r_833 hw => ?_)
    refine lv_if_le (tgt := 89) hx hb dL_queues_58 (by decide) (fun c_834 => ?_) (fun c_834 => ?_)
    · have hw := hw.1 c_834
      refine lv_iconst (v := 0) hx hb dL_queues_89 (by decide) ?_
      refine lv_istore (lv' := [(7, .int 0), (6, .int ((mw (6 : Int32).toNatClampNeg) + p2)), (5, .int ((mw (5 : Int32).toNatClampNeg) + p1)), (0, .ref (bx 0)), (1, .ref (bx 1)), (2, .int p0), (3, .int p1), (4, .int p2)]) hx hb dL_queues_90 hl (by decide) rfl (fun ls hl => ?_)
      obtain ⟨n_842, hw⟩ := hw
      exact loop_92 n_842 cw mw p0 p1 p2 ((mw (5 : Int32).toNatClampNeg) + p1) ((mw (6 : Int32).toNatClampNeg) + p2) 0 hw _ _ hP hD hS ls (lv_sub hl [3, 4, 5, 6, 7, 2, 1, 0] rfl)
    · have hw := hw.2 c_834
      refine lv_iload hx hb dL_queues_61 (lv_at hl 1 rfl) ?_
      refine lv_if_lt (tgt := 89) hx hb dL_queues_63 (by decide) (fun c_843 => ?_) (fun c_843 => ?_)
      · have hw := hw.1 c_843
        refine lv_iconst (v := 0) hx hb dL_queues_89 (by decide) ?_
        refine lv_istore (lv' := [(7, .int 0), (6, .int ((mw (6 : Int32).toNatClampNeg) + p2)), (5, .int ((mw (5 : Int32).toNatClampNeg) + p1)), (0, .ref (bx 0)), (1, .ref (bx 1)), (2, .int p0), (3, .int p1), (4, .int p2)]) hx hb dL_queues_90 hl (by decide) rfl (fun ls hl => ?_)
        obtain ⟨n_844, hw⟩ := hw
        exact loop_92 n_844 cw mw p0 p1 p2 ((mw (5 : Int32).toNatClampNeg) + p1) ((mw (6 : Int32).toNatClampNeg) + p2) 0 hw _ _ hP hD hS ls (lv_sub hl [3, 4, 5, 6, 7, 2, 1, 0] rfl)
      · have hw := hw.2 c_843
        refine lv_iload hx hb dL_queues_66 (lv_at hl 1 rfl) ?_
        refine lv_bipush (v := 100) hx hb dL_queues_68 (by decide) ?_
        refine lv_icmp_ge (tgt := 89) hx hb dL_queues_70 (by decide) (fun c_845 => ?_) (fun c_845 => ?_)
        · have hw := hw.1 c_845
          refine lv_iconst (v := 0) hx hb dL_queues_89 (by decide) ?_
          refine lv_istore (lv' := [(7, .int 0), (6, .int ((mw (6 : Int32).toNatClampNeg) + p2)), (5, .int ((mw (5 : Int32).toNatClampNeg) + p1)), (0, .ref (bx 0)), (1, .ref (bx 1)), (2, .int p0), (3, .int p1), (4, .int p2)]) hx hb dL_queues_90 hl (by decide) rfl (fun ls hl => ?_)
          obtain ⟨n_846, hw⟩ := hw
          exact loop_92 n_846 cw mw p0 p1 p2 ((mw (5 : Int32).toNatClampNeg) + p1) ((mw (6 : Int32).toNatClampNeg) + p2) 0 hw _ _ hP hD hS ls (lv_sub hl [3, 4, 5, 6, 7, 2, 1, 0] rfl)
        · have hw := hw.2 c_845
          refine lv_iload hx hb dL_queues_73 (lv_at hl 0 rfl) ?_
          refine lv_if_lt (tgt := 89) hx hb dL_queues_75 (by decide) (fun c_847 => ?_) (fun c_847 => ?_)
          · have hw := hw.1 c_847
            refine lv_iconst (v := 0) hx hb dL_queues_89 (by decide) ?_
            refine lv_istore (lv' := [(7, .int 0), (6, .int ((mw (6 : Int32).toNatClampNeg) + p2)), (5, .int ((mw (5 : Int32).toNatClampNeg) + p1)), (0, .ref (bx 0)), (1, .ref (bx 1)), (2, .int p0), (3, .int p1), (4, .int p2)]) hx hb dL_queues_90 hl (by decide) rfl (fun ls hl => ?_)
            obtain ⟨n_848, hw⟩ := hw
            exact loop_92 n_848 cw mw p0 p1 p2 ((mw (5 : Int32).toNatClampNeg) + p1) ((mw (6 : Int32).toNatClampNeg) + p2) 0 hw _ _ hP hD hS ls (lv_sub hl [3, 4, 5, 6, 7, 2, 1, 0] rfl)
          · have hw := hw.2 c_847
            refine lv_iload hx hb dL_queues_78 (lv_at hl 0 rfl) ?_
            refine lv_bipush (v := 100) hx hb dL_queues_80 (by decide) ?_
            refine lv_icmp_ge (tgt := 89) hx hb dL_queues_82 (by decide) (fun c_849 => ?_) (fun c_849 => ?_)
            · have hw := hw.1 c_849
              refine lv_iconst (v := 0) hx hb dL_queues_89 (by decide) ?_
              refine lv_istore (lv' := [(7, .int 0), (6, .int ((mw (6 : Int32).toNatClampNeg) + p2)), (5, .int ((mw (5 : Int32).toNatClampNeg) + p1)), (0, .ref (bx 0)), (1, .ref (bx 1)), (2, .int p0), (3, .int p1), (4, .int p2)]) hx hb dL_queues_90 hl (by decide) rfl (fun ls hl => ?_)
              obtain ⟨n_850, hw⟩ := hw
              exact loop_92 n_850 cw mw p0 p1 p2 ((mw (5 : Int32).toNatClampNeg) + p1) ((mw (6 : Int32).toNatClampNeg) + p2) 0 hw _ _ hP hD hS ls (lv_sub hl [3, 4, 5, 6, 7, 2, 1, 0] rfl)
            · have hw := hw.2 c_849
              refine lv_iconst (v := 1) hx hb dL_queues_85 (by decide) ?_
              refine lv_goto (tgt := 90) hx hb dL_queues_86 (by decide) ?_
              refine lv_istore (lv' := [(7, .int 1), (6, .int ((mw (6 : Int32).toNatClampNeg) + p2)), (5, .int ((mw (5 : Int32).toNatClampNeg) + p1)), (0, .ref (bx 0)), (1, .ref (bx 1)), (2, .int p0), (3, .int p1), (4, .int p2)]) hx hb dL_queues_90 hl (by decide) rfl (fun ls hl => ?_)
              obtain ⟨n_851, hw⟩ := hw
              exact loop_92 n_851 cw mw p0 p1 p2 ((mw (5 : Int32).toNatClampNeg) + p1) ((mw (6 : Int32).toNatClampNeg) + p2) 1 hw _ _ hP hD hS ls (lv_sub hl [3, 4, 5, 6, 7, 2, 1, 0] rfl)
  · have hw := hw.1 c_832
    refine lv_iconst (v := 0) hx hb dL_queues_8 (by decide) ?_
    refine lv_goto (tgt := 13) hx hb dL_queues_9 (by decide) ?_
    refine lv_iadd hx hb dL_queues_13 ?_
    refine lv_istore (lv' := [(5, .int ((mw (5 : Int32).toNatClampNeg) + 0)), (0, .ref (bx 0)), (1, .ref (bx 1)), (2, .int p0), (3, .int p1), (4, .int p2)]) hx hb dL_queues_14 hl (by decide) rfl (fun ls hl => ?_)
    refine lv_aload_n hx hb dL_queues_16 rfl (lv_at hl 2 rfl) ?_
    refine lv_bipush (v := 6) hx hb dL_queues_17 (by decide) ?_
    refine va_iald hx hb hKE.1 hP 1 0 rfl rfl (show vp_in 6 8 from by unfold vp_in; decide) dL_queues_19 ?_
    refine lv_iload_n hx hb dL_queues_20 rfl (lv_at hl 3 rfl) ?_
    refine lv_iconst (v := 3) hx hb dL_queues_21 (by decide) ?_
    refine lv_icmp_ne (tgt := 29) hx hb dL_queues_22 (by decide) (fun c9 => absurd c_832 c9) (fun _ => ?_)
    refine lv_iconst (v := 0) hx hb dL_queues_25 (by decide) ?_
    refine lv_goto (tgt := 31) hx hb dL_queues_26 (by decide) ?_
    refine lv_iadd hx hb dL_queues_31 ?_
    refine lv_istore (lv' := [(6, .int ((mw (6 : Int32).toNatClampNeg) + 0)), (5, .int ((mw (5 : Int32).toNatClampNeg) + 0)), (0, .ref (bx 0)), (1, .ref (bx 1)), (2, .int p0), (3, .int p1), (4, .int p2)]) hx hb dL_queues_32 hl (by decide) rfl (fun ls hl => ?_)
    refine lv_iload_n hx hb dL_queues_34 rfl (lv_at hl 4 rfl) ?_
    refine lv_iconst (v := 3) hx hb dL_queues_35 (by decide) ?_
    refine lv_icmp_ne (tgt := 52) hx hb dL_queues_36 (by decide) (fun c9 => absurd c_832 c9) (fun _ => ?_)
    refine lv_iload_n hx hb dL_queues_39 rfl (lv_at hl 5 rfl) ?_
    refine lv_iconst (v := 3) hx hb dL_queues_40 (by decide) ?_
    refine lv_icmp_ge (tgt := 48) hx hb dL_queues_41 (by decide) (fun c_852 => ?_) (fun c_852 => ?_)
    · have hw := hw.1 c_852
      refine lv_iconst (v := 0) hx hb dL_queues_48 (by decide) ?_
      refine lv_goto (tgt := 90) hx hb dL_queues_49 (by decide) ?_
      refine lv_istore (lv' := [(7, .int 0), (6, .int ((mw (6 : Int32).toNatClampNeg) + 0)), (5, .int ((mw (5 : Int32).toNatClampNeg) + 0)), (0, .ref (bx 0)), (1, .ref (bx 1)), (2, .int p0), (3, .int p1), (4, .int p2)]) hx hb dL_queues_90 hl (by decide) rfl (fun ls hl => ?_)
      obtain ⟨n_853, hw⟩ := hw
      exact loop_92 n_853 cw mw p0 p1 p2 ((mw (5 : Int32).toNatClampNeg) + 0) ((mw (6 : Int32).toNatClampNeg) + 0) 0 hw _ _ hP hD hS ls (lv_sub hl [3, 4, 5, 6, 7, 2, 1, 0] rfl)
    · have hw := hw.2 c_852
      refine lv_iconst (v := 1) hx hb dL_queues_44 (by decide) ?_
      refine lv_goto (tgt := 90) hx hb dL_queues_45 (by decide) ?_
      refine lv_istore (lv' := [(7, .int 1), (6, .int ((mw (6 : Int32).toNatClampNeg) + 0)), (5, .int ((mw (5 : Int32).toNatClampNeg) + 0)), (0, .ref (bx 0)), (1, .ref (bx 1)), (2, .int p0), (3, .int p1), (4, .int p2)]) hx hb dL_queues_90 hl (by decide) rfl (fun ls hl => ?_)
      obtain ⟨n_854, hw⟩ := hw
      exact loop_92 n_854 cw mw p0 p1 p2 ((mw (5 : Int32).toNatClampNeg) + 0) ((mw (6 : Int32).toNatClampNeg) + 0) 1 hw _ _ hP hD hS ls (lv_sub hl [3, 4, 5, 6, 7, 2, 1, 0] rfl)
def wp_L_cell (E : EV) (post : Int32 → Prop) (cw : Nat → Int32) (mw : Nat → Int32) (p0 : Int32) : Prop := (wp_L_size E (fun r_855 : Int32 => ((¬ r_855 = 0) ∧ ((¬ r_855 = 0) ∧ post (((cw (3 : Int32).toNatClampNeg) + (((cw (1 : Int32).toNatClampNeg) * p0) / r_855)) + (100 * (((cw (2 : Int32).toNatClampNeg) * p0) / r_855)))))) (cw (1 : Int32).toNatClampNeg) (cw (2 : Int32).toNatClampNeg))
set_option maxHeartbeats 4000000 in
set_option maxRecDepth 100000 in
theorem c_L_cell (E : EV) (l : Launch) (bx : Nat → Nat) (cw : Nat → Int32) (mw : Nat → Int32) (p0 : Int32) (post : Int32 → Prop) (hw : wp_L_cell E post cw mw p0) : Met l yL_cell (Cond.code yL_cell cL_cell 3 (some .int) :: ALLW) ({ frames := 1, cells := 0, slots := 0, locals := 23 } : Room) (va_Pc [.ref (bx 0), .int p0] (preR E (wCM E bx cw mw))) (vp_Si post) 0 0 (fun _ => False) := by
  refine Met.ofW (cc := cL_cell) (maxL := 3) (ret := (some .int)) (by decide) rfl ?_
  intro p e s m args below meth c s₁ B hml hv
  obtain ⟨rfl, hpre⟩ := hv
  have hx := B.exec
  have hb := B.bytes
  have hr := B.returns
  have hlocks := B.notSynchronized
  have hts := atoms_spec (ws := (Cond.code yL_cell cL_cell 3 (some .int) :: ALLW)) B.pre
  have hta : ∀ w ∈ ALLW, w.before ([.ref (bx 0), .int p0] : List Value).toArray s = true := fun w h => hts w (List.mem_cons_of_mem _ h)
  have hown : s.vm.findClass RL = some m.cls := findClass_of_methodNamed B.named
  obtain ⟨hP, hKE⟩ := hpre
  have hP : va_P (eD E) vwCl [((bx 0), .inl (eC E 0, 64, .inl cw)), ((bx 1), .inl (eC E 0, 8, .inl mw))] s.heap := hP
  have hl := lv_entry ([.ref (bx 0), .int p0]) (n := 3) (Nat.le_of_ble_eq_true rfl)
  rw [lg_entry_eq]
  generalize (lg_sl ([.ref (bx 0), .int p0]) ++ List.replicate (3 - (lg_sl ([.ref (bx 0), .int p0])).length) Slot.unset).toArray = ls at hl ⊢
  have hl : lv_has ls 3 [(0, .ref (bx 0)), (1, .int p0)] := hl
  unfold wp_L_cell at hw
  refine lv_aload_n hx hb dL_cell_0 rfl (lv_at hl 0 rfl) ?_
  refine lv_iconst (v := 1) hx hb dL_cell_1 (by decide) ?_
  refine va_iald hx hb hKE.1 hP 0 0 rfl rfl (show vp_in 1 64 from by unfold vp_in; decide) dL_cell_2 ?_
  refine lv_aload_n hx hb dL_cell_3 rfl (lv_at hl 0 rfl) ?_
  refine lv_iconst (v := 2) hx hb dL_cell_4 (by decide) ?_
  refine va_iald hx hb hKE.1 hP 0 0 rfl rfl (show vp_in 2 64 from by unfold vp_in; decide) dL_cell_5 ?_
  have hPc : va_P (eD E) vwCl [] s.heap := va_P_nil
  refine vp_callSi (va_Run.run (va_runS (As := [.int (cw (1 : Int32).toNatClampNeg), .int (cw (2 : Int32).toNatClampNeg)]) (rest := []) ⟨hx, hb, hml, hown, hta⟩ (c_L_size E l (cw (1 : Int32).toNatClampNeg) (cw (2 : Int32).toNatClampNeg) _ hw) (pcS (n := 2) hta tw_536 tw_534 tw_0 tw_535 rfl rfl hd_L_size ⟨Nat.le_of_ble_eq_true rfl, Nat.le_of_ble_eq_true rfl⟩) ⟨fbR, fun U hU hW => ⟨rfl, preR.mk hPc hKE hU hW⟩⟩ rfl rfl hl.1 rfl (lv_room (Nat.le_of_ble_eq_true rfl)) dL_cell_6 ⟨Nat.le_of_ble_eq_true rfl, Nat.le_of_ble_eq_true rfl⟩)) (fun r_855 hw => ?_)
  refine lv_istore_n (lv' := [(2, .int r_855), (0, .ref (bx 0)), (1, .int p0)]) hx hb dL_cell_9 rfl hl (by decide) rfl (fun ls hl => ?_)
  refine lv_aload_n hx hb dL_cell_10 rfl (lv_at hl 1 rfl) ?_
  refine lv_iconst (v := 3) hx hb dL_cell_11 (by decide) ?_
  refine va_iald hx hb hKE.1 hP 0 0 rfl rfl (show vp_in 3 64 from by unfold vp_in; decide) dL_cell_12 ?_
  refine lv_aload_n hx hb dL_cell_13 rfl (lv_at hl 1 rfl) ?_
  refine lv_iconst (v := 1) hx hb dL_cell_14 (by decide) ?_
  refine va_iald hx hb hKE.1 hP 0 0 rfl rfl (show vp_in 1 64 from by unfold vp_in; decide) dL_cell_15 ?_
  refine lv_iload_n hx hb dL_cell_16 rfl (lv_at hl 2 rfl) ?_
  refine lv_imul hx hb dL_cell_17 ?_
  refine lv_iload_n hx hb dL_cell_18 rfl (lv_at hl 0 rfl) ?_
  obtain ⟨hne_856, hw⟩ := hw
  refine lv_idiv hx hb dL_cell_19 hne_856 ?_
  refine lv_iadd hx hb dL_cell_20 ?_
  refine lv_bipush (v := 100) hx hb dL_cell_21 (by decide) ?_
  refine lv_aload_n hx hb dL_cell_23 rfl (lv_at hl 1 rfl) ?_
  refine lv_iconst (v := 2) hx hb dL_cell_24 (by decide) ?_
  refine va_iald hx hb hKE.1 hP 0 0 rfl rfl (show vp_in 2 64 from by unfold vp_in; decide) dL_cell_25 ?_
  refine lv_iload_n hx hb dL_cell_26 rfl (lv_at hl 2 rfl) ?_
  refine lv_imul hx hb dL_cell_27 ?_
  refine lv_iload_n hx hb dL_cell_28 rfl (lv_at hl 0 rfl) ?_
  obtain ⟨hne_857, hw⟩ := hw
  refine lv_idiv hx hb dL_cell_29 hne_857 ?_
  refine lv_imul hx hb dL_cell_30 ?_
  refine lv_iadd hx hb dL_cell_31 ?_
  exact W.iret (v := (((cw (3 : Int32).toNatClampNeg) + (((cw (1 : Int32).toNatClampNeg) * p0) / r_855)) + (100 * (((cw (2 : Int32).toNatClampNeg) * p0) / r_855)))) hx hb hr (fun t ht hW => ⟨(((cw (3 : Int32).toNatClampNeg) + (((cw (1 : Int32).toNatClampNeg) * p0) / r_855)) + (100 * (((cw (2 : Int32).toNatClampNeg) * p0) / r_855))), rfl, hw, ht⟩) (fun q hq => nomatch hq) dL_cell_32
def wp_L_due_L15 (E : EV) (post : Int32 → Prop) (gx : Nat → Int32) (lt : Option Nat) (mo : Int32) (ad : Nat) (ln : Int32) (PL : List Nat) (pf : Nat → va_E) (pw : Nat → Int64) (pk : Int32) (lw : Nat → Int64) (lk : Int32) (ik : Nat → Int32) (cw : Nat → Int32) (mw : Nat → Int32) : Nat → Int32 → Int32 → Int32 → Prop
  | 0, _, _, _ => False
  | n + 1, x3, x4, x5 => (((mw (0 : Int32).toNatClampNeg) ≤ x5 → post x4) ∧ (¬ (mw (0 : Int32).toNatClampNeg) ≤ x5 → (vp_in (4 * x5) 64 ∧ (((cw (4 * x5).toNatClampNeg) = 2 → ((1 = x3 → (((cw (4 * x5).toNatClampNeg) = 3 → (wp_L_due_L15 E post gx lt mo ad ln PL pf pw pk lw lk ik cw mw n 1 (x4 + (0 + 3)) (x5 + 1))) ∧ (¬ (cw (4 * x5).toNatClampNeg) = 3 → (vp_in ((4 * x5) + 1) 64 ∧ (vp_in ((4 * x5) + 2) 64 ∧ (wp_L_size E (fun r_879 : Int32 => (wp_L_due_L15 E post gx lt mo ad ln PL pf pw pk lw lk ik cw mw n 1 (x4 + (0 + r_879)) (x5 + 1))) (cw ((4 * x5) + 1).toNatClampNeg) (cw ((4 * x5) + 2).toNatClampNeg))))))) ∧ (¬ (1 = x3) → (((cw (4 * x5).toNatClampNeg) = 3 → (wp_L_due_L15 E post gx lt mo ad ln PL pf pw pk lw lk ik cw mw n 1 (x4 + (2 + 3)) (x5 + 1))) ∧ (¬ (cw (4 * x5).toNatClampNeg) = 3 → (vp_in ((4 * x5) + 1) 64 ∧ (vp_in ((4 * x5) + 2) 64 ∧ (wp_L_size E (fun r_875 : Int32 => (wp_L_due_L15 E post gx lt mo ad ln PL pf pw pk lw lk ik cw mw n 1 (x4 + (2 + r_875)) (x5 + 1))) (cw ((4 * x5) + 1).toNatClampNeg) (cw ((4 * x5) + 2).toNatClampNeg))))))))) ∧ (¬ (cw (4 * x5).toNatClampNeg) = 2 → ((0 = x3 → (((cw (4 * x5).toNatClampNeg) = 3 → (wp_L_due_L15 E post gx lt mo ad ln PL pf pw pk lw lk ik cw mw n 0 (x4 + (0 + 3)) (x5 + 1))) ∧ (¬ (cw (4 * x5).toNatClampNeg) = 3 → (vp_in ((4 * x5) + 1) 64 ∧ (vp_in ((4 * x5) + 2) 64 ∧ (wp_L_size E (fun r_870 : Int32 => (wp_L_due_L15 E post gx lt mo ad ln PL pf pw pk lw lk ik cw mw n 0 (x4 + (0 + r_870)) (x5 + 1))) (cw ((4 * x5) + 1).toNatClampNeg) (cw ((4 * x5) + 2).toNatClampNeg))))))) ∧ (¬ (0 = x3) → (((cw (4 * x5).toNatClampNeg) = 3 → (wp_L_due_L15 E post gx lt mo ad ln PL pf pw pk lw lk ik cw mw n 0 (x4 + (2 + 3)) (x5 + 1))) ∧ (¬ (cw (4 * x5).toNatClampNeg) = 3 → (vp_in ((4 * x5) + 1) 64 ∧ (vp_in ((4 * x5) + 2) 64 ∧ (wp_L_size E (fun r_866 : Int32 => (wp_L_due_L15 E post gx lt mo ad ln PL pf pw pk lw lk ik cw mw n 0 (x4 + (2 + r_866)) (x5 + 1))) (cw ((4 * x5) + 1).toNatClampNeg) (cw ((4 * x5) + 2).toNatClampNeg)))))))))))))
def wp_L_due (E : EV) (post : Int32 → Prop) (gx : Nat → Int32) (lt : Option Nat) (mo : Int32) (ad : Nat) (ln : Int32) (PL : List Nat) (pf : Nat → va_E) (pw : Nat → Int64) (pk : Int32) (lw : Nat → Int64) (lk : Int32) (ik : Nat → Int32) (cw : Nat → Int32) (mw : Nat → Int32) : Prop := (wp_X2_isDown E (fun r_858 : Int32 => (∃ n : Nat, wp_L_due_L15 E post gx lt mo ad ln PL pf pw pk lw lk ik cw mw n r_858 (-(mw (7 : Int32).toNatClampNeg)) 0)) gx lt mo ad ln PL pf pw pk lw lk ik)
set_option maxHeartbeats 4000000 in
set_option maxRecDepth 100000 in
theorem c_L_due (E : EV) (l : Launch) (ax : Nat → Nat) (bx : Nat → Nat) (gx : Nat → Int32) (lt : Option Nat) (mo : Int32) (ad : Nat) (ln : Int32) (PL : List Nat) (pf : Nat → va_E) (pw : Nat → Int64) (pk : Int32) (lw : Nat → Int64) (lk : Int32) (ik : Nat → Int32) (cw : Nat → Int32) (mw : Nat → Int32) (post : Int32 → Prop) (hw : wp_L_due E post gx lt mo ad ln PL pf pw pk lw lk ik cw mw) : Met l yL_due (Cond.code yL_due cL_due 7 (some .int) :: ALLW) ({ frames := 1, cells := 0, slots := 0, locals := 23 } : Room) (va_Pc [.ref (ax 0), .ref (bx 0), .ref (bx 1)] (preR E (wLP E ax bx gx lt mo ad ln PL pf pw pk lw lk ik cw mw))) (vp_Si post) 0 0 (fun _ => False) := by
  refine Met.ofW (cc := cL_due) (maxL := 7) (ret := (some .int)) (by decide) rfl ?_
  intro p e s m args below meth c s₁ B hml hv
  obtain ⟨rfl, hpre⟩ := hv
  have hx := B.exec
  have hb := B.bytes
  have hr := B.returns
  have hlocks := B.notSynchronized
  have hts := atoms_spec (ws := (Cond.code yL_due cL_due 7 (some .int) :: ALLW)) B.pre
  have hta : ∀ w ∈ ALLW, w.before ([.ref (ax 0), .ref (bx 0), .ref (bx 1)] : List Value).toArray s = true := fun w h => hts w (List.mem_cons_of_mem _ h)
  have hown : s.vm.findClass RL = some m.cls := findClass_of_methodNamed B.named
  obtain ⟨hP, hKE⟩ := hpre
  have hP : va_P (eD E) vwCl ([((ax 0), .inr (3, [.ref (ax 1), .ref (ax 2), .ref (ax 4), .ref (ax 6), .int (gx 4), .int (gx 5), .int (gx 6), .int (gx 7), va_rf lt, .int (gx 9), .int (gx 10), .int (gx 11), .int (gx 12), .int (gx 13), .int (gx 14), .int (gx 15), .int (gx 16), .int (gx 17), .int (gx 18)])), ((ax 1), .inr (0, [.int mo, .ref ad, .int ln])), ((ax 2), .inr (2, [.ref (ax 3), .int pk])), ((ax 3), .inl (eC E 1, 157, .inr (.inl pw))), ((ax 4), .inr (2, [.ref (ax 5), .int lk])), ((ax 5), .inl (eC E 1, 157, .inr (.inl lw))), ((ax 6), .inl (eC E 0, 3, .inl ik)), ((bx 0), .inl (eC E 0, 64, .inl cw)), ((bx 1), .inl (eC E 0, 8, .inl mw))] ++ va_pl PL pf) s.heap := hP
  have hl := lv_entry ([.ref (ax 0), .ref (bx 0), .ref (bx 1)]) (n := 7) (Nat.le_of_ble_eq_true rfl)
  rw [lg_entry_eq]
  generalize (lg_sl ([.ref (ax 0), .ref (bx 0), .ref (bx 1)]) ++ List.replicate (7 - (lg_sl ([.ref (ax 0), .ref (bx 0), .ref (bx 1)])).length) Slot.unset).toArray = ls at hl ⊢
  have hl : lv_has ls 7 [(0, .ref (ax 0)), (1, .ref (bx 0)), (2, .ref (bx 1))] := hl
  have loop_15 : ∀ (n : Nat) (x3 : Int32) (x4 : Int32) (x5 : Int32), wp_L_due_L15 E post gx lt mo ad ln PL pf pw pk lw lk ik cw mw n x3 x4 x5 → ∀ (ls : Array Slot), lv_has ls 7 [(0, .ref (ax 0)), (1, .ref (bx 0)), (2, .ref (bx 1)), (3, .int x3), (4, .int x4), (5, .int x5)] → W p l e (headSpec (Cond.code yL_due cL_due 7 (some .int) :: ALLW) ({ frames := 1, cells := 0, slots := 0, locals := 23 } : Room)).room s m ([.ref (ax 0), .ref (bx 0), .ref (bx 1)] : List Value).toArray below meth c s.heap [] 0 0 (MQ below (vp_Si post) ([.ref (ax 0), .ref (bx 0), .ref (bx 1)] : List Value).toArray s 0 0 (fun _ => False)) (F0 m 15 ls []) := by
    intro n
    induction n with
    | zero => intro x3 x4 x5 hw; exact hw.elim
    | succ n ih =>
      intro x3 x4 x5 hw ls hl
      unfold wp_L_due_L15 at hw
      refine lv_iload hx hb dL_due_15 (lv_at hl 5 rfl) ?_
      refine lv_aload_n hx hb dL_due_17 rfl (lv_at hl 2 rfl) ?_
      refine lv_iconst (v := 0) hx hb dL_due_18 (by decide) ?_
      refine va_iald hx hb hKE.1 hP 8 0 rfl rfl (show vp_in 0 8 from by unfold vp_in; decide) dL_due_19 ?_
      refine lv_icmp_ge (tgt := 99) hx hb dL_due_20 (by decide) (fun c_859 => ?_) (fun c_859 => ?_)
      · have hw := hw.1 c_859
        refine lv_iload hx hb dL_due_99 (lv_at hl 4 rfl) ?_
        exact W.iret (v := x4) hx hb hr (fun t ht hW => ⟨x4, rfl, hw, ht⟩) (fun q hq => nomatch hq) dL_due_101
      · have hw := hw.2 c_859
        refine lv_aload_n hx hb dL_due_23 rfl (lv_at hl 1 rfl) ?_
        refine lv_iconst (v := 4) hx hb dL_due_24 (by decide) ?_
        refine lv_iload hx hb dL_due_25 (lv_at hl 5 rfl) ?_
        refine lv_imul hx hb dL_due_27 ?_
        obtain ⟨hi_860, hw⟩ := hw
        refine va_iald hx hb hKE.1 hP 7 0 rfl rfl hi_860 dL_due_28 ?_
        refine lv_iconst (v := 2) hx hb dL_due_29 (by decide) ?_
        refine lv_icmp_ne (tgt := 37) hx hb dL_due_30 (by decide) (fun c_861 => ?_) (fun c_861 => ?_)
        · have hw := hw.2 c_861
          refine lv_iconst (v := 0) hx hb dL_due_37 (by decide) ?_
          refine lv_istore (lv' := [(6, .int 0), (0, .ref (ax 0)), (1, .ref (bx 0)), (2, .ref (bx 1)), (3, .int x3), (4, .int x4), (5, .int x5)]) hx hb dL_due_38 hl (by decide) rfl (fun ls hl => ?_)
          refine lv_iload hx hb dL_due_40 (lv_at hl 5 rfl) ?_
          refine lv_iload hx hb dL_due_42 (lv_at hl 0 rfl) ?_
          refine lv_iload_n hx hb dL_due_44 rfl (lv_at hl 4 rfl) ?_
          refine lv_icmp_ne (tgt := 52) hx hb dL_due_45 (by decide) (fun c_862 => ?_) (fun c_862 => ?_)
          · have hw := hw.2 c_862
            refine lv_iconst (v := 2) hx hb dL_due_52 (by decide) ?_
            refine lv_aload_n hx hb dL_due_53 rfl (lv_at hl 2 rfl) ?_
            refine lv_iconst (v := 4) hx hb dL_due_54 (by decide) ?_
            refine lv_iload hx hb dL_due_55 (lv_at hl 6 rfl) ?_
            refine lv_imul hx hb dL_due_57 ?_
            refine va_iald hx hb hKE.1 hP 7 0 rfl rfl hi_860 dL_due_58 ?_
            refine lv_iconst (v := 3) hx hb dL_due_59 (by decide) ?_
            refine lv_icmp_ne (tgt := 67) hx hb dL_due_60 (by decide) (fun c_863 => ?_) (fun c_863 => ?_)
            · have hw := hw.2 c_863
              refine lv_aload_n hx hb dL_due_67 rfl (lv_at hl 2 rfl) ?_
              refine lv_iconst (v := 4) hx hb dL_due_68 (by decide) ?_
              refine lv_iload hx hb dL_due_69 (lv_at hl 6 rfl) ?_
              refine lv_imul hx hb dL_due_71 ?_
              refine lv_iconst (v := 1) hx hb dL_due_72 (by decide) ?_
              refine lv_iadd hx hb dL_due_73 ?_
              obtain ⟨hi_864, hw⟩ := hw
              refine va_iald hx hb hKE.1 hP 7 0 rfl rfl hi_864 dL_due_74 ?_
              refine lv_aload_n hx hb dL_due_75 rfl (lv_at hl 2 rfl) ?_
              refine lv_iconst (v := 4) hx hb dL_due_76 (by decide) ?_
              refine lv_iload hx hb dL_due_77 (lv_at hl 6 rfl) ?_
              refine lv_imul hx hb dL_due_79 ?_
              refine lv_iconst (v := 2) hx hb dL_due_80 (by decide) ?_
              refine lv_iadd hx hb dL_due_81 ?_
              obtain ⟨hi_865, hw⟩ := hw
              refine va_iald hx hb hKE.1 hP 7 0 rfl rfl hi_865 dL_due_82 ?_
              have hPc : va_P (eD E) vwCl [] s.heap := va_P_nil
              refine vp_callSi (va_Run.run (va_runS (As := [.int (cw ((4 * x5) + 1).toNatClampNeg), .int (cw ((4 * x5) + 2).toNatClampNeg)]) (rest := [.int 2, .int x4]) ⟨hx, hb, hml, hown, hta⟩ (c_L_size E l (cw ((4 * x5) + 1).toNatClampNeg) (cw ((4 * x5) + 2).toNatClampNeg) _ hw) (pcS (n := 2) hta tw_536 tw_534 tw_0 tw_535 rfl rfl hd_L_size ⟨Nat.le_of_ble_eq_true rfl, Nat.le_of_ble_eq_true rfl⟩) ⟨fbR, fun U hU hW => ⟨rfl, preR.mk hPc hKE hU hW⟩⟩ rfl rfl hl.1 rfl (lv_room (Nat.le_of_ble_eq_true rfl)) dL_due_83 ⟨Nat.le_of_ble_eq_true rfl, Nat.le_of_ble_eq_true rfl⟩)) (fun r_866 hw => ?_)
              refine lv_iadd hx hb dL_due_86 ?_
              refine lv_iadd hx hb dL_due_87 ?_
              refine lv_istore (lv' := [(4, .int (x4 + (2 + r_866))), (6, .int 0), (0, .ref (ax 0)), (1, .ref (bx 0)), (2, .ref (bx 1)), (3, .int x3), (5, .int x5)]) hx hb dL_due_88 hl (by decide) rfl (fun ls hl => ?_)
              refine lv_iload hx hb dL_due_90 (lv_at hl 1 rfl) ?_
              refine lv_istore_n (lv' := [(3, .int 0), (4, .int (x4 + (2 + r_866))), (6, .int 0), (0, .ref (ax 0)), (1, .ref (bx 0)), (2, .ref (bx 1)), (5, .int x5)]) hx hb dL_due_92 rfl hl (by decide) rfl (fun ls hl => ?_)
              refine lv_iinc (v := (x5 + 1)) (lv' := [(5, .int (x5 + 1)), (3, .int 0), (4, .int (x4 + (2 + r_866))), (6, .int 0), (0, .ref (ax 0)), (1, .ref (bx 0)), (2, .ref (bx 1))]) hx hb dL_due_93 hl (k := 6) rfl rfl (by decide) rfl (fun ls hl => ?_)
              refine lv_goto (tgt := 15) hx hb dL_due_96 (by decide) ?_
              exact ih 0 (x4 + (2 + r_866)) (x5 + 1) hw ls (lv_sub hl [4, 5, 6, 1, 2, 0] rfl)
            · have hw := hw.1 c_863
              refine lv_iconst (v := 3) hx hb dL_due_63 (by decide) ?_
              refine lv_goto (tgt := 86) hx hb dL_due_64 (by decide) ?_
              refine lv_iadd hx hb dL_due_86 ?_
              refine lv_iadd hx hb dL_due_87 ?_
              refine lv_istore (lv' := [(4, .int (x4 + (2 + 3))), (6, .int 0), (0, .ref (ax 0)), (1, .ref (bx 0)), (2, .ref (bx 1)), (3, .int x3), (5, .int x5)]) hx hb dL_due_88 hl (by decide) rfl (fun ls hl => ?_)
              refine lv_iload hx hb dL_due_90 (lv_at hl 1 rfl) ?_
              refine lv_istore_n (lv' := [(3, .int 0), (4, .int (x4 + (2 + 3))), (6, .int 0), (0, .ref (ax 0)), (1, .ref (bx 0)), (2, .ref (bx 1)), (5, .int x5)]) hx hb dL_due_92 rfl hl (by decide) rfl (fun ls hl => ?_)
              refine lv_iinc (v := (x5 + 1)) (lv' := [(5, .int (x5 + 1)), (3, .int 0), (4, .int (x4 + (2 + 3))), (6, .int 0), (0, .ref (ax 0)), (1, .ref (bx 0)), (2, .ref (bx 1))]) hx hb dL_due_93 hl (k := 6) rfl rfl (by decide) rfl (fun ls hl => ?_)
              refine lv_goto (tgt := 15) hx hb dL_due_96 (by decide) ?_
              exact ih 0 (x4 + (2 + 3)) (x5 + 1) hw ls (lv_sub hl [4, 5, 6, 1, 2, 0] rfl)
          · have hw := hw.1 c_862
            refine lv_iconst (v := 0) hx hb dL_due_48 (by decide) ?_
            refine lv_goto (tgt := 53) hx hb dL_due_49 (by decide) ?_
            refine lv_aload_n hx hb dL_due_53 rfl (lv_at hl 2 rfl) ?_
            refine lv_iconst (v := 4) hx hb dL_due_54 (by decide) ?_
            refine lv_iload hx hb dL_due_55 (lv_at hl 6 rfl) ?_
            refine lv_imul hx hb dL_due_57 ?_
            refine va_iald hx hb hKE.1 hP 7 0 rfl rfl hi_860 dL_due_58 ?_
            refine lv_iconst (v := 3) hx hb dL_due_59 (by decide) ?_
            refine lv_icmp_ne (tgt := 67) hx hb dL_due_60 (by decide) (fun c_867 => ?_) (fun c_867 => ?_)
            · have hw := hw.2 c_867
              refine lv_aload_n hx hb dL_due_67 rfl (lv_at hl 2 rfl) ?_
              refine lv_iconst (v := 4) hx hb dL_due_68 (by decide) ?_
              refine lv_iload hx hb dL_due_69 (lv_at hl 6 rfl) ?_
              refine lv_imul hx hb dL_due_71 ?_
              refine lv_iconst (v := 1) hx hb dL_due_72 (by decide) ?_
              refine lv_iadd hx hb dL_due_73 ?_
              obtain ⟨hi_868, hw⟩ := hw
              refine va_iald hx hb hKE.1 hP 7 0 rfl rfl hi_868 dL_due_74 ?_
              refine lv_aload_n hx hb dL_due_75 rfl (lv_at hl 2 rfl) ?_
              refine lv_iconst (v := 4) hx hb dL_due_76 (by decide) ?_
              refine lv_iload hx hb dL_due_77 (lv_at hl 6 rfl) ?_
              refine lv_imul hx hb dL_due_79 ?_
              refine lv_iconst (v := 2) hx hb dL_due_80 (by decide) ?_
              refine lv_iadd hx hb dL_due_81 ?_
              obtain ⟨hi_869, hw⟩ := hw
              refine va_iald hx hb hKE.1 hP 7 0 rfl rfl hi_869 dL_due_82 ?_
              have hPc : va_P (eD E) vwCl [] s.heap := va_P_nil
              refine vp_callSi (va_Run.run (va_runS (As := [.int (cw ((4 * x5) + 1).toNatClampNeg), .int (cw ((4 * x5) + 2).toNatClampNeg)]) (rest := [.int 0, .int x4]) ⟨hx, hb, hml, hown, hta⟩ (c_L_size E l (cw ((4 * x5) + 1).toNatClampNeg) (cw ((4 * x5) + 2).toNatClampNeg) _ hw) (pcS (n := 2) hta tw_536 tw_534 tw_0 tw_535 rfl rfl hd_L_size ⟨Nat.le_of_ble_eq_true rfl, Nat.le_of_ble_eq_true rfl⟩) ⟨fbR, fun U hU hW => ⟨rfl, preR.mk hPc hKE hU hW⟩⟩ rfl rfl hl.1 rfl (lv_room (Nat.le_of_ble_eq_true rfl)) dL_due_83 ⟨Nat.le_of_ble_eq_true rfl, Nat.le_of_ble_eq_true rfl⟩)) (fun r_870 hw => ?_)
              refine lv_iadd hx hb dL_due_86 ?_
              refine lv_iadd hx hb dL_due_87 ?_
              refine lv_istore (lv' := [(4, .int (x4 + (0 + r_870))), (6, .int 0), (0, .ref (ax 0)), (1, .ref (bx 0)), (2, .ref (bx 1)), (3, .int x3), (5, .int x5)]) hx hb dL_due_88 hl (by decide) rfl (fun ls hl => ?_)
              refine lv_iload hx hb dL_due_90 (lv_at hl 1 rfl) ?_
              refine lv_istore_n (lv' := [(3, .int 0), (4, .int (x4 + (0 + r_870))), (6, .int 0), (0, .ref (ax 0)), (1, .ref (bx 0)), (2, .ref (bx 1)), (5, .int x5)]) hx hb dL_due_92 rfl hl (by decide) rfl (fun ls hl => ?_)
              refine lv_iinc (v := (x5 + 1)) (lv' := [(5, .int (x5 + 1)), (3, .int 0), (4, .int (x4 + (0 + r_870))), (6, .int 0), (0, .ref (ax 0)), (1, .ref (bx 0)), (2, .ref (bx 1))]) hx hb dL_due_93 hl (k := 6) rfl rfl (by decide) rfl (fun ls hl => ?_)
              refine lv_goto (tgt := 15) hx hb dL_due_96 (by decide) ?_
              exact ih 0 (x4 + (0 + r_870)) (x5 + 1) hw ls (lv_sub hl [4, 5, 6, 1, 2, 0] rfl)
            · have hw := hw.1 c_867
              refine lv_iconst (v := 3) hx hb dL_due_63 (by decide) ?_
              refine lv_goto (tgt := 86) hx hb dL_due_64 (by decide) ?_
              refine lv_iadd hx hb dL_due_86 ?_
              refine lv_iadd hx hb dL_due_87 ?_
              refine lv_istore (lv' := [(4, .int (x4 + (0 + 3))), (6, .int 0), (0, .ref (ax 0)), (1, .ref (bx 0)), (2, .ref (bx 1)), (3, .int x3), (5, .int x5)]) hx hb dL_due_88 hl (by decide) rfl (fun ls hl => ?_)
              refine lv_iload hx hb dL_due_90 (lv_at hl 1 rfl) ?_
              refine lv_istore_n (lv' := [(3, .int 0), (4, .int (x4 + (0 + 3))), (6, .int 0), (0, .ref (ax 0)), (1, .ref (bx 0)), (2, .ref (bx 1)), (5, .int x5)]) hx hb dL_due_92 rfl hl (by decide) rfl (fun ls hl => ?_)
              refine lv_iinc (v := (x5 + 1)) (lv' := [(5, .int (x5 + 1)), (3, .int 0), (4, .int (x4 + (0 + 3))), (6, .int 0), (0, .ref (ax 0)), (1, .ref (bx 0)), (2, .ref (bx 1))]) hx hb dL_due_93 hl (k := 6) rfl rfl (by decide) rfl (fun ls hl => ?_)
              refine lv_goto (tgt := 15) hx hb dL_due_96 (by decide) ?_
              exact ih 0 (x4 + (0 + 3)) (x5 + 1) hw ls (lv_sub hl [4, 5, 6, 1, 2, 0] rfl)
        · have hw := hw.1 c_861
          refine lv_iconst (v := 1) hx hb dL_due_33 (by decide) ?_
          refine lv_goto (tgt := 38) hx hb dL_due_34 (by decide) ?_
          refine lv_istore (lv' := [(6, .int 1), (0, .ref (ax 0)), (1, .ref (bx 0)), (2, .ref (bx 1)), (3, .int x3), (4, .int x4), (5, .int x5)]) hx hb dL_due_38 hl (by decide) rfl (fun ls hl => ?_)
          refine lv_iload hx hb dL_due_40 (lv_at hl 5 rfl) ?_
          refine lv_iload hx hb dL_due_42 (lv_at hl 0 rfl) ?_
          refine lv_iload_n hx hb dL_due_44 rfl (lv_at hl 4 rfl) ?_
          refine lv_icmp_ne (tgt := 52) hx hb dL_due_45 (by decide) (fun c_871 => ?_) (fun c_871 => ?_)
          · have hw := hw.2 c_871
            refine lv_iconst (v := 2) hx hb dL_due_52 (by decide) ?_
            refine lv_aload_n hx hb dL_due_53 rfl (lv_at hl 2 rfl) ?_
            refine lv_iconst (v := 4) hx hb dL_due_54 (by decide) ?_
            refine lv_iload hx hb dL_due_55 (lv_at hl 6 rfl) ?_
            refine lv_imul hx hb dL_due_57 ?_
            refine va_iald hx hb hKE.1 hP 7 0 rfl rfl hi_860 dL_due_58 ?_
            refine lv_iconst (v := 3) hx hb dL_due_59 (by decide) ?_
            refine lv_icmp_ne (tgt := 67) hx hb dL_due_60 (by decide) (fun c_872 => ?_) (fun c_872 => ?_)
            · have hw := hw.2 c_872
              refine lv_aload_n hx hb dL_due_67 rfl (lv_at hl 2 rfl) ?_
              refine lv_iconst (v := 4) hx hb dL_due_68 (by decide) ?_
              refine lv_iload hx hb dL_due_69 (lv_at hl 6 rfl) ?_
              refine lv_imul hx hb dL_due_71 ?_
              refine lv_iconst (v := 1) hx hb dL_due_72 (by decide) ?_
              refine lv_iadd hx hb dL_due_73 ?_
              obtain ⟨hi_873, hw⟩ := hw
              refine va_iald hx hb hKE.1 hP 7 0 rfl rfl hi_873 dL_due_74 ?_
              refine lv_aload_n hx hb dL_due_75 rfl (lv_at hl 2 rfl) ?_
              refine lv_iconst (v := 4) hx hb dL_due_76 (by decide) ?_
              refine lv_iload hx hb dL_due_77 (lv_at hl 6 rfl) ?_
              refine lv_imul hx hb dL_due_79 ?_
              refine lv_iconst (v := 2) hx hb dL_due_80 (by decide) ?_
              refine lv_iadd hx hb dL_due_81 ?_
              obtain ⟨hi_874, hw⟩ := hw
              refine va_iald hx hb hKE.1 hP 7 0 rfl rfl hi_874 dL_due_82 ?_
              have hPc : va_P (eD E) vwCl [] s.heap := va_P_nil
              refine vp_callSi (va_Run.run (va_runS (As := [.int (cw ((4 * x5) + 1).toNatClampNeg), .int (cw ((4 * x5) + 2).toNatClampNeg)]) (rest := [.int 2, .int x4]) ⟨hx, hb, hml, hown, hta⟩ (c_L_size E l (cw ((4 * x5) + 1).toNatClampNeg) (cw ((4 * x5) + 2).toNatClampNeg) _ hw) (pcS (n := 2) hta tw_536 tw_534 tw_0 tw_535 rfl rfl hd_L_size ⟨Nat.le_of_ble_eq_true rfl, Nat.le_of_ble_eq_true rfl⟩) ⟨fbR, fun U hU hW => ⟨rfl, preR.mk hPc hKE hU hW⟩⟩ rfl rfl hl.1 rfl (lv_room (Nat.le_of_ble_eq_true rfl)) dL_due_83 ⟨Nat.le_of_ble_eq_true rfl, Nat.le_of_ble_eq_true rfl⟩)) (fun r_875 hw => ?_)
              refine lv_iadd hx hb dL_due_86 ?_
              refine lv_iadd hx hb dL_due_87 ?_
              refine lv_istore (lv' := [(4, .int (x4 + (2 + r_875))), (6, .int 1), (0, .ref (ax 0)), (1, .ref (bx 0)), (2, .ref (bx 1)), (3, .int x3), (5, .int x5)]) hx hb dL_due_88 hl (by decide) rfl (fun ls hl => ?_)
              refine lv_iload hx hb dL_due_90 (lv_at hl 1 rfl) ?_
              refine lv_istore_n (lv' := [(3, .int 1), (4, .int (x4 + (2 + r_875))), (6, .int 1), (0, .ref (ax 0)), (1, .ref (bx 0)), (2, .ref (bx 1)), (5, .int x5)]) hx hb dL_due_92 rfl hl (by decide) rfl (fun ls hl => ?_)
              refine lv_iinc (v := (x5 + 1)) (lv' := [(5, .int (x5 + 1)), (3, .int 1), (4, .int (x4 + (2 + r_875))), (6, .int 1), (0, .ref (ax 0)), (1, .ref (bx 0)), (2, .ref (bx 1))]) hx hb dL_due_93 hl (k := 6) rfl rfl (by decide) rfl (fun ls hl => ?_)
              refine lv_goto (tgt := 15) hx hb dL_due_96 (by decide) ?_
              exact ih 1 (x4 + (2 + r_875)) (x5 + 1) hw ls (lv_sub hl [4, 5, 6, 1, 2, 0] rfl)
            · have hw := hw.1 c_872
              refine lv_iconst (v := 3) hx hb dL_due_63 (by decide) ?_
              refine lv_goto (tgt := 86) hx hb dL_due_64 (by decide) ?_
              refine lv_iadd hx hb dL_due_86 ?_
              refine lv_iadd hx hb dL_due_87 ?_
              refine lv_istore (lv' := [(4, .int (x4 + (2 + 3))), (6, .int 1), (0, .ref (ax 0)), (1, .ref (bx 0)), (2, .ref (bx 1)), (3, .int x3), (5, .int x5)]) hx hb dL_due_88 hl (by decide) rfl (fun ls hl => ?_)
              refine lv_iload hx hb dL_due_90 (lv_at hl 1 rfl) ?_
              refine lv_istore_n (lv' := [(3, .int 1), (4, .int (x4 + (2 + 3))), (6, .int 1), (0, .ref (ax 0)), (1, .ref (bx 0)), (2, .ref (bx 1)), (5, .int x5)]) hx hb dL_due_92 rfl hl (by decide) rfl (fun ls hl => ?_)
              refine lv_iinc (v := (x5 + 1)) (lv' := [(5, .int (x5 + 1)), (3, .int 1), (4, .int (x4 + (2 + 3))), (6, .int 1), (0, .ref (ax 0)), (1, .ref (bx 0)), (2, .ref (bx 1))]) hx hb dL_due_93 hl (k := 6) rfl rfl (by decide) rfl (fun ls hl => ?_)
              refine lv_goto (tgt := 15) hx hb dL_due_96 (by decide) ?_
              exact ih 1 (x4 + (2 + 3)) (x5 + 1) hw ls (lv_sub hl [4, 5, 6, 1, 2, 0] rfl)
          · have hw := hw.1 c_871
            refine lv_iconst (v := 0) hx hb dL_due_48 (by decide) ?_
            refine lv_goto (tgt := 53) hx hb dL_due_49 (by decide) ?_
            refine lv_aload_n hx hb dL_due_53 rfl (lv_at hl 2 rfl) ?_
            refine lv_iconst (v := 4) hx hb dL_due_54 (by decide) ?_
            refine lv_iload hx hb dL_due_55 (lv_at hl 6 rfl) ?_
            refine lv_imul hx hb dL_due_57 ?_
            refine va_iald hx hb hKE.1 hP 7 0 rfl rfl hi_860 dL_due_58 ?_
            refine lv_iconst (v := 3) hx hb dL_due_59 (by decide) ?_
            refine lv_icmp_ne (tgt := 67) hx hb dL_due_60 (by decide) (fun c_876 => ?_) (fun c_876 => ?_)
            · have hw := hw.2 c_876
              refine lv_aload_n hx hb dL_due_67 rfl (lv_at hl 2 rfl) ?_
              refine lv_iconst (v := 4) hx hb dL_due_68 (by decide) ?_
              refine lv_iload hx hb dL_due_69 (lv_at hl 6 rfl) ?_
              refine lv_imul hx hb dL_due_71 ?_
              refine lv_iconst (v := 1) hx hb dL_due_72 (by decide) ?_
              refine lv_iadd hx hb dL_due_73 ?_
              obtain ⟨hi_877, hw⟩ := hw
              refine va_iald hx hb hKE.1 hP 7 0 rfl rfl hi_877 dL_due_74 ?_
              refine lv_aload_n hx hb dL_due_75 rfl (lv_at hl 2 rfl) ?_
              refine lv_iconst (v := 4) hx hb dL_due_76 (by decide) ?_
              refine lv_iload hx hb dL_due_77 (lv_at hl 6 rfl) ?_
              refine lv_imul hx hb dL_due_79 ?_
              refine lv_iconst (v := 2) hx hb dL_due_80 (by decide) ?_
              refine lv_iadd hx hb dL_due_81 ?_
              obtain ⟨hi_878, hw⟩ := hw
              refine va_iald hx hb hKE.1 hP 7 0 rfl rfl hi_878 dL_due_82 ?_
              have hPc : va_P (eD E) vwCl [] s.heap := va_P_nil
              refine vp_callSi (va_Run.run (va_runS (As := [.int (cw ((4 * x5) + 1).toNatClampNeg), .int (cw ((4 * x5) + 2).toNatClampNeg)]) (rest := [.int 0, .int x4]) ⟨hx, hb, hml, hown, hta⟩ (c_L_size E l (cw ((4 * x5) + 1).toNatClampNeg) (cw ((4 * x5) + 2).toNatClampNeg) _ hw) (pcS (n := 2) hta tw_536 tw_534 tw_0 tw_535 rfl rfl hd_L_size ⟨Nat.le_of_ble_eq_true rfl, Nat.le_of_ble_eq_true rfl⟩) ⟨fbR, fun U hU hW => ⟨rfl, preR.mk hPc hKE hU hW⟩⟩ rfl rfl hl.1 rfl (lv_room (Nat.le_of_ble_eq_true rfl)) dL_due_83 ⟨Nat.le_of_ble_eq_true rfl, Nat.le_of_ble_eq_true rfl⟩)) (fun r_879 hw => ?_)
              refine lv_iadd hx hb dL_due_86 ?_
              refine lv_iadd hx hb dL_due_87 ?_
              refine lv_istore (lv' := [(4, .int (x4 + (0 + r_879))), (6, .int 1), (0, .ref (ax 0)), (1, .ref (bx 0)), (2, .ref (bx 1)), (3, .int x3), (5, .int x5)]) hx hb dL_due_88 hl (by decide) rfl (fun ls hl => ?_)
              refine lv_iload hx hb dL_due_90 (lv_at hl 1 rfl) ?_
              refine lv_istore_n (lv' := [(3, .int 1), (4, .int (x4 + (0 + r_879))), (6, .int 1), (0, .ref (ax 0)), (1, .ref (bx 0)), (2, .ref (bx 1)), (5, .int x5)]) hx hb dL_due_92 rfl hl (by decide) rfl (fun ls hl => ?_)
              refine lv_iinc (v := (x5 + 1)) (lv' := [(5, .int (x5 + 1)), (3, .int 1), (4, .int (x4 + (0 + r_879))), (6, .int 1), (0, .ref (ax 0)), (1, .ref (bx 0)), (2, .ref (bx 1))]) hx hb dL_due_93 hl (k := 6) rfl rfl (by decide) rfl (fun ls hl => ?_)
              refine lv_goto (tgt := 15) hx hb dL_due_96 (by decide) ?_
              exact ih 1 (x4 + (0 + r_879)) (x5 + 1) hw ls (lv_sub hl [4, 5, 6, 1, 2, 0] rfl)
            · have hw := hw.1 c_876
              refine lv_iconst (v := 3) hx hb dL_due_63 (by decide) ?_
              refine lv_goto (tgt := 86) hx hb dL_due_64 (by decide) ?_
              refine lv_iadd hx hb dL_due_86 ?_
              refine lv_iadd hx hb dL_due_87 ?_
              refine lv_istore (lv' := [(4, .int (x4 + (0 + 3))), (6, .int 1), (0, .ref (ax 0)), (1, .ref (bx 0)), (2, .ref (bx 1)), (3, .int x3), (5, .int x5)]) hx hb dL_due_88 hl (by decide) rfl (fun ls hl => ?_)
              refine lv_iload hx hb dL_due_90 (lv_at hl 1 rfl) ?_
              refine lv_istore_n (lv' := [(3, .int 1), (4, .int (x4 + (0 + 3))), (6, .int 1), (0, .ref (ax 0)), (1, .ref (bx 0)), (2, .ref (bx 1)), (5, .int x5)]) hx hb dL_due_92 rfl hl (by decide) rfl (fun ls hl => ?_)
              refine lv_iinc (v := (x5 + 1)) (lv' := [(5, .int (x5 + 1)), (3, .int 1), (4, .int (x4 + (0 + 3))), (6, .int 1), (0, .ref (ax 0)), (1, .ref (bx 0)), (2, .ref (bx 1))]) hx hb dL_due_93 hl (k := 6) rfl rfl (by decide) rfl (fun ls hl => ?_)
              refine lv_goto (tgt := 15) hx hb dL_due_96 (by decide) ?_
              exact ih 1 (x4 + (0 + 3)) (x5 + 1) hw ls (lv_sub hl [4, 5, 6, 1, 2, 0] rfl)
  unfold wp_L_due at hw
  refine lv_aload_n hx hb dL_due_0 rfl (lv_at hl 0 rfl) ?_
  have hPc : va_P (eD E) vwCl (wX E ax gx lt mo ad ln PL pf pw pk lw lk ik) s.heap := hP.part [0, 1, 2, 3, 4, 5, 6] rfl
  refine vp_callSi (va_Run.run (va_runV (As := []) (rest := []) ⟨hx, hb, hml, hown, hta⟩ (c_X2_isDown E l ax gx lt mo ad ln PL pf pw pk lw lk ik _ hw) (pcV (n := 0) hta tw_533 tw_530 tw_1 tw_531 tw_532 rfl rfl hd_X2_isDown ⟨Nat.le_of_ble_eq_true rfl, Nat.le_of_ble_eq_true rfl⟩) ⟨fbR, va_recv hKE.1 hP (ci := 3) (q0 := 0) rfl rfl, fun U hU hW => ⟨rfl, preR.mk hPc hKE hU hW⟩⟩ rfl rfl hl.1 rfl (lv_room (Nat.le_of_ble_eq_true rfl)) dL_due_1 ⟨Nat.le_of_ble_eq_true rfl, Nat.le_of_ble_eq_true rfl⟩)) (fun r_858 hw => ?_)
  refine lv_istore_n (lv' := [(3, .int r_858), (0, .ref (ax 0)), (1, .ref (bx 0)), (2, .ref (bx 1))]) hx hb dL_due_4 rfl hl (by decide) rfl (fun ls hl => ?_)
  refine lv_aload_n hx hb dL_due_5 rfl (lv_at hl 3 rfl) ?_
  refine lv_bipush (v := 7) hx hb dL_due_6 (by decide) ?_
  refine va_iald hx hb hKE.1 hP 8 0 rfl rfl (show vp_in 7 8 from by unfold vp_in; decide) dL_due_8 ?_
  refine lv_ineg hx hb dL_due_9 ?_
  refine lv_istore (lv' := [(4, .int (-(mw (7 : Int32).toNatClampNeg))), (3, .int r_858), (0, .ref (ax 0)), (1, .ref (bx 0)), (2, .ref (bx 1))]) hx hb dL_due_10 hl (by decide) rfl (fun ls hl => ?_)
  refine lv_iconst (v := 0) hx hb dL_due_12 (by decide) ?_
  refine lv_istore (lv' := [(5, .int 0), (4, .int (-(mw (7 : Int32).toNatClampNeg))), (3, .int r_858), (0, .ref (ax 0)), (1, .ref (bx 0)), (2, .ref (bx 1))]) hx hb dL_due_13 hl (by decide) rfl (fun ls hl => ?_)
  obtain ⟨n_880, hw⟩ := hw
  exact loop_15 n_880 r_858 (-(mw (7 : Int32).toNatClampNeg)) 0 hw ls (lv_sub hl [3, 4, 5, 2, 1, 0] rfl)
def wp_L_isMarkedHere (E : EV) (post : Int32 → Prop) (gx : Nat → Int32) (lt : Option Nat) (mo : Int32) (ad : Nat) (ln : Int32) (PL : List Nat) (pf : Nat → va_E) (pw : Nat → Int64) (pk : Int32) (lw : Nat → Int64) (lk : Int32) (ik : Nat → Int32) : Prop := (wp_X2_isDown E (fun r_881 : Int32 => ((r_881 = 0 → post 1) ∧ (¬ (r_881 = 0) → (wp_X2_at E (fun r_883 : Int32 => (wp_X2_at E (fun r_884 : Int32 => (wp_X2_isMarked_r E (fun r_885 : Int32 => ((r_885 = 0 → False) ∧ (¬ (r_885 = 0) → post 1))) gx lt mo ad ln PL pf pw pk lw lk ik (r_883 - r_883 / 100 * 100) (r_884 / 100))) gx lt mo ad ln PL pf pw pk lw lk ik)) gx lt mo ad ln PL pf pw pk lw lk ik)))) gx lt mo ad ln PL pf pw pk lw lk ik)
set_option maxHeartbeats 4000000 in
set_option maxRecDepth 100000 in
theorem c_L_isMarkedHere (E : EV) (l : Launch) (ax : Nat → Nat) (gx : Nat → Int32) (lt : Option Nat) (mo : Int32) (ad : Nat) (ln : Int32) (PL : List Nat) (pf : Nat → va_E) (pw : Nat → Int64) (pk : Int32) (lw : Nat → Int64) (lk : Int32) (ik : Nat → Int32) (post : Int32 → Prop) (hw : wp_L_isMarkedHere E post gx lt mo ad ln PL pf pw pk lw lk ik) : Met l yL_isMarkedHere (Cond.code yL_isMarkedHere cL_isMarkedHere 1 (some .boolean) :: ALLW) ({ frames := 6, cells := 0, slots := 0, locals := 125 } : Room) (va_Pc [.ref (ax 0)] (preR E (wX E ax gx lt mo ad ln PL pf pw pk lw lk ik))) (vp_Si post) 0 0 (fun _ => False) := by
  refine Met.ofW (cc := cL_isMarkedHere) (maxL := 1) (ret := (some .boolean)) (by decide) rfl ?_
  intro p e s m args below meth c s₁ B hml hv
  obtain ⟨rfl, hpre⟩ := hv
  have hx := B.exec
  have hb := B.bytes
  have hr := B.returns
  have hlocks := B.notSynchronized
  have hts := atoms_spec (ws := (Cond.code yL_isMarkedHere cL_isMarkedHere 1 (some .boolean) :: ALLW)) B.pre
  have hta : ∀ w ∈ ALLW, w.before ([.ref (ax 0)] : List Value).toArray s = true := fun w h => hts w (List.mem_cons_of_mem _ h)
  have hown : s.vm.findClass RL = some m.cls := findClass_of_methodNamed B.named
  obtain ⟨hP, hKE⟩ := hpre
  have hP : va_P (eD E) vwCl ([((ax 0), .inr (3, [.ref (ax 1), .ref (ax 2), .ref (ax 4), .ref (ax 6), .int (gx 4), .int (gx 5), .int (gx 6), .int (gx 7), va_rf lt, .int (gx 9), .int (gx 10), .int (gx 11), .int (gx 12), .int (gx 13), .int (gx 14), .int (gx 15), .int (gx 16), .int (gx 17), .int (gx 18)])), ((ax 1), .inr (0, [.int mo, .ref ad, .int ln])), ((ax 2), .inr (2, [.ref (ax 3), .int pk])), ((ax 3), .inl (eC E 1, 157, .inr (.inl pw))), ((ax 4), .inr (2, [.ref (ax 5), .int lk])), ((ax 5), .inl (eC E 1, 157, .inr (.inl lw))), ((ax 6), .inl (eC E 0, 3, .inl ik))] ++ va_pl PL pf) s.heap := hP
  have hl := lv_entry ([.ref (ax 0)]) (n := 1) (Nat.le_of_ble_eq_true rfl)
  rw [lg_entry_eq]
  generalize (lg_sl ([.ref (ax 0)]) ++ List.replicate (1 - (lg_sl ([.ref (ax 0)])).length) Slot.unset).toArray = ls at hl ⊢
  have hl : lv_has ls 1 [(0, .ref (ax 0))] := hl
  unfold wp_L_isMarkedHere at hw
  refine lv_aload_n hx hb dL_isMarkedHere_0 rfl (lv_at hl 0 rfl) ?_
  have hPc : va_P (eD E) vwCl (wX E ax gx lt mo ad ln PL pf pw pk lw lk ik) s.heap := hP
  refine vp_callSi (va_Run.run (va_runV (As := []) (rest := []) ⟨hx, hb, hml, hown, hta⟩ (c_X2_isDown E l ax gx lt mo ad ln PL pf pw pk lw lk ik _ hw) (pcV (n := 0) hta tw_533 tw_530 tw_1 tw_531 tw_532 rfl rfl hd_X2_isDown ⟨Nat.le_of_ble_eq_true rfl, Nat.le_of_ble_eq_true rfl⟩) ⟨fbR, va_recv hKE.1 hP (ci := 3) (q0 := 0) rfl rfl, fun U hU hW => ⟨rfl, preR.mk hPc hKE hU hW⟩⟩ rfl rfl hl.1 rfl (lv_room (Nat.le_of_ble_eq_true rfl)) dL_isMarkedHere_1 ⟨Nat.le_of_ble_eq_true rfl, Nat.le_of_ble_eq_true rfl⟩)) (fun r_881 hw => ?_)
  refine lv_if_eq (tgt := 28) hx hb dL_isMarkedHere_4 (by decide) (fun c_882 => ?_) (fun c_882 => ?_)
  · have hw := hw.1 c_882
    refine lv_iconst (v := 1) hx hb dL_isMarkedHere_28 (by decide) ?_
    refine lv_goto (tgt := 33) hx hb dL_isMarkedHere_29 (by decide) ?_
    exact W.zret (v := 1) hx hb hr rfl (fun t ht hW => ⟨1, rfl, hw, ht⟩) (fun q hq => nomatch hq) dL_isMarkedHere_33
  · have hw := hw.2 c_882
    refine lv_aload_n hx hb dL_isMarkedHere_7 rfl (lv_at hl 0 rfl) ?_
    refine lv_aload_n hx hb dL_isMarkedHere_8 rfl (lv_at hl 0 rfl) ?_
    have hPc : va_P (eD E) vwCl (wX E ax gx lt mo ad ln PL pf pw pk lw lk ik) s.heap := hP
    refine vp_callSi (va_Run.run (va_runV (As := []) (rest := [.ref (ax 0)]) ⟨hx, hb, hml, hown, hta⟩ (c_X2_at E l ax gx lt mo ad ln PL pf pw pk lw lk ik _ hw) (pcV (n := 0) hta tw_522 tw_519 tw_1 tw_520 tw_521 rfl rfl hd_X2_at ⟨Nat.le_of_ble_eq_true rfl, Nat.le_of_ble_eq_true rfl⟩) ⟨fbR, va_recv hKE.1 hP (ci := 3) (q0 := 0) rfl rfl, fun U hU hW => ⟨rfl, preR.mk hPc hKE hU hW⟩⟩ rfl rfl hl.1 rfl (lv_room (Nat.le_of_ble_eq_true rfl)) dL_isMarkedHere_9 ⟨Nat.le_of_ble_eq_true rfl, Nat.le_of_ble_eq_true rfl⟩)) (fun r_883 hw => ?_)
    refine lv_bipush (v := 100) hx hb dL_isMarkedHere_12 (by decide) ?_
    refine lv_irem hx hb dL_isMarkedHere_14 (by decide) ?_
    refine lv_aload_n hx hb dL_isMarkedHere_15 rfl (lv_at hl 0 rfl) ?_
    have hPc : va_P (eD E) vwCl (wX E ax gx lt mo ad ln PL pf pw pk lw lk ik) s.heap := hP
    refine vp_callSi (va_Run.run (va_runV (As := []) (rest := [.int (r_883 - r_883 / 100 * 100), .ref (ax 0)]) ⟨hx, hb, hml, hown, hta⟩ (c_X2_at E l ax gx lt mo ad ln PL pf pw pk lw lk ik _ hw) (pcV (n := 0) hta tw_522 tw_519 tw_1 tw_520 tw_521 rfl rfl hd_X2_at ⟨Nat.le_of_ble_eq_true rfl, Nat.le_of_ble_eq_true rfl⟩) ⟨fbR, va_recv hKE.1 hP (ci := 3) (q0 := 0) rfl rfl, fun U hU hW => ⟨rfl, preR.mk hPc hKE hU hW⟩⟩ rfl rfl hl.1 rfl (lv_room (Nat.le_of_ble_eq_true rfl)) dL_isMarkedHere_16 ⟨Nat.le_of_ble_eq_true rfl, Nat.le_of_ble_eq_true rfl⟩)) (fun r_884 hw => ?_)
    refine lv_bipush (v := 100) hx hb dL_isMarkedHere_19 (by decide) ?_
    refine lv_idiv hx hb dL_isMarkedHere_21 (by decide) ?_
    have hPc : va_P (eD E) vwCl (wX E ax gx lt mo ad ln PL pf pw pk lw lk ik) s.heap := hP
    refine vp_callSi (va_Run.run (va_runV (As := [.int (r_883 - r_883 / 100 * 100), .int (r_884 / 100)]) (rest := []) ⟨hx, hb, hml, hown, hta⟩ (c_X2_isMarked_r E l ax gx lt mo ad ln PL pf pw pk lw lk ik (r_883 - r_883 / 100 * 100) (r_884 / 100) _ hw) (pcV (n := 2) hta tw_501 tw_498 tw_1 tw_499 tw_500 rfl rfl hd_X2_isMarked ⟨Nat.le_of_ble_eq_true rfl, Nat.le_of_ble_eq_true rfl⟩) ⟨fbR, va_recv hKE.1 hP (ci := 3) (q0 := 0) rfl rfl, fun U hU hW => ⟨rfl, preR.mk hPc hKE hU hW⟩⟩ rfl rfl hl.1 rfl (lv_room (Nat.le_of_ble_eq_true rfl)) dL_isMarkedHere_22 ⟨Nat.le_of_ble_eq_true rfl, Nat.le_of_ble_eq_true rfl⟩)) (fun r_885 hw => ?_)
    refine lv_if_eq (tgt := 32) hx hb dL_isMarkedHere_25 (by decide) (fun c_886 => ?_) (fun c_886 => ?_)
    · have hw := hw.1 c_886
      exact hw.elim
    · have hw := hw.2 c_886
      refine lv_iconst (v := 1) hx hb dL_isMarkedHere_28 (by decide) ?_
      refine lv_goto (tgt := 33) hx hb dL_isMarkedHere_29 (by decide) ?_
      exact W.zret (v := 1) hx hb hr rfl (fun t ht hW => ⟨1, rfl, hw, ht⟩) (fun q hq => nomatch hq) dL_isMarkedHere_33
