def wp_J3_checkIndex_8e157 (E : EV) (post : Int32 → Prop) (p0 : Int32) (p1 : Int32) : Prop := ((p0 < 0 → False) ∧ (¬ (p0 < 0) → ((p0 < p1 → post p0) ∧ (¬ (p0 < p1) → False))))
set_option maxHeartbeats 4000000 in
set_option maxRecDepth 100000 in
theorem c_J3_checkIndex_8e157 (E : EV) (l : Launch) (p0 : Int32) (p1 : Int32) (post : Int32 → Prop) (hw : wp_J3_checkIndex_8e157 E post p0 p1) : Met l yJ3_checkIndex_8e157 (Cond.code yJ3_checkIndex_8e157 cJ3_checkIndex_8e157 3 (some .int) :: ALLW) ({ frames := 0, cells := 0, slots := 0, locals := 0 } : Room) (va_Pc [.int p0, .int p1, .null] (preR E ([]))) (vp_Si post) 0 0 (fun _ => False) := by
  refine Met.ofW (cc := cJ3_checkIndex_8e157) (maxL := 3) (ret := (some .int)) (by decide) rfl ?_
  intro p e s m args below meth c s₁ B hml hv
  obtain ⟨rfl, hpre⟩ := hv
  have hx := B.exec
  have hb := B.bytes
  have hr := B.returns
  have hlocks := B.notSynchronized
  have hts := atoms_spec (ws := (Cond.code yJ3_checkIndex_8e157 cJ3_checkIndex_8e157 3 (some .int) :: ALLW)) B.pre
  have hta : ∀ w ∈ ALLW, w.before ([.int p0, .int p1, .null] : List Value).toArray s = true := fun w h => hts w (List.mem_cons_of_mem _ h)
  have hown : s.vm.findClass RJ3 = some m.cls := findClass_of_methodNamed B.named
  obtain ⟨hP, hKE⟩ := hpre
  have hP : va_P (eD E) vwCl [] s.heap := hP
  have hl := lv_entry ([.int p0, .int p1, .null]) (n := 3) (Nat.le_of_ble_eq_true rfl)
  rw [lg_entry_eq]
  generalize (lg_sl ([.int p0, .int p1, .null]) ++ List.replicate (3 - (lg_sl ([.int p0, .int p1, .null])).length) Slot.unset).toArray = ls at hl ⊢
  have hl : lv_has ls 3 [(0, .int p0), (1, .int p1), (2, .null)] := hl
  unfold wp_J3_checkIndex_8e157 at hw
  refine lv_iload_n hx hb dJ3_checkIndex_8e157_0 rfl (lv_at hl 0 rfl) ?_
  refine lv_if_lt (tgt := 9) hx hb dJ3_checkIndex_8e157_1 (by decide) (fun c_28 => ?_) (fun c_28 => ?_)
  · have hw := hw.1 c_28
    exact hw.elim
  · have hw := hw.2 c_28
    refine lv_iload_n hx hb dJ3_checkIndex_8e157_4 rfl (lv_at hl 0 rfl) ?_
    refine lv_iload_n hx hb dJ3_checkIndex_8e157_5 rfl (lv_at hl 1 rfl) ?_
    refine lv_icmp_lt (tgt := 16) hx hb dJ3_checkIndex_8e157_6 (by decide) (fun c_29 => ?_) (fun c_29 => ?_)
    · have hw := hw.1 c_29
      refine lv_iload_n hx hb dJ3_checkIndex_8e157_16 rfl (lv_at hl 0 rfl) ?_
      exact W.iret (v := p0) hx hb hr (fun t ht hW => ⟨p0, rfl, hw, ht⟩) (fun q hq => nomatch hq) dJ3_checkIndex_8e157_17
    · have hw := hw.2 c_29
      exact hw.elim
def wp_J15_checkIndex_7cf53 (E : EV) (post : Int32 → Prop) (p0 : Int32) (p1 : Int32) : Prop := (wp_J3_checkIndex_8e157 E (fun r_30 : Int32 => post r_30) p0 p1)
set_option maxHeartbeats 4000000 in
set_option maxRecDepth 100000 in
theorem c_J15_checkIndex_7cf53 (E : EV) (l : Launch) (p0 : Int32) (p1 : Int32) (post : Int32 → Prop) (hw : wp_J15_checkIndex_7cf53 E post p0 p1) : Met l yJ15_checkIndex_7cf53 (Cond.code yJ15_checkIndex_7cf53 cJ15_checkIndex_7cf53 2 (some .int) :: ALLW) ({ frames := 1, cells := 0, slots := 0, locals := 22 } : Room) (va_Pc [.int p0, .int p1] (preR E ([]))) (vp_Si post) 0 0 (fun _ => False) := by
  refine Met.ofW (cc := cJ15_checkIndex_7cf53) (maxL := 2) (ret := (some .int)) (by decide) rfl ?_
  intro p e s m args below meth c s₁ B hml hv
  obtain ⟨rfl, hpre⟩ := hv
  have hx := B.exec
  have hb := B.bytes
  have hr := B.returns
  have hlocks := B.notSynchronized
  have hts := atoms_spec (ws := (Cond.code yJ15_checkIndex_7cf53 cJ15_checkIndex_7cf53 2 (some .int) :: ALLW)) B.pre
  have hta : ∀ w ∈ ALLW, w.before ([.int p0, .int p1] : List Value).toArray s = true := fun w h => hts w (List.mem_cons_of_mem _ h)
  have hown : s.vm.findClass RJ15 = some m.cls := findClass_of_methodNamed B.named
  obtain ⟨hP, hKE⟩ := hpre
  have hP : va_P (eD E) vwCl [] s.heap := hP
  have hl := lv_entry ([.int p0, .int p1]) (n := 2) (Nat.le_of_ble_eq_true rfl)
  rw [lg_entry_eq]
  generalize (lg_sl ([.int p0, .int p1]) ++ List.replicate (2 - (lg_sl ([.int p0, .int p1])).length) Slot.unset).toArray = ls at hl ⊢
  have hl : lv_has ls 2 [(0, .int p0), (1, .int p1)] := hl
  unfold wp_J15_checkIndex_7cf53 at hw
  refine lv_iload_n hx hb dJ15_checkIndex_7cf53_0 rfl (lv_at hl 0 rfl) ?_
  refine lv_iload_n hx hb dJ15_checkIndex_7cf53_1 rfl (lv_at hl 1 rfl) ?_
  refine lv_null hx hb dJ15_checkIndex_7cf53_2 ?_
  have hPc : va_P (eD E) vwCl [] s.heap := va_P_nil
  refine vp_callSi (va_Run.run (va_runS (As := [.int p0, .int p1, .null]) (rest := []) ⟨hx, hb, hml, hown, hta⟩ (c_J3_checkIndex_8e157 E l p0 p1 _ hw) (pcS (n := 3) hta tw_438 tw_436 tw_7 tw_437 rfl rfl hd_J3_checkIndex_8e157 ⟨Nat.le_of_ble_eq_true rfl, Nat.le_of_ble_eq_true rfl⟩) ⟨fbR, fun U hU hW => ⟨rfl, preR.mk hPc hKE hU hW⟩⟩ rfl rfl hl.1 rfl (lv_room (Nat.le_of_ble_eq_true rfl)) dJ15_checkIndex_7cf53_3 ⟨Nat.le_of_ble_eq_true rfl, Nat.le_of_ble_eq_true rfl⟩)) (fun r_30 hw => ?_)
  exact W.iret (v := r_30) hx hb hr (fun t ht hW => ⟨r_30, rfl, hw, ht⟩) (fun q hq => nomatch hq) dJ15_checkIndex_7cf53_6
def wp_Jx4a65c_size_8abf5 (E : EV) (post : Int32 → Prop) (mo : Int32) (ad : Nat) (ln : Int32) (PL : List Nat) (pf : Nat → va_E) : Prop := post ln
set_option maxHeartbeats 4000000 in
set_option maxRecDepth 100000 in
theorem c_Jx4a65c_size_8abf5 (E : EV) (l : Launch) (la : Nat) (mo : Int32) (ad : Nat) (ln : Int32) (PL : List Nat) (pf : Nat → va_E) (post : Int32 → Prop) (hw : wp_Jx4a65c_size_8abf5 E post mo ad ln PL pf) : Met l yJx4a65c_size_8abf5 (Cond.code yJx4a65c_size_8abf5 cJx4a65c_size_8abf5 1 (some .int) :: ALLW) ({ frames := 0, cells := 0, slots := 0, locals := 0 } : Room) (va_Pc [.ref la] (preR E (wL la mo ad ln PL pf))) (vp_Si post) 0 0 (fun _ => False) := by
  refine Met.ofW (cc := cJx4a65c_size_8abf5) (maxL := 1) (ret := (some .int)) (by decide) rfl ?_
  intro p e s m args below meth c s₁ B hml hv
  obtain ⟨rfl, hpre⟩ := hv
  have hx := B.exec
  have hb := B.bytes
  have hr := B.returns
  have hlocks := B.notSynchronized
  have hts := atoms_spec (ws := (Cond.code yJx4a65c_size_8abf5 cJx4a65c_size_8abf5 1 (some .int) :: ALLW)) B.pre
  have hta : ∀ w ∈ ALLW, w.before ([.ref la] : List Value).toArray s = true := fun w h => hts w (List.mem_cons_of_mem _ h)
  have hown : s.vm.findClass RJx4a65c = some m.cls := findClass_of_methodNamed B.named
  obtain ⟨hP, hKE⟩ := hpre
  have hP : va_P (eD E) vwCl ([(la, .inr (0, [.int mo, .ref ad, .int ln]))] ++ va_pl PL pf) s.heap := hP
  have hl := lv_entry ([.ref la]) (n := 1) (Nat.le_of_ble_eq_true rfl)
  rw [lg_entry_eq]
  generalize (lg_sl ([.ref la]) ++ List.replicate (1 - (lg_sl ([.ref la])).length) Slot.unset).toArray = ls at hl ⊢
  have hl : lv_has ls 1 [(0, .ref la)] := hl
  unfold wp_Jx4a65c_size_8abf5 at hw
  refine lv_aload_n hx hb dJx4a65c_size_8abf5_0 rfl (lv_at hl 0 rfl) ?_
  refine va_get (D := eD E) (ci := 0) (v := .int ln) (C := RJx4a65c) (T := TJx4a65c) (N := 3) hx hb hta lay_AL hown hKE.1 hP 0 rfl rfl 2 (by decide) (hta _ tw_41) (fun _ h9 => h9) rfl dJx4a65c_size_8abf5_1 ?_
  exact W.iret (v := ln) hx hb hr (fun t ht hW => ⟨ln, rfl, hw, ht⟩) (fun q hq => nomatch hq) dJx4a65c_size_8abf5_4
def wp_Jx4a65c_isEmpty_aae02 (E : EV) (post : Int32 → Prop) (mo : Int32) (ad : Nat) (ln : Int32) (PL : List Nat) (pf : Nat → va_E) : Prop := ((ln = 0 → post 1) ∧ (¬ (ln = 0) → post 0))
set_option maxHeartbeats 4000000 in
set_option maxRecDepth 100000 in
theorem c_Jx4a65c_isEmpty_aae02 (E : EV) (l : Launch) (la : Nat) (mo : Int32) (ad : Nat) (ln : Int32) (PL : List Nat) (pf : Nat → va_E) (post : Int32 → Prop) (hw : wp_Jx4a65c_isEmpty_aae02 E post mo ad ln PL pf) : Met l yJx4a65c_isEmpty_aae02 (Cond.code yJx4a65c_isEmpty_aae02 cJx4a65c_isEmpty_aae02 1 (some .boolean) :: ALLW) ({ frames := 0, cells := 0, slots := 0, locals := 0 } : Room) (va_Pc [.ref la] (preR E (wL la mo ad ln PL pf))) (vp_Si post) 0 0 (fun _ => False) := by
  refine Met.ofW (cc := cJx4a65c_isEmpty_aae02) (maxL := 1) (ret := (some .boolean)) (by decide) rfl ?_
  intro p e s m args below meth c s₁ B hml hv
  obtain ⟨rfl, hpre⟩ := hv
  have hx := B.exec
  have hb := B.bytes
  have hr := B.returns
  have hlocks := B.notSynchronized
  have hts := atoms_spec (ws := (Cond.code yJx4a65c_isEmpty_aae02 cJx4a65c_isEmpty_aae02 1 (some .boolean) :: ALLW)) B.pre
  have hta : ∀ w ∈ ALLW, w.before ([.ref la] : List Value).toArray s = true := fun w h => hts w (List.mem_cons_of_mem _ h)
  have hown : s.vm.findClass RJx4a65c = some m.cls := findClass_of_methodNamed B.named
  obtain ⟨hP, hKE⟩ := hpre
  have hP : va_P (eD E) vwCl ([(la, .inr (0, [.int mo, .ref ad, .int ln]))] ++ va_pl PL pf) s.heap := hP
  have hl := lv_entry ([.ref la]) (n := 1) (Nat.le_of_ble_eq_true rfl)
  rw [lg_entry_eq]
  generalize (lg_sl ([.ref la]) ++ List.replicate (1 - (lg_sl ([.ref la])).length) Slot.unset).toArray = ls at hl ⊢
  have hl : lv_has ls 1 [(0, .ref la)] := hl
  unfold wp_Jx4a65c_isEmpty_aae02 at hw
  refine lv_aload_n hx hb dJx4a65c_isEmpty_aae02_0 rfl (lv_at hl 0 rfl) ?_
  refine va_get (D := eD E) (ci := 0) (v := .int ln) (C := RJx4a65c) (T := TJx4a65c) (N := 3) hx hb hta lay_AL hown hKE.1 hP 0 rfl rfl 2 (by decide) (hta _ tw_41) (fun _ h9 => h9) rfl dJx4a65c_isEmpty_aae02_1 ?_
  refine lv_if_ne (tgt := 11) hx hb dJx4a65c_isEmpty_aae02_4 (by decide) (fun c_31 => ?_) (fun c_31 => ?_)
  · have hw := hw.2 c_31
    refine lv_iconst (v := 0) hx hb dJx4a65c_isEmpty_aae02_11 (by decide) ?_
    exact W.zret (v := 0) hx hb hr rfl (fun t ht hW => ⟨0, rfl, hw, ht⟩) (fun q hq => nomatch hq) dJx4a65c_isEmpty_aae02_12
  · have hw := hw.1 c_31
    refine lv_iconst (v := 1) hx hb dJx4a65c_isEmpty_aae02_7 (by decide) ?_
    refine lv_goto (tgt := 12) hx hb dJx4a65c_isEmpty_aae02_8 (by decide) ?_
    exact W.zret (v := 1) hx hb hr rfl (fun t ht hW => ⟨1, rfl, hw, ht⟩) (fun q hq => nomatch hq) dJx4a65c_isEmpty_aae02_12
def wp_Jx4a65c_elementData_915e3 (E : EV) (post : Option Nat → Prop) (mo : Int32) (ad : Nat) (ln : Int32) (PL : List Nat) (pf : Nat → va_E) (p0 : Int32) : Prop := (∃ (anz_32 : Nat) (afz_32 : Nat → Option Nat), ad ∈ PL ∧ pf ad = .inl (eC E 2, anz_32, .inr (.inr (.inr (.inr afz_32)))) ∧ (vp_in p0 anz_32 ∧ (∀ o_35, o_35 = (afz_32 p0.toNatClampNeg) → post o_35)))
set_option maxHeartbeats 4000000 in
set_option maxRecDepth 100000 in
theorem c_Jx4a65c_elementData_915e3 (E : EV) (l : Launch) (la : Nat) (mo : Int32) (ad : Nat) (ln : Int32) (PL : List Nat) (pf : Nat → va_E) (p0 : Int32) (post : Option Nat → Prop) (hw : wp_Jx4a65c_elementData_915e3 E post mo ad ln PL pf p0) : Met l yJx4a65c_elementData_915e3 (Cond.code yJx4a65c_elementData_915e3 cJx4a65c_elementData_915e3 2 (some (.object "java/lang/Object")) :: ALLW) ({ frames := 0, cells := 0, slots := 0, locals := 0 } : Room) (va_Pc [.ref la, .int p0] (preR E (wL la mo ad ln PL pf))) (va_Sq post) 0 0 (fun _ => False) := by
  refine Met.ofW (cc := cJx4a65c_elementData_915e3) (maxL := 2) (ret := (some (.object "java/lang/Object"))) (by decide) rfl ?_
  intro p e s m args below meth c s₁ B hml hv
  obtain ⟨rfl, hpre⟩ := hv
  have hx := B.exec
  have hb := B.bytes
  have hr := B.returns
  have hlocks := B.notSynchronized
  have hts := atoms_spec (ws := (Cond.code yJx4a65c_elementData_915e3 cJx4a65c_elementData_915e3 2 (some (.object "java/lang/Object")) :: ALLW)) B.pre
  have hta : ∀ w ∈ ALLW, w.before ([.ref la, .int p0] : List Value).toArray s = true := fun w h => hts w (List.mem_cons_of_mem _ h)
  have hown : s.vm.findClass RJx4a65c = some m.cls := findClass_of_methodNamed B.named
  obtain ⟨hP, hKE⟩ := hpre
  have hP : va_P (eD E) vwCl ([(la, .inr (0, [.int mo, .ref ad, .int ln]))] ++ va_pl PL pf) s.heap := hP
  have hl := lv_entry ([.ref la, .int p0]) (n := 2) (Nat.le_of_ble_eq_true rfl)
  rw [lg_entry_eq]
  generalize (lg_sl ([.ref la, .int p0]) ++ List.replicate (2 - (lg_sl ([.ref la, .int p0])).length) Slot.unset).toArray = ls at hl ⊢
  have hl : lv_has ls 2 [(0, .ref la), (1, .int p0)] := hl
  unfold wp_Jx4a65c_elementData_915e3 at hw
  refine lv_aload_n hx hb dJx4a65c_elementData_915e3_0 rfl (lv_at hl 0 rfl) ?_
  refine va_get (D := eD E) (ci := 0) (v := .ref ad) (C := RJx4a65c) (T := TJx4a65c) (N := 3) hx hb hta lay_AL hown hKE.1 hP 0 rfl rfl 1 (by decide) (hta _ tw_40) (fun _ h9 => h9) rfl dJx4a65c_elementData_915e3_1 ?_
  refine lv_iload_n hx hb dJx4a65c_elementData_915e3_4 rfl (lv_at hl 1 rfl) ?_
  obtain ⟨anz_32, afz_32, hyz_32, hfz_32, hw⟩ := hw
  obtain ⟨i_33, hi_33⟩ := va_pl_get (X := [(la, .inr (0, [.int mo, .ref ad, .int ln]))]) (f := pf) hyz_32
  have gi_33 := hi_33
  rw [hfz_32] at hi_33
  obtain ⟨hi_34, hw⟩ := hw
  refine va_aldq hx hb hKE.1 hP i_33 2 hi_33 rfl hi_34 dJx4a65c_elementData_915e3_5 ?_
  obtain ⟨o_35, eo_35⟩ : ∃ z, z = (afz_32 p0.toNatClampNeg) := ⟨_, rfl⟩
  rw [← eo_35]
  have hw := hw o_35 eo_35
  exact W.aret (v := va_rf o_35) hx hb hr (Or.inl ⟨_, rfl⟩) (va_rf_or _) (fun t ht hW => ⟨o_35, rfl, hw, ht⟩) (fun q hq => nomatch hq) dJx4a65c_elementData_915e3_6
def wp_Jx4a65c_get_915e3 (E : EV) (post : Option Nat → Prop) (mo : Int32) (ad : Nat) (ln : Int32) (PL : List Nat) (pf : Nat → va_E) (p0 : Int32) : Prop := (wp_J15_checkIndex_7cf53 E (fun r_36 : Int32 => (wp_Jx4a65c_elementData_915e3 E (fun r_37 : Option Nat => post r_37) mo ad ln PL pf p0)) p0 ln)
set_option maxHeartbeats 4000000 in
set_option maxRecDepth 100000 in
theorem c_Jx4a65c_get_915e3 (E : EV) (l : Launch) (la : Nat) (mo : Int32) (ad : Nat) (ln : Int32) (PL : List Nat) (pf : Nat → va_E) (p0 : Int32) (post : Option Nat → Prop) (hw : wp_Jx4a65c_get_915e3 E post mo ad ln PL pf p0) : Met l yJx4a65c_get_915e3 (Cond.code yJx4a65c_get_915e3 cJx4a65c_get_915e3 2 (some (.object "java/lang/Object")) :: ALLW) ({ frames := 2, cells := 0, slots := 0, locals := 43 } : Room) (va_Pc [.ref la, .int p0] (preR E (wL la mo ad ln PL pf))) (va_Sq post) 0 0 (fun _ => False) := by
  refine Met.ofW (cc := cJx4a65c_get_915e3) (maxL := 2) (ret := (some (.object "java/lang/Object"))) (by decide) rfl ?_
  intro p e s m args below meth c s₁ B hml hv
  obtain ⟨rfl, hpre⟩ := hv
  have hx := B.exec
  have hb := B.bytes
  have hr := B.returns
  have hlocks := B.notSynchronized
  have hts := atoms_spec (ws := (Cond.code yJx4a65c_get_915e3 cJx4a65c_get_915e3 2 (some (.object "java/lang/Object")) :: ALLW)) B.pre
  have hta : ∀ w ∈ ALLW, w.before ([.ref la, .int p0] : List Value).toArray s = true := fun w h => hts w (List.mem_cons_of_mem _ h)
  have hown : s.vm.findClass RJx4a65c = some m.cls := findClass_of_methodNamed B.named
  obtain ⟨hP, hKE⟩ := hpre
  have hP : va_P (eD E) vwCl ([(la, .inr (0, [.int mo, .ref ad, .int ln]))] ++ va_pl PL pf) s.heap := hP
  have hl := lv_entry ([.ref la, .int p0]) (n := 2) (Nat.le_of_ble_eq_true rfl)
  rw [lg_entry_eq]
  generalize (lg_sl ([.ref la, .int p0]) ++ List.replicate (2 - (lg_sl ([.ref la, .int p0])).length) Slot.unset).toArray = ls at hl ⊢
  have hl : lv_has ls 2 [(0, .ref la), (1, .int p0)] := hl
  unfold wp_Jx4a65c_get_915e3 at hw
  refine lv_iload_n hx hb dJx4a65c_get_915e3_0 rfl (lv_at hl 1 rfl) ?_
  refine lv_aload_n hx hb dJx4a65c_get_915e3_1 rfl (lv_at hl 0 rfl) ?_
  refine va_get (D := eD E) (ci := 0) (v := .int ln) (C := RJx4a65c) (T := TJx4a65c) (N := 3) hx hb hta lay_AL hown hKE.1 hP 0 rfl rfl 2 (by decide) (hta _ tw_41) (fun _ h9 => h9) rfl dJx4a65c_get_915e3_2 ?_
  have hPc : va_P (eD E) vwCl [] s.heap := va_P_nil
  refine vp_callSi (va_Run.run (va_runS (As := [.int p0, .int ln]) (rest := []) ⟨hx, hb, hml, hown, hta⟩ (c_J15_checkIndex_7cf53 E l p0 ln _ hw) (pcS (n := 2) hta tw_435 tw_433 tw_6 tw_434 rfl rfl hd_J15_checkIndex_7cf53 ⟨Nat.le_of_ble_eq_true rfl, Nat.le_of_ble_eq_true rfl⟩) ⟨fbR, fun U hU hW => ⟨rfl, preR.mk hPc hKE hU hW⟩⟩ rfl rfl hl.1 rfl (lv_room (Nat.le_of_ble_eq_true rfl)) dJx4a65c_get_915e3_5 ⟨Nat.le_of_ble_eq_true rfl, Nat.le_of_ble_eq_true rfl⟩)) (fun r_36 hw => ?_)
  refine lv_pop hx hb dJx4a65c_get_915e3_8 rfl ?_
  refine lv_aload_n hx hb dJx4a65c_get_915e3_9 rfl (lv_at hl 0 rfl) ?_
  refine lv_iload_n hx hb dJx4a65c_get_915e3_10 rfl (lv_at hl 1 rfl) ?_
  have hPc : va_P (eD E) vwCl (wL la mo ad ln PL pf) s.heap := hP
  refine va_csq (va_Run.run (va_runV (As := [.int p0]) (rest := []) ⟨hx, hb, hml, hown, hta⟩ (c_Jx4a65c_elementData_915e3 E l la mo ad ln PL pf p0 _ hw) (pcV (n := 1) hta tw_442 tw_439 tw_4 tw_440 tw_441 rfl rfl hd_Jx4a65c_elementData_915e3 ⟨Nat.le_of_ble_eq_true rfl, Nat.le_of_ble_eq_true rfl⟩) ⟨fbR, va_recv hKE.1 hP (ci := 0) (q0 := 0) rfl rfl, fun U hU hW => ⟨rfl, preR.mk hPc hKE hU hW⟩⟩ rfl rfl hl.1 rfl (lv_room (Nat.le_of_ble_eq_true rfl)) dJx4a65c_get_915e3_11 ⟨Nat.le_of_ble_eq_true rfl, Nat.le_of_ble_eq_true rfl⟩)) (fun r_37 hw => ?_)
  exact W.aret (v := va_rf r_37) hx hb hr (Or.inl ⟨_, rfl⟩) (va_rf_or _) (fun t ht hW => ⟨r_37, rfl, hw, ht⟩) (fun q hq => nomatch hq) dJx4a65c_get_915e3_14
def wp_X2_errors (E : EV) (post : Int32 → Prop) (gx : Nat → Int32) (lt : Option Nat) (mo : Int32) (ad : Nat) (ln : Int32) (PL : List Nat) (pf : Nat → va_E) (pw : Nat → Int64) (pk : Int32) (lw : Nat → Int64) (lk : Int32) (ik : Nat → Int32) : Prop := post (gx 7)
set_option maxHeartbeats 4000000 in
set_option maxRecDepth 100000 in
theorem c_X2_errors (E : EV) (l : Launch) (ax : Nat → Nat) (gx : Nat → Int32) (lt : Option Nat) (mo : Int32) (ad : Nat) (ln : Int32) (PL : List Nat) (pf : Nat → va_E) (pw : Nat → Int64) (pk : Int32) (lw : Nat → Int64) (lk : Int32) (ik : Nat → Int32) (post : Int32 → Prop) (hw : wp_X2_errors E post gx lt mo ad ln PL pf pw pk lw lk ik) : Met l yX2_errors (Cond.code yX2_errors cX2_errors 1 (some .int) :: ALLW) ({ frames := 0, cells := 0, slots := 0, locals := 0 } : Room) (va_Pc [.ref (ax 0)] (preR E (wX E ax gx lt mo ad ln PL pf pw pk lw lk ik))) (vp_Si post) 0 0 (fun _ => False) := by
  refine Met.ofW (cc := cX2_errors) (maxL := 1) (ret := (some .int)) (by decide) rfl ?_
  intro p e s m args below meth c s₁ B hml hv
  obtain ⟨rfl, hpre⟩ := hv
  have hx := B.exec
  have hb := B.bytes
  have hr := B.returns
  have hlocks := B.notSynchronized
  have hts := atoms_spec (ws := (Cond.code yX2_errors cX2_errors 1 (some .int) :: ALLW)) B.pre
  have hta : ∀ w ∈ ALLW, w.before ([.ref (ax 0)] : List Value).toArray s = true := fun w h => hts w (List.mem_cons_of_mem _ h)
  have hown : s.vm.findClass RX2 = some m.cls := findClass_of_methodNamed B.named
  obtain ⟨hP, hKE⟩ := hpre
  have hP : va_P (eD E) vwCl ([((ax 0), .inr (3, [.ref (ax 1), .ref (ax 2), .ref (ax 4), .ref (ax 6), .int (gx 4), .int (gx 5), .int (gx 6), .int (gx 7), va_rf lt, .int (gx 9), .int (gx 10), .int (gx 11), .int (gx 12), .int (gx 13), .int (gx 14), .int (gx 15), .int (gx 16), .int (gx 17), .int (gx 18)])), ((ax 1), .inr (0, [.int mo, .ref ad, .int ln])), ((ax 2), .inr (2, [.ref (ax 3), .int pk])), ((ax 3), .inl (eC E 1, 157, .inr (.inl pw))), ((ax 4), .inr (2, [.ref (ax 5), .int lk])), ((ax 5), .inl (eC E 1, 157, .inr (.inl lw))), ((ax 6), .inl (eC E 0, 3, .inl ik))] ++ va_pl PL pf) s.heap := hP
  have hl := lv_entry ([.ref (ax 0)]) (n := 1) (Nat.le_of_ble_eq_true rfl)
  rw [lg_entry_eq]
  generalize (lg_sl ([.ref (ax 0)]) ++ List.replicate (1 - (lg_sl ([.ref (ax 0)])).length) Slot.unset).toArray = ls at hl ⊢
  have hl : lv_has ls 1 [(0, .ref (ax 0))] := hl
  unfold wp_X2_errors at hw
  refine lv_aload_n hx hb dX2_errors_0 rfl (lv_at hl 0 rfl) ?_
  refine va_get (D := eD E) (ci := 3) (v := .int (gx 7)) (C := RX2) (T := TX2) (N := 19) hx hb hta lay_X2 hown hKE.1 hP 0 rfl rfl 7 (by decide) (hta _ tw_74) (fun _ h9 => h9) rfl dX2_errors_1 ?_
  exact W.iret (v := (gx 7)) hx hb hr (fun t ht hW => ⟨(gx 7), rfl, hw, ht⟩) (fun q hq => nomatch hq) dX2_errors_4
def wp_X2_queued (E : EV) (post : Int32 → Prop) (gx : Nat → Int32) (lt : Option Nat) (mo : Int32) (ad : Nat) (ln : Int32) (PL : List Nat) (pf : Nat → va_E) (pw : Nat → Int64) (pk : Int32) (lw : Nat → Int64) (lk : Int32) (ik : Nat → Int32) : Prop := (wp_Jx4a65c_size_8abf5 E (fun r_38 : Int32 => post r_38) mo ad ln PL pf)
set_option maxHeartbeats 4000000 in
set_option maxRecDepth 100000 in
theorem c_X2_queued (E : EV) (l : Launch) (ax : Nat → Nat) (gx : Nat → Int32) (lt : Option Nat) (mo : Int32) (ad : Nat) (ln : Int32) (PL : List Nat) (pf : Nat → va_E) (pw : Nat → Int64) (pk : Int32) (lw : Nat → Int64) (lk : Int32) (ik : Nat → Int32) (post : Int32 → Prop) (hw : wp_X2_queued E post gx lt mo ad ln PL pf pw pk lw lk ik) : Met l yX2_queued (Cond.code yX2_queued cX2_queued 1 (some .int) :: ALLW) ({ frames := 1, cells := 0, slots := 0, locals := 20 } : Room) (va_Pc [.ref (ax 0)] (preR E (wX E ax gx lt mo ad ln PL pf pw pk lw lk ik))) (vp_Si post) 0 0 (fun _ => False) := by
  refine Met.ofW (cc := cX2_queued) (maxL := 1) (ret := (some .int)) (by decide) rfl ?_
  intro p e s m args below meth c s₁ B hml hv
  obtain ⟨rfl, hpre⟩ := hv
  have hx := B.exec
  have hb := B.bytes
  have hr := B.returns
  have hlocks := B.notSynchronized
  have hts := atoms_spec (ws := (Cond.code yX2_queued cX2_queued 1 (some .int) :: ALLW)) B.pre
  have hta : ∀ w ∈ ALLW, w.before ([.ref (ax 0)] : List Value).toArray s = true := fun w h => hts w (List.mem_cons_of_mem _ h)
  have hown : s.vm.findClass RX2 = some m.cls := findClass_of_methodNamed B.named
  obtain ⟨hP, hKE⟩ := hpre
  have hP : va_P (eD E) vwCl ([((ax 0), .inr (3, [.ref (ax 1), .ref (ax 2), .ref (ax 4), .ref (ax 6), .int (gx 4), .int (gx 5), .int (gx 6), .int (gx 7), va_rf lt, .int (gx 9), .int (gx 10), .int (gx 11), .int (gx 12), .int (gx 13), .int (gx 14), .int (gx 15), .int (gx 16), .int (gx 17), .int (gx 18)])), ((ax 1), .inr (0, [.int mo, .ref ad, .int ln])), ((ax 2), .inr (2, [.ref (ax 3), .int pk])), ((ax 3), .inl (eC E 1, 157, .inr (.inl pw))), ((ax 4), .inr (2, [.ref (ax 5), .int lk])), ((ax 5), .inl (eC E 1, 157, .inr (.inl lw))), ((ax 6), .inl (eC E 0, 3, .inl ik))] ++ va_pl PL pf) s.heap := hP
  have hl := lv_entry ([.ref (ax 0)]) (n := 1) (Nat.le_of_ble_eq_true rfl)
  rw [lg_entry_eq]
  generalize (lg_sl ([.ref (ax 0)]) ++ List.replicate (1 - (lg_sl ([.ref (ax 0)])).length) Slot.unset).toArray = ls at hl ⊢
  have hl : lv_has ls 1 [(0, .ref (ax 0))] := hl
  unfold wp_X2_queued at hw
  refine lv_aload_n hx hb dX2_queued_0 rfl (lv_at hl 0 rfl) ?_
  refine va_get (D := eD E) (ci := 3) (v := .ref (ax 1)) (C := RX2) (T := TX2) (N := 19) hx hb hta lay_X2 hown hKE.1 hP 0 rfl rfl 0 (by decide) (hta _ tw_67) (fun _ h9 => h9) rfl dX2_queued_1 ?_
  have hPc : va_P (eD E) vwCl ([((ax 1), .inr (0, [.int mo, .ref ad, .int ln]))] ++ va_pl PL pf) s.heap := hP.part [1] rfl
  refine vp_callSi (va_Run.run (va_runV (As := []) (rest := []) ⟨hx, hb, hml, hown, hta⟩ (c_Jx4a65c_size_8abf5 E l (ax 1) mo ad ln PL pf _ hw) (pcV (n := 0) hta tw_257 tw_254 tw_4 tw_255 tw_256 rfl rfl hd_Jx4a65c_size_8abf5 ⟨Nat.le_of_ble_eq_true rfl, Nat.le_of_ble_eq_true rfl⟩) ⟨fbR, va_recv hKE.1 hP (ci := 0) (q0 := 1) rfl rfl, fun U hU hW => ⟨rfl, preR.mk hPc hKE hU hW⟩⟩ rfl rfl hl.1 rfl (lv_room (Nat.le_of_ble_eq_true rfl)) dX2_queued_4 ⟨Nat.le_of_ble_eq_true rfl, Nat.le_of_ble_eq_true rfl⟩)) (fun r_38 hw => ?_)
  exact W.iret (v := r_38) hx hb hr (fun t ht hW => ⟨r_38, rfl, hw, ht⟩) (fun q hq => nomatch hq) dX2_queued_7
def wp_X2_pending (E : EV) (post : Int32 → Prop) (gx : Nat → Int32) (lt : Option Nat) (mo : Int32) (ad : Nat) (ln : Int32) (PL : List Nat) (pf : Nat → va_E) (pw : Nat → Int64) (pk : Int32) (lw : Nat → Int64) (lk : Int32) (ik : Nat → Int32) : Prop := post (gx 6)
set_option maxHeartbeats 4000000 in
set_option maxRecDepth 100000 in
theorem c_X2_pending (E : EV) (l : Launch) (ax : Nat → Nat) (gx : Nat → Int32) (lt : Option Nat) (mo : Int32) (ad : Nat) (ln : Int32) (PL : List Nat) (pf : Nat → va_E) (pw : Nat → Int64) (pk : Int32) (lw : Nat → Int64) (lk : Int32) (ik : Nat → Int32) (post : Int32 → Prop) (hw : wp_X2_pending E post gx lt mo ad ln PL pf pw pk lw lk ik) : Met l yX2_pending (Cond.code yX2_pending cX2_pending 1 (some .int) :: ALLW) ({ frames := 0, cells := 0, slots := 0, locals := 0 } : Room) (va_Pc [.ref (ax 0)] (preR E (wX E ax gx lt mo ad ln PL pf pw pk lw lk ik))) (vp_Si post) 0 0 (fun _ => False) := by
  refine Met.ofW (cc := cX2_pending) (maxL := 1) (ret := (some .int)) (by decide) rfl ?_
  intro p e s m args below meth c s₁ B hml hv
  obtain ⟨rfl, hpre⟩ := hv
  have hx := B.exec
  have hb := B.bytes
  have hr := B.returns
  have hlocks := B.notSynchronized
  have hts := atoms_spec (ws := (Cond.code yX2_pending cX2_pending 1 (some .int) :: ALLW)) B.pre
  have hta : ∀ w ∈ ALLW, w.before ([.ref (ax 0)] : List Value).toArray s = true := fun w h => hts w (List.mem_cons_of_mem _ h)
  have hown : s.vm.findClass RX2 = some m.cls := findClass_of_methodNamed B.named
  obtain ⟨hP, hKE⟩ := hpre
  have hP : va_P (eD E) vwCl ([((ax 0), .inr (3, [.ref (ax 1), .ref (ax 2), .ref (ax 4), .ref (ax 6), .int (gx 4), .int (gx 5), .int (gx 6), .int (gx 7), va_rf lt, .int (gx 9), .int (gx 10), .int (gx 11), .int (gx 12), .int (gx 13), .int (gx 14), .int (gx 15), .int (gx 16), .int (gx 17), .int (gx 18)])), ((ax 1), .inr (0, [.int mo, .ref ad, .int ln])), ((ax 2), .inr (2, [.ref (ax 3), .int pk])), ((ax 3), .inl (eC E 1, 157, .inr (.inl pw))), ((ax 4), .inr (2, [.ref (ax 5), .int lk])), ((ax 5), .inl (eC E 1, 157, .inr (.inl lw))), ((ax 6), .inl (eC E 0, 3, .inl ik))] ++ va_pl PL pf) s.heap := hP
  have hl := lv_entry ([.ref (ax 0)]) (n := 1) (Nat.le_of_ble_eq_true rfl)
  rw [lg_entry_eq]
  generalize (lg_sl ([.ref (ax 0)]) ++ List.replicate (1 - (lg_sl ([.ref (ax 0)])).length) Slot.unset).toArray = ls at hl ⊢
  have hl : lv_has ls 1 [(0, .ref (ax 0))] := hl
  unfold wp_X2_pending at hw
  refine lv_aload_n hx hb dX2_pending_0 rfl (lv_at hl 0 rfl) ?_
  refine va_get (D := eD E) (ci := 3) (v := .int (gx 6)) (C := RX2) (T := TX2) (N := 19) hx hb hta lay_X2 hown hKE.1 hP 0 rfl rfl 6 (by decide) (hta _ tw_73) (fun _ h9 => h9) rfl dX2_pending_1 ?_
  exact W.iret (v := (gx 6)) hx hb hr (fun t ht hW => ⟨(gx 6), rfl, hw, ht⟩) (fun q hq => nomatch hq) dX2_pending_4
def wp_X2_firstCommand (E : EV) (post : Option Nat → Prop) (gx : Nat → Int32) (lt : Option Nat) (mo : Int32) (ad : Nat) (ln : Int32) (PL : List Nat) (pf : Nat → va_E) (pw : Nat → Int64) (pk : Int32) (lw : Nat → Int64) (lk : Int32) (ik : Nat → Int32) : Prop := (wp_Jx4a65c_isEmpty_aae02 E (fun r_39 : Int32 => ((r_39 = 0 → (wp_Jx4a65c_get_915e3 E (fun r_41 : Option Nat => ((r_41 = none → post none) ∧ (∀ y_42 : Nat, r_41 = some y_42 → (∃ ckz_43 cxz_43 cyz_43 cpz_43 : Int32, y_42 ∈ PL ∧ pf y_42 = .inr (1, [.int ckz_43, .int cxz_43, .int cyz_43, .int cpz_43]) ∧ post (some y_42))))) mo ad ln PL pf 0)) ∧ (¬ (r_39 = 0) → post none))) mo ad ln PL pf)
set_option maxHeartbeats 4000000 in
set_option maxRecDepth 100000 in
theorem c_X2_firstCommand (E : EV) (l : Launch) (ax : Nat → Nat) (gx : Nat → Int32) (lt : Option Nat) (mo : Int32) (ad : Nat) (ln : Int32) (PL : List Nat) (pf : Nat → va_E) (pw : Nat → Int64) (pk : Int32) (lw : Nat → Int64) (lk : Int32) (ik : Nat → Int32) (post : Option Nat → Prop) (hw : wp_X2_firstCommand E post gx lt mo ad ln PL pf pw pk lw lk ik) : Met l yX2_firstCommand (Cond.code yX2_firstCommand cX2_firstCommand 1 (some (.object "PlotKernel$Command")) :: ALLW) ({ frames := 3, cells := 0, slots := 0, locals := 64 } : Room) (va_Pc [.ref (ax 0)] (preR E (wX E ax gx lt mo ad ln PL pf pw pk lw lk ik))) (va_Sq post) 0 0 (fun _ => False) := by
  refine Met.ofW (cc := cX2_firstCommand) (maxL := 1) (ret := (some (.object "PlotKernel$Command"))) (by decide) rfl ?_
  intro p e s m args below meth c s₁ B hml hv
  obtain ⟨rfl, hpre⟩ := hv
  have hx := B.exec
  have hb := B.bytes
  have hr := B.returns
  have hlocks := B.notSynchronized
  have hts := atoms_spec (ws := (Cond.code yX2_firstCommand cX2_firstCommand 1 (some (.object "PlotKernel$Command")) :: ALLW)) B.pre
  have hta : ∀ w ∈ ALLW, w.before ([.ref (ax 0)] : List Value).toArray s = true := fun w h => hts w (List.mem_cons_of_mem _ h)
  have hown : s.vm.findClass RX2 = some m.cls := findClass_of_methodNamed B.named
  obtain ⟨hP, hKE⟩ := hpre
  have hP : va_P (eD E) vwCl ([((ax 0), .inr (3, [.ref (ax 1), .ref (ax 2), .ref (ax 4), .ref (ax 6), .int (gx 4), .int (gx 5), .int (gx 6), .int (gx 7), va_rf lt, .int (gx 9), .int (gx 10), .int (gx 11), .int (gx 12), .int (gx 13), .int (gx 14), .int (gx 15), .int (gx 16), .int (gx 17), .int (gx 18)])), ((ax 1), .inr (0, [.int mo, .ref ad, .int ln])), ((ax 2), .inr (2, [.ref (ax 3), .int pk])), ((ax 3), .inl (eC E 1, 157, .inr (.inl pw))), ((ax 4), .inr (2, [.ref (ax 5), .int lk])), ((ax 5), .inl (eC E 1, 157, .inr (.inl lw))), ((ax 6), .inl (eC E 0, 3, .inl ik))] ++ va_pl PL pf) s.heap := hP
  have hl := lv_entry ([.ref (ax 0)]) (n := 1) (Nat.le_of_ble_eq_true rfl)
  rw [lg_entry_eq]
  generalize (lg_sl ([.ref (ax 0)]) ++ List.replicate (1 - (lg_sl ([.ref (ax 0)])).length) Slot.unset).toArray = ls at hl ⊢
  have hl : lv_has ls 1 [(0, .ref (ax 0))] := hl
  unfold wp_X2_firstCommand at hw
  refine lv_aload_n hx hb dX2_firstCommand_0 rfl (lv_at hl 0 rfl) ?_
  refine va_get (D := eD E) (ci := 3) (v := .ref (ax 1)) (C := RX2) (T := TX2) (N := 19) hx hb hta lay_X2 hown hKE.1 hP 0 rfl rfl 0 (by decide) (hta _ tw_67) (fun _ h9 => h9) rfl dX2_firstCommand_1 ?_
  have hPc : va_P (eD E) vwCl ([((ax 1), .inr (0, [.int mo, .ref ad, .int ln]))] ++ va_pl PL pf) s.heap := hP.part [1] rfl
  refine vp_callSi (va_Run.run (va_runV (As := []) (rest := []) ⟨hx, hb, hml, hown, hta⟩ (c_Jx4a65c_isEmpty_aae02 E l (ax 1) mo ad ln PL pf _ hw) (pcV (n := 0) hta tw_428 tw_425 tw_4 tw_426 tw_427 rfl rfl hd_Jx4a65c_isEmpty_aae02 ⟨Nat.le_of_ble_eq_true rfl, Nat.le_of_ble_eq_true rfl⟩) ⟨fbR, va_recv hKE.1 hP (ci := 0) (q0 := 1) rfl rfl, fun U hU hW => ⟨rfl, preR.mk hPc hKE hU hW⟩⟩ rfl rfl hl.1 rfl (lv_room (Nat.le_of_ble_eq_true rfl)) dX2_firstCommand_4 ⟨Nat.le_of_ble_eq_true rfl, Nat.le_of_ble_eq_true rfl⟩)) (fun r_39 hw => ?_)
  refine lv_if_eq (tgt := 14) hx hb dX2_firstCommand_7 (by decide) (fun c_40 => ?_) (fun c_40 => ?_)
  · have hw := hw.1 c_40
    refine lv_aload_n hx hb dX2_firstCommand_14 rfl (lv_at hl 0 rfl) ?_
    refine va_get (D := eD E) (ci := 3) (v := .ref (ax 1)) (C := RX2) (T := TX2) (N := 19) hx hb hta lay_X2 hown hKE.1 hP 0 rfl rfl 0 (by decide) (hta _ tw_67) (fun _ h9 => h9) rfl dX2_firstCommand_15 ?_
    refine lv_iconst (v := 0) hx hb dX2_firstCommand_18 (by decide) ?_
    have hPc : va_P (eD E) vwCl ([((ax 1), .inr (0, [.int mo, .ref ad, .int ln]))] ++ va_pl PL pf) s.heap := hP.part [1] rfl
    refine va_csq (va_Run.run (va_runV (As := [.int 0]) (rest := []) ⟨hx, hb, hml, hown, hta⟩ (c_Jx4a65c_get_915e3 E l (ax 1) mo ad ln PL pf 0 _ hw) (pcV (n := 1) hta tw_432 tw_429 tw_4 tw_430 tw_431 rfl rfl hd_Jx4a65c_get_915e3 ⟨Nat.le_of_ble_eq_true rfl, Nat.le_of_ble_eq_true rfl⟩) ⟨fbR, va_recv hKE.1 hP (ci := 0) (q0 := 1) rfl rfl, fun U hU hW => ⟨rfl, preR.mk hPc hKE hU hW⟩⟩ rfl rfl hl.1 rfl (lv_room (Nat.le_of_ble_eq_true rfl)) dX2_firstCommand_19 ⟨Nat.le_of_ble_eq_true rfl, Nat.le_of_ble_eq_true rfl⟩)) (fun r_41 hw => ?_)
    rcases r_41 with _ | y_42
    · have hw := hw.1 rfl
      refine lv_castN hx hb dX2_firstCommand_22 ?_
      exact W.aret (v := .null) hx hb hr (Or.inl ⟨_, rfl⟩) (Or.inl rfl) (fun t ht hW => ⟨none, rfl, hw, ht⟩) (fun q hq => nomatch hq) dX2_firstCommand_25
    · have hw := hw.2 y_42 rfl
      obtain ⟨ckz_43, cxz_43, cyz_43, cpz_43, hyz_43, hfz_43, hw⟩ := hw
      obtain ⟨i_44, hi_44⟩ := va_pl_get (X := [((ax 0), .inr (3, [.ref (ax 1), .ref (ax 2), .ref (ax 4), .ref (ax 6), .int (gx 4), .int (gx 5), .int (gx 6), .int (gx 7), va_rf lt, .int (gx 9), .int (gx 10), .int (gx 11), .int (gx 12), .int (gx 13), .int (gx 14), .int (gx 15), .int (gx 16), .int (gx 17), .int (gx 18)])), ((ax 1), .inr (0, [.int mo, .ref ad, .int ln])), ((ax 2), .inr (2, [.ref (ax 3), .int pk])), ((ax 3), .inl (eC E 1, 157, .inr (.inl pw))), ((ax 4), .inr (2, [.ref (ax 5), .int lk])), ((ax 5), .inl (eC E 1, 157, .inr (.inl lw))), ((ax 6), .inl (eC E 0, 3, .inl ik))]) (f := pf) hyz_43
      rw [hfz_43] at hi_44
      refine va_castS hx hb hown (hta _ tw_383) (hKE.1.1 1 (RX0, TX0, 4) rfl).2 (va_recv hKE.1 hP (ci := 1) (q0 := i_44) rfl hi_44) dX2_firstCommand_22 ?_
      exact W.aret (v := .ref y_42) hx hb hr (Or.inl ⟨_, rfl⟩) (Or.inr ⟨_, rfl⟩) (fun t ht hW => ⟨(some y_42), rfl, hw, ht⟩) (fun q hq => nomatch hq) dX2_firstCommand_25
  · have hw := hw.2 c_40
    refine lv_null hx hb dX2_firstCommand_10 ?_
    refine lv_goto (tgt := 25) hx hb dX2_firstCommand_11 (by decide) ?_
    exact W.aret (v := .null) hx hb hr (Or.inl ⟨_, rfl⟩) (Or.inl rfl) (fun t ht hW => ⟨none, rfl, hw, ht⟩) (fun q hq => nomatch hq) dX2_firstCommand_25
def wp_X2_inkOf (E : EV) (post : Int32 → Prop) (gx : Nat → Int32) (lt : Option Nat) (mo : Int32) (ad : Nat) (ln : Int32) (PL : List Nat) (pf : Nat → va_E) (pw : Nat → Int64) (pk : Int32) (lw : Nat → Int64) (lk : Int32) (ik : Nat → Int32) (p0 : Int32) : Prop := ((p0 < 0 → post 0) ∧ (¬ (p0 < 0) → ((3 ≤ p0 → post 0) ∧ (¬ (3 ≤ p0) → (vp_in p0 3 ∧ post (ik p0.toNatClampNeg))))))
set_option maxHeartbeats 4000000 in
set_option maxRecDepth 100000 in
theorem c_X2_inkOf (E : EV) (l : Launch) (ax : Nat → Nat) (gx : Nat → Int32) (lt : Option Nat) (mo : Int32) (ad : Nat) (ln : Int32) (PL : List Nat) (pf : Nat → va_E) (pw : Nat → Int64) (pk : Int32) (lw : Nat → Int64) (lk : Int32) (ik : Nat → Int32) (p0 : Int32) (post : Int32 → Prop) (hw : wp_X2_inkOf E post gx lt mo ad ln PL pf pw pk lw lk ik p0) : Met l yX2_inkOf (Cond.code yX2_inkOf cX2_inkOf 2 (some .int) :: ALLW) ({ frames := 0, cells := 0, slots := 0, locals := 0 } : Room) (va_Pc [.ref (ax 0), .int p0] (preR E (wX E ax gx lt mo ad ln PL pf pw pk lw lk ik))) (vp_Si post) 0 0 (fun _ => False) := by
  refine Met.ofW (cc := cX2_inkOf) (maxL := 2) (ret := (some .int)) (by decide) rfl ?_
  intro p e s m args below meth c s₁ B hml hv
  obtain ⟨rfl, hpre⟩ := hv
  have hx := B.exec
  have hb := B.bytes
  have hr := B.returns
  have hlocks := B.notSynchronized
  have hts := atoms_spec (ws := (Cond.code yX2_inkOf cX2_inkOf 2 (some .int) :: ALLW)) B.pre
  have hta : ∀ w ∈ ALLW, w.before ([.ref (ax 0), .int p0] : List Value).toArray s = true := fun w h => hts w (List.mem_cons_of_mem _ h)
  have hown : s.vm.findClass RX2 = some m.cls := findClass_of_methodNamed B.named
  obtain ⟨hP, hKE⟩ := hpre
  have hP : va_P (eD E) vwCl ([((ax 0), .inr (3, [.ref (ax 1), .ref (ax 2), .ref (ax 4), .ref (ax 6), .int (gx 4), .int (gx 5), .int (gx 6), .int (gx 7), va_rf lt, .int (gx 9), .int (gx 10), .int (gx 11), .int (gx 12), .int (gx 13), .int (gx 14), .int (gx 15), .int (gx 16), .int (gx 17), .int (gx 18)])), ((ax 1), .inr (0, [.int mo, .ref ad, .int ln])), ((ax 2), .inr (2, [.ref (ax 3), .int pk])), ((ax 3), .inl (eC E 1, 157, .inr (.inl pw))), ((ax 4), .inr (2, [.ref (ax 5), .int lk])), ((ax 5), .inl (eC E 1, 157, .inr (.inl lw))), ((ax 6), .inl (eC E 0, 3, .inl ik))] ++ va_pl PL pf) s.heap := hP
  have hl := lv_entry ([.ref (ax 0), .int p0]) (n := 2) (Nat.le_of_ble_eq_true rfl)
  rw [lg_entry_eq]
  generalize (lg_sl ([.ref (ax 0), .int p0]) ++ List.replicate (2 - (lg_sl ([.ref (ax 0), .int p0])).length) Slot.unset).toArray = ls at hl ⊢
  have hl : lv_has ls 2 [(0, .ref (ax 0)), (1, .int p0)] := hl
  unfold wp_X2_inkOf at hw
  refine lv_iload_n hx hb dX2_inkOf_0 rfl (lv_at hl 1 rfl) ?_
  refine lv_if_lt (tgt := 22) hx hb dX2_inkOf_1 (by decide) (fun c_45 => ?_) (fun c_45 => ?_)
  · have hw := hw.1 c_45
    refine lv_iconst (v := 0) hx hb dX2_inkOf_22 (by decide) ?_
    exact W.iret (v := 0) hx hb hr (fun t ht hW => ⟨0, rfl, hw, ht⟩) (fun q hq => nomatch hq) dX2_inkOf_23
  · have hw := hw.2 c_45
    refine lv_iload_n hx hb dX2_inkOf_4 rfl (lv_at hl 1 rfl) ?_
    refine lv_aload_n hx hb dX2_inkOf_5 rfl (lv_at hl 0 rfl) ?_
    refine va_get (D := eD E) (ci := 3) (v := .ref (ax 6)) (C := RX2) (T := TX2) (N := 19) hx hb hta lay_X2 hown hKE.1 hP 0 rfl rfl 3 (by decide) (hta _ tw_70) (fun _ h9 => h9) rfl dX2_inkOf_6 ?_
    refine va_alen hx hb hKE.1 hP 6 0 rfl rfl (v := 3) (by show Int32.ofNat 3 = 3; decide) dX2_inkOf_9 ?_
    refine lv_icmp_ge (tgt := 22) hx hb dX2_inkOf_10 (by decide) (fun c_46 => ?_) (fun c_46 => ?_)
    · have hw := hw.1 c_46
      refine lv_iconst (v := 0) hx hb dX2_inkOf_22 (by decide) ?_
      exact W.iret (v := 0) hx hb hr (fun t ht hW => ⟨0, rfl, hw, ht⟩) (fun q hq => nomatch hq) dX2_inkOf_23
    · have hw := hw.2 c_46
      refine lv_aload_n hx hb dX2_inkOf_13 rfl (lv_at hl 0 rfl) ?_
      refine va_get (D := eD E) (ci := 3) (v := .ref (ax 6)) (C := RX2) (T := TX2) (N := 19) hx hb hta lay_X2 hown hKE.1 hP 0 rfl rfl 3 (by decide) (hta _ tw_70) (fun _ h9 => h9) rfl dX2_inkOf_14 ?_
      refine lv_iload_n hx hb dX2_inkOf_17 rfl (lv_at hl 1 rfl) ?_
      obtain ⟨hi_47, hw⟩ := hw
      refine va_iald hx hb hKE.1 hP 6 0 rfl rfl hi_47 dX2_inkOf_18 ?_
      refine lv_goto (tgt := 23) hx hb dX2_inkOf_19 (by decide) ?_
      exact W.iret (v := (ik p0.toNatClampNeg)) hx hb hr (fun t ht hW => ⟨(ik p0.toNatClampNeg), rfl, hw, ht⟩) (fun q hq => nomatch hq) dX2_inkOf_23
def wp_X2_lacksInk (E : EV) (post : Int32 → Prop) (gx : Nat → Int32) (lt : Option Nat) (mo : Int32) (ad : Nat) (ln : Int32) (PL : List Nat) (pf : Nat → va_E) (pw : Nat → Int64) (pk : Int32) (lw : Nat → Int64) (lk : Int32) (ik : Nat → Int32) (cm : Nat) : Prop := (∃ ckz_48 cxz_48 cyz_48 cpz_48 : Int32, cm ∈ PL ∧ pf cm = .inr (1, [.int ckz_48, .int cxz_48, .int cyz_48, .int cpz_48]) ∧ (wp_X0_draws E (fun r_50 : Int32 => ((r_50 = 0 → post 0) ∧ (¬ (r_50 = 0) → (((gx 15) = 0 → post 0) ∧ (¬ (gx 15) = 0 → (wp_X2_inkOf E (fun r_53 : Int32 => ((r_53 = 0 → post 1) ∧ (¬ (r_53 = 0) → post 0))) gx lt mo ad ln PL pf pw pk lw lk ik (gx 16))))))) ckz_48 cxz_48 cyz_48 cpz_48))
set_option maxHeartbeats 4000000 in
set_option maxRecDepth 100000 in
theorem c_X2_lacksInk (E : EV) (l : Launch) (ax : Nat → Nat) (gx : Nat → Int32) (lt : Option Nat) (mo : Int32) (ad : Nat) (ln : Int32) (PL : List Nat) (pf : Nat → va_E) (pw : Nat → Int64) (pk : Int32) (lw : Nat → Int64) (lk : Int32) (ik : Nat → Int32) (cm : Nat) (post : Int32 → Prop) (hw : wp_X2_lacksInk E post gx lt mo ad ln PL pf pw pk lw lk ik cm) : Met l yX2_lacksInk (Cond.code yX2_lacksInk cX2_lacksInk 2 (some .boolean) :: ALLW) ({ frames := 1, cells := 0, slots := 0, locals := 21 } : Room) (va_Pc [.ref (ax 0), .ref cm] (preR E (wX E ax gx lt mo ad ln PL pf pw pk lw lk ik))) (vp_Si post) 0 0 (fun _ => False) := by
  refine Met.ofW (cc := cX2_lacksInk) (maxL := 2) (ret := (some .boolean)) (by decide) rfl ?_
  intro p e s m args below meth c s₁ B hml hv
  obtain ⟨rfl, hpre⟩ := hv
  have hx := B.exec
  have hb := B.bytes
  have hr := B.returns
  have hlocks := B.notSynchronized
  have hts := atoms_spec (ws := (Cond.code yX2_lacksInk cX2_lacksInk 2 (some .boolean) :: ALLW)) B.pre
  have hta : ∀ w ∈ ALLW, w.before ([.ref (ax 0), .ref cm] : List Value).toArray s = true := fun w h => hts w (List.mem_cons_of_mem _ h)
  have hown : s.vm.findClass RX2 = some m.cls := findClass_of_methodNamed B.named
  obtain ⟨hP, hKE⟩ := hpre
  have hP : va_P (eD E) vwCl ([((ax 0), .inr (3, [.ref (ax 1), .ref (ax 2), .ref (ax 4), .ref (ax 6), .int (gx 4), .int (gx 5), .int (gx 6), .int (gx 7), va_rf lt, .int (gx 9), .int (gx 10), .int (gx 11), .int (gx 12), .int (gx 13), .int (gx 14), .int (gx 15), .int (gx 16), .int (gx 17), .int (gx 18)])), ((ax 1), .inr (0, [.int mo, .ref ad, .int ln])), ((ax 2), .inr (2, [.ref (ax 3), .int pk])), ((ax 3), .inl (eC E 1, 157, .inr (.inl pw))), ((ax 4), .inr (2, [.ref (ax 5), .int lk])), ((ax 5), .inl (eC E 1, 157, .inr (.inl lw))), ((ax 6), .inl (eC E 0, 3, .inl ik))] ++ va_pl PL pf) s.heap := hP
  have hl := lv_entry ([.ref (ax 0), .ref cm]) (n := 2) (Nat.le_of_ble_eq_true rfl)
  rw [lg_entry_eq]
  generalize (lg_sl ([.ref (ax 0), .ref cm]) ++ List.replicate (2 - (lg_sl ([.ref (ax 0), .ref cm])).length) Slot.unset).toArray = ls at hl ⊢
  have hl : lv_has ls 2 [(0, .ref (ax 0)), (1, .ref cm)] := hl
  unfold wp_X2_lacksInk at hw
  refine lv_aload_n hx hb dX2_lacksInk_0 rfl (lv_at hl 1 rfl) ?_
  obtain ⟨ckz_48, cxz_48, cyz_48, cpz_48, hyz_48, hfz_48, hw⟩ := hw
  obtain ⟨i_49, hi_49⟩ := va_pl_get (X := [((ax 0), .inr (3, [.ref (ax 1), .ref (ax 2), .ref (ax 4), .ref (ax 6), .int (gx 4), .int (gx 5), .int (gx 6), .int (gx 7), va_rf lt, .int (gx 9), .int (gx 10), .int (gx 11), .int (gx 12), .int (gx 13), .int (gx 14), .int (gx 15), .int (gx 16), .int (gx 17), .int (gx 18)])), ((ax 1), .inr (0, [.int mo, .ref ad, .int ln])), ((ax 2), .inr (2, [.ref (ax 3), .int pk])), ((ax 3), .inl (eC E 1, 157, .inr (.inl pw))), ((ax 4), .inr (2, [.ref (ax 5), .int lk])), ((ax 5), .inl (eC E 1, 157, .inr (.inl lw))), ((ax 6), .inl (eC E 0, 3, .inl ik))]) (f := pf) hyz_48
  rw [hfz_48] at hi_49
  have hPc : va_P (eD E) vwCl [(cm, .inr (1, [.int ckz_48, .int cxz_48, .int cyz_48, .int cpz_48]))] s.heap := va_one hP hi_49
  refine vp_callSi (va_Run.run (va_runVN (As := []) (rest := []) ⟨hx, hb, hml, hown, hta⟩ (c_X0_draws E l cm ckz_48 cxz_48 cyz_48 cpz_48 _ hw) (pcVN (n := 0) hta tw_299 (hKE.2.1 _ (List.mem_of_getElem? (i := 3) rfl)) tw_17 tw_298 tp_9 rfl rfl hd_X0_draws ⟨Nat.le_of_ble_eq_true rfl, Nat.le_of_ble_eq_true rfl⟩) ⟨fbR, va_recv hKE.1 hP (ci := 1) (q0 := i_49) rfl hi_49, fun U hU hW => ⟨rfl, preR.mk hPc hKE hU hW⟩⟩ rfl rfl hl.1 rfl (lv_room (Nat.le_of_ble_eq_true rfl)) dX2_lacksInk_1 ⟨Nat.le_of_ble_eq_true rfl, Nat.le_of_ble_eq_true rfl⟩)) (fun r_50 hw => ?_)
  refine lv_if_eq (tgt := 29) hx hb dX2_lacksInk_4 (by decide) (fun c_51 => ?_) (fun c_51 => ?_)
  · have hw := hw.1 c_51
    refine lv_iconst (v := 0) hx hb dX2_lacksInk_29 (by decide) ?_
    exact W.zret (v := 0) hx hb hr rfl (fun t ht hW => ⟨0, rfl, hw, ht⟩) (fun q hq => nomatch hq) dX2_lacksInk_30
  · have hw := hw.2 c_51
    refine lv_aload_n hx hb dX2_lacksInk_7 rfl (lv_at hl 0 rfl) ?_
    refine va_get (D := eD E) (ci := 3) (v := .int (gx 15)) (C := RX2) (T := TX2) (N := 19) hx hb hta lay_X2 hown hKE.1 hP 0 rfl rfl 15 (by decide) (hta _ tw_82) (fun _ h9 => h9) rfl dX2_lacksInk_8 ?_
    refine lv_if_eq (tgt := 29) hx hb dX2_lacksInk_11 (by decide) (fun c_52 => ?_) (fun c_52 => ?_)
    · have hw := hw.1 c_52
      refine lv_iconst (v := 0) hx hb dX2_lacksInk_29 (by decide) ?_
      exact W.zret (v := 0) hx hb hr rfl (fun t ht hW => ⟨0, rfl, hw, ht⟩) (fun q hq => nomatch hq) dX2_lacksInk_30
    · have hw := hw.2 c_52
      refine lv_aload_n hx hb dX2_lacksInk_14 rfl (lv_at hl 0 rfl) ?_
      refine lv_aload_n hx hb dX2_lacksInk_15 rfl (lv_at hl 0 rfl) ?_
      refine va_get (D := eD E) (ci := 3) (v := .int (gx 16)) (C := RX2) (T := TX2) (N := 19) hx hb hta lay_X2 hown hKE.1 hP 0 rfl rfl 16 (by decide) (hta _ tw_83) (fun _ h9 => h9) rfl dX2_lacksInk_16 ?_
      have hPc : va_P (eD E) vwCl (wX E ax gx lt mo ad ln PL pf pw pk lw lk ik) s.heap := hP
      refine vp_callSi (va_Run.run (va_runV (As := [.int (gx 16)]) (rest := []) ⟨hx, hb, hml, hown, hta⟩ (c_X2_inkOf E l ax gx lt mo ad ln PL pf pw pk lw lk ik (gx 16) _ hw) (pcV (n := 1) hta tw_215 tw_212 tw_1 tw_214 tp_1 rfl rfl hd_X2_inkOf ⟨Nat.le_of_ble_eq_true rfl, Nat.le_of_ble_eq_true rfl⟩) ⟨fbR, va_recv hKE.1 hP (ci := 3) (q0 := 0) rfl rfl, fun U hU hW => ⟨rfl, preR.mk hPc hKE hU hW⟩⟩ rfl rfl hl.1 rfl (lv_room (Nat.le_of_ble_eq_true rfl)) dX2_lacksInk_19 ⟨Nat.le_of_ble_eq_true rfl, Nat.le_of_ble_eq_true rfl⟩)) (fun r_53 hw => ?_)
      refine lv_if_ne (tgt := 29) hx hb dX2_lacksInk_22 (by decide) (fun c_54 => ?_) (fun c_54 => ?_)
      · have hw := hw.2 c_54
        refine lv_iconst (v := 0) hx hb dX2_lacksInk_29 (by decide) ?_
        exact W.zret (v := 0) hx hb hr rfl (fun t ht hW => ⟨0, rfl, hw, ht⟩) (fun q hq => nomatch hq) dX2_lacksInk_30
      · have hw := hw.1 c_54
        refine lv_iconst (v := 1) hx hb dX2_lacksInk_25 (by decide) ?_
        refine lv_goto (tgt := 30) hx hb dX2_lacksInk_26 (by decide) ?_
        exact W.zret (v := 1) hx hb hr rfl (fun t ht hW => ⟨1, rfl, hw, ht⟩) (fun q hq => nomatch hq) dX2_lacksInk_30
def wp_X2_carriageX (E : EV) (post : Int32 → Prop) (gx : Nat → Int32) (lt : Option Nat) (mo : Int32) (ad : Nat) (ln : Int32) (PL : List Nat) (pf : Nat → va_E) (pw : Nat → Int64) (pk : Int32) (lw : Nat → Int64) (lk : Int32) (ik : Nat → Int32) : Prop := (wp_X2_firstCommand E (fun r_55 : Option Nat => ((r_55 = none → post (gx 11)) ∧ (∀ y_56 : Nat, r_55 = some y_56 → (∃ ckz_57 cxz_57 cyz_57 cpz_57 : Int32, y_56 ∈ PL ∧ pf y_56 = .inr (1, [.int ckz_57, .int cxz_57, .int cyz_57, .int cpz_57]) ∧ (wp_X0_wayX E (fun r_59 : Int32 => post ((gx 11) + r_59)) ckz_57 cxz_57 cyz_57 cpz_57 (gx 13)))))) gx lt mo ad ln PL pf pw pk lw lk ik)
set_option maxHeartbeats 4000000 in
set_option maxRecDepth 100000 in
theorem c_X2_carriageX (E : EV) (l : Launch) (ax : Nat → Nat) (gx : Nat → Int32) (lt : Option Nat) (mo : Int32) (ad : Nat) (ln : Int32) (PL : List Nat) (pf : Nat → va_E) (pw : Nat → Int64) (pk : Int32) (lw : Nat → Int64) (lk : Int32) (ik : Nat → Int32) (post : Int32 → Prop) (hw : wp_X2_carriageX E post gx lt mo ad ln PL pf pw pk lw lk ik) : Met l yX2_carriageX (Cond.code yX2_carriageX cX2_carriageX 2 (some .int) :: ALLW) ({ frames := 4, cells := 0, slots := 0, locals := 84 } : Room) (va_Pc [.ref (ax 0)] (preR E (wX E ax gx lt mo ad ln PL pf pw pk lw lk ik))) (vp_Si post) 0 0 (fun _ => False) := by
  refine Met.ofW (cc := cX2_carriageX) (maxL := 2) (ret := (some .int)) (by decide) rfl ?_
  intro p e s m args below meth c s₁ B hml hv
  obtain ⟨rfl, hpre⟩ := hv
  have hx := B.exec
  have hb := B.bytes
  have hr := B.returns
  have hlocks := B.notSynchronized
  have hts := atoms_spec (ws := (Cond.code yX2_carriageX cX2_carriageX 2 (some .int) :: ALLW)) B.pre
  have hta : ∀ w ∈ ALLW, w.before ([.ref (ax 0)] : List Value).toArray s = true := fun w h => hts w (List.mem_cons_of_mem _ h)
  have hown : s.vm.findClass RX2 = some m.cls := findClass_of_methodNamed B.named
  obtain ⟨hP, hKE⟩ := hpre
  have hP : va_P (eD E) vwCl ([((ax 0), .inr (3, [.ref (ax 1), .ref (ax 2), .ref (ax 4), .ref (ax 6), .int (gx 4), .int (gx 5), .int (gx 6), .int (gx 7), va_rf lt, .int (gx 9), .int (gx 10), .int (gx 11), .int (gx 12), .int (gx 13), .int (gx 14), .int (gx 15), .int (gx 16), .int (gx 17), .int (gx 18)])), ((ax 1), .inr (0, [.int mo, .ref ad, .int ln])), ((ax 2), .inr (2, [.ref (ax 3), .int pk])), ((ax 3), .inl (eC E 1, 157, .inr (.inl pw))), ((ax 4), .inr (2, [.ref (ax 5), .int lk])), ((ax 5), .inl (eC E 1, 157, .inr (.inl lw))), ((ax 6), .inl (eC E 0, 3, .inl ik))] ++ va_pl PL pf) s.heap := hP
  have hl := lv_entry ([.ref (ax 0)]) (n := 2) (Nat.le_of_ble_eq_true rfl)
  rw [lg_entry_eq]
  generalize (lg_sl ([.ref (ax 0)]) ++ List.replicate (2 - (lg_sl ([.ref (ax 0)])).length) Slot.unset).toArray = ls at hl ⊢
  have hl : lv_has ls 2 [(0, .ref (ax 0))] := hl
  unfold wp_X2_carriageX at hw
  refine lv_aload_n hx hb dX2_carriageX_0 rfl (lv_at hl 0 rfl) ?_
  have hPc : va_P (eD E) vwCl (wX E ax gx lt mo ad ln PL pf pw pk lw lk ik) s.heap := hP
  refine va_csq (va_Run.run (va_runV (As := []) (rest := []) ⟨hx, hb, hml, hown, hta⟩ (c_X2_firstCommand E l ax gx lt mo ad ln PL pf pw pk lw lk ik _ hw) (pcV (n := 0) hta tw_424 tw_421 tw_1 tw_423 tp_21 rfl rfl hd_X2_firstCommand ⟨Nat.le_of_ble_eq_true rfl, Nat.le_of_ble_eq_true rfl⟩) ⟨fbR, va_recv hKE.1 hP (ci := 3) (q0 := 0) rfl rfl, fun U hU hW => ⟨rfl, preR.mk hPc hKE hU hW⟩⟩ rfl rfl hl.1 rfl (lv_room (Nat.le_of_ble_eq_true rfl)) dX2_carriageX_1 ⟨Nat.le_of_ble_eq_true rfl, Nat.le_of_ble_eq_true rfl⟩)) (fun r_55 hw => ?_)
  rcases r_55 with _ | y_56
  · have hw := hw.1 rfl
    refine lv_astore_nN (lv' := [(1, .null), (0, .ref (ax 0))]) hx hb dX2_carriageX_4 rfl hl (by decide) rfl (fun ls hl => ?_)
    refine lv_aload_nN hx hb dX2_carriageX_5 rfl (lv_at hl 0 rfl) ?_
    refine lv_ifnonnullN hx hb dX2_carriageX_6 ?_
    refine lv_aload_n hx hb dX2_carriageX_9 rfl (lv_at hl 1 rfl) ?_
    refine va_get (D := eD E) (ci := 3) (v := .int (gx 11)) (C := RX2) (T := TX2) (N := 19) hx hb hta lay_X2 hown hKE.1 hP 0 rfl rfl 11 (by decide) (hta _ tw_78) (fun _ h9 => h9) rfl dX2_carriageX_10 ?_
    refine lv_goto (tgt := 29) hx hb dX2_carriageX_13 (by decide) ?_
    exact W.iret (v := (gx 11)) hx hb hr (fun t ht hW => ⟨(gx 11), rfl, hw, ht⟩) (fun q hq => nomatch hq) dX2_carriageX_29
  · have hw := hw.2 y_56 rfl
    refine lv_astore_n (lv' := [(1, .ref y_56), (0, .ref (ax 0))]) hx hb dX2_carriageX_4 rfl hl (by decide) rfl (fun ls hl => ?_)
    refine lv_aload_n hx hb dX2_carriageX_5 rfl (lv_at hl 0 rfl) ?_
    refine lv_ifnonnull (tgt := 16) hx hb dX2_carriageX_6 (by decide) ?_
    refine lv_aload_n hx hb dX2_carriageX_16 rfl (lv_at hl 1 rfl) ?_
    refine va_get (D := eD E) (ci := 3) (v := .int (gx 11)) (C := RX2) (T := TX2) (N := 19) hx hb hta lay_X2 hown hKE.1 hP 0 rfl rfl 11 (by decide) (hta _ tw_78) (fun _ h9 => h9) rfl dX2_carriageX_17 ?_
    refine lv_aload_n hx hb dX2_carriageX_20 rfl (lv_at hl 0 rfl) ?_
    refine lv_aload_n hx hb dX2_carriageX_21 rfl (lv_at hl 1 rfl) ?_
    refine va_get (D := eD E) (ci := 3) (v := .int (gx 13)) (C := RX2) (T := TX2) (N := 19) hx hb hta lay_X2 hown hKE.1 hP 0 rfl rfl 13 (by decide) (hta _ tw_80) (fun _ h9 => h9) rfl dX2_carriageX_22 ?_
    obtain ⟨ckz_57, cxz_57, cyz_57, cpz_57, hyz_57, hfz_57, hw⟩ := hw
    obtain ⟨i_58, hi_58⟩ := va_pl_get (X := [((ax 0), .inr (3, [.ref (ax 1), .ref (ax 2), .ref (ax 4), .ref (ax 6), .int (gx 4), .int (gx 5), .int (gx 6), .int (gx 7), va_rf lt, .int (gx 9), .int (gx 10), .int (gx 11), .int (gx 12), .int (gx 13), .int (gx 14), .int (gx 15), .int (gx 16), .int (gx 17), .int (gx 18)])), ((ax 1), .inr (0, [.int mo, .ref ad, .int ln])), ((ax 2), .inr (2, [.ref (ax 3), .int pk])), ((ax 3), .inl (eC E 1, 157, .inr (.inl pw))), ((ax 4), .inr (2, [.ref (ax 5), .int lk])), ((ax 5), .inl (eC E 1, 157, .inr (.inl lw))), ((ax 6), .inl (eC E 0, 3, .inl ik))]) (f := pf) hyz_57
    rw [hfz_57] at hi_58
    have hPc : va_P (eD E) vwCl [(y_56, .inr (1, [.int ckz_57, .int cxz_57, .int cyz_57, .int cpz_57]))] s.heap := va_one hP hi_58
    refine vp_callSi (va_Run.run (va_runVN (As := [.int (gx 13)]) (rest := [.int (gx 11)]) ⟨hx, hb, hml, hown, hta⟩ (c_X0_wayX E l y_56 ckz_57 cxz_57 cyz_57 cpz_57 (gx 13) _ hw) (pcVN (n := 1) hta tw_307 (hKE.2.1 _ (List.mem_of_getElem? (i := 4) rfl)) tw_17 tw_306 tp_11 rfl rfl hd_X0_wayX ⟨Nat.le_of_ble_eq_true rfl, Nat.le_of_ble_eq_true rfl⟩) ⟨fbR, va_recv hKE.1 hP (ci := 1) (q0 := i_58) rfl hi_58, fun U hU hW => ⟨rfl, preR.mk hPc hKE hU hW⟩⟩ rfl rfl hl.1 rfl (lv_room (Nat.le_of_ble_eq_true rfl)) dX2_carriageX_25 ⟨Nat.le_of_ble_eq_true rfl, Nat.le_of_ble_eq_true rfl⟩)) (fun r_59 hw => ?_)
    refine lv_iadd hx hb dX2_carriageX_28 ?_
    exact W.iret (v := ((gx 11) + r_59)) hx hb hr (fun t ht hW => ⟨((gx 11) + r_59), rfl, hw, ht⟩) (fun q hq => nomatch hq) dX2_carriageX_29
def wp_X2_carriageY (E : EV) (post : Int32 → Prop) (gx : Nat → Int32) (lt : Option Nat) (mo : Int32) (ad : Nat) (ln : Int32) (PL : List Nat) (pf : Nat → va_E) (pw : Nat → Int64) (pk : Int32) (lw : Nat → Int64) (lk : Int32) (ik : Nat → Int32) : Prop := (wp_X2_firstCommand E (fun r_60 : Option Nat => ((r_60 = none → post (gx 12)) ∧ (∀ y_61 : Nat, r_60 = some y_61 → (∃ ckz_62 cxz_62 cyz_62 cpz_62 : Int32, y_61 ∈ PL ∧ pf y_61 = .inr (1, [.int ckz_62, .int cxz_62, .int cyz_62, .int cpz_62]) ∧ (wp_X0_wayY E (fun r_64 : Int32 => post ((gx 12) + r_64)) ckz_62 cxz_62 cyz_62 cpz_62 (gx 13)))))) gx lt mo ad ln PL pf pw pk lw lk ik)
set_option maxHeartbeats 4000000 in
set_option maxRecDepth 100000 in
theorem c_X2_carriageY (E : EV) (l : Launch) (ax : Nat → Nat) (gx : Nat → Int32) (lt : Option Nat) (mo : Int32) (ad : Nat) (ln : Int32) (PL : List Nat) (pf : Nat → va_E) (pw : Nat → Int64) (pk : Int32) (lw : Nat → Int64) (lk : Int32) (ik : Nat → Int32) (post : Int32 → Prop) (hw : wp_X2_carriageY E post gx lt mo ad ln PL pf pw pk lw lk ik) : Met l yX2_carriageY (Cond.code yX2_carriageY cX2_carriageY 2 (some .int) :: ALLW) ({ frames := 4, cells := 0, slots := 0, locals := 84 } : Room) (va_Pc [.ref (ax 0)] (preR E (wX E ax gx lt mo ad ln PL pf pw pk lw lk ik))) (vp_Si post) 0 0 (fun _ => False) := by
  refine Met.ofW (cc := cX2_carriageY) (maxL := 2) (ret := (some .int)) (by decide) rfl ?_
  intro p e s m args below meth c s₁ B hml hv
  obtain ⟨rfl, hpre⟩ := hv
  have hx := B.exec
  have hb := B.bytes
  have hr := B.returns
  have hlocks := B.notSynchronized
  have hts := atoms_spec (ws := (Cond.code yX2_carriageY cX2_carriageY 2 (some .int) :: ALLW)) B.pre
  have hta : ∀ w ∈ ALLW, w.before ([.ref (ax 0)] : List Value).toArray s = true := fun w h => hts w (List.mem_cons_of_mem _ h)
  have hown : s.vm.findClass RX2 = some m.cls := findClass_of_methodNamed B.named
  obtain ⟨hP, hKE⟩ := hpre
  have hP : va_P (eD E) vwCl ([((ax 0), .inr (3, [.ref (ax 1), .ref (ax 2), .ref (ax 4), .ref (ax 6), .int (gx 4), .int (gx 5), .int (gx 6), .int (gx 7), va_rf lt, .int (gx 9), .int (gx 10), .int (gx 11), .int (gx 12), .int (gx 13), .int (gx 14), .int (gx 15), .int (gx 16), .int (gx 17), .int (gx 18)])), ((ax 1), .inr (0, [.int mo, .ref ad, .int ln])), ((ax 2), .inr (2, [.ref (ax 3), .int pk])), ((ax 3), .inl (eC E 1, 157, .inr (.inl pw))), ((ax 4), .inr (2, [.ref (ax 5), .int lk])), ((ax 5), .inl (eC E 1, 157, .inr (.inl lw))), ((ax 6), .inl (eC E 0, 3, .inl ik))] ++ va_pl PL pf) s.heap := hP
  have hl := lv_entry ([.ref (ax 0)]) (n := 2) (Nat.le_of_ble_eq_true rfl)
  rw [lg_entry_eq]
  generalize (lg_sl ([.ref (ax 0)]) ++ List.replicate (2 - (lg_sl ([.ref (ax 0)])).length) Slot.unset).toArray = ls at hl ⊢
  have hl : lv_has ls 2 [(0, .ref (ax 0))] := hl
  unfold wp_X2_carriageY at hw
  refine lv_aload_n hx hb dX2_carriageY_0 rfl (lv_at hl 0 rfl) ?_
  have hPc : va_P (eD E) vwCl (wX E ax gx lt mo ad ln PL pf pw pk lw lk ik) s.heap := hP
  refine va_csq (va_Run.run (va_runV (As := []) (rest := []) ⟨hx, hb, hml, hown, hta⟩ (c_X2_firstCommand E l ax gx lt mo ad ln PL pf pw pk lw lk ik _ hw) (pcV (n := 0) hta tw_424 tw_421 tw_1 tw_423 tp_21 rfl rfl hd_X2_firstCommand ⟨Nat.le_of_ble_eq_true rfl, Nat.le_of_ble_eq_true rfl⟩) ⟨fbR, va_recv hKE.1 hP (ci := 3) (q0 := 0) rfl rfl, fun U hU hW => ⟨rfl, preR.mk hPc hKE hU hW⟩⟩ rfl rfl hl.1 rfl (lv_room (Nat.le_of_ble_eq_true rfl)) dX2_carriageY_1 ⟨Nat.le_of_ble_eq_true rfl, Nat.le_of_ble_eq_true rfl⟩)) (fun r_60 hw => ?_)
  rcases r_60 with _ | y_61
  · have hw := hw.1 rfl
    refine lv_astore_nN (lv' := [(1, .null), (0, .ref (ax 0))]) hx hb dX2_carriageY_4 rfl hl (by decide) rfl (fun ls hl => ?_)
    refine lv_aload_nN hx hb dX2_carriageY_5 rfl (lv_at hl 0 rfl) ?_
    refine lv_ifnonnullN hx hb dX2_carriageY_6 ?_
    refine lv_aload_n hx hb dX2_carriageY_9 rfl (lv_at hl 1 rfl) ?_
    refine va_get (D := eD E) (ci := 3) (v := .int (gx 12)) (C := RX2) (T := TX2) (N := 19) hx hb hta lay_X2 hown hKE.1 hP 0 rfl rfl 12 (by decide) (hta _ tw_79) (fun _ h9 => h9) rfl dX2_carriageY_10 ?_
    refine lv_goto (tgt := 29) hx hb dX2_carriageY_13 (by decide) ?_
    exact W.iret (v := (gx 12)) hx hb hr (fun t ht hW => ⟨(gx 12), rfl, hw, ht⟩) (fun q hq => nomatch hq) dX2_carriageY_29
  · have hw := hw.2 y_61 rfl
    refine lv_astore_n (lv' := [(1, .ref y_61), (0, .ref (ax 0))]) hx hb dX2_carriageY_4 rfl hl (by decide) rfl (fun ls hl => ?_)
    refine lv_aload_n hx hb dX2_carriageY_5 rfl (lv_at hl 0 rfl) ?_
    refine lv_ifnonnull (tgt := 16) hx hb dX2_carriageY_6 (by decide) ?_
    refine lv_aload_n hx hb dX2_carriageY_16 rfl (lv_at hl 1 rfl) ?_
    refine va_get (D := eD E) (ci := 3) (v := .int (gx 12)) (C := RX2) (T := TX2) (N := 19) hx hb hta lay_X2 hown hKE.1 hP 0 rfl rfl 12 (by decide) (hta _ tw_79) (fun _ h9 => h9) rfl dX2_carriageY_17 ?_
    refine lv_aload_n hx hb dX2_carriageY_20 rfl (lv_at hl 0 rfl) ?_
    refine lv_aload_n hx hb dX2_carriageY_21 rfl (lv_at hl 1 rfl) ?_
    refine va_get (D := eD E) (ci := 3) (v := .int (gx 13)) (C := RX2) (T := TX2) (N := 19) hx hb hta lay_X2 hown hKE.1 hP 0 rfl rfl 13 (by decide) (hta _ tw_80) (fun _ h9 => h9) rfl dX2_carriageY_22 ?_
    obtain ⟨ckz_62, cxz_62, cyz_62, cpz_62, hyz_62, hfz_62, hw⟩ := hw
    obtain ⟨i_63, hi_63⟩ := va_pl_get (X := [((ax 0), .inr (3, [.ref (ax 1), .ref (ax 2), .ref (ax 4), .ref (ax 6), .int (gx 4), .int (gx 5), .int (gx 6), .int (gx 7), va_rf lt, .int (gx 9), .int (gx 10), .int (gx 11), .int (gx 12), .int (gx 13), .int (gx 14), .int (gx 15), .int (gx 16), .int (gx 17), .int (gx 18)])), ((ax 1), .inr (0, [.int mo, .ref ad, .int ln])), ((ax 2), .inr (2, [.ref (ax 3), .int pk])), ((ax 3), .inl (eC E 1, 157, .inr (.inl pw))), ((ax 4), .inr (2, [.ref (ax 5), .int lk])), ((ax 5), .inl (eC E 1, 157, .inr (.inl lw))), ((ax 6), .inl (eC E 0, 3, .inl ik))]) (f := pf) hyz_62
    rw [hfz_62] at hi_63
    have hPc : va_P (eD E) vwCl [(y_61, .inr (1, [.int ckz_62, .int cxz_62, .int cyz_62, .int cpz_62]))] s.heap := va_one hP hi_63
    refine vp_callSi (va_Run.run (va_runVN (As := [.int (gx 13)]) (rest := [.int (gx 12)]) ⟨hx, hb, hml, hown, hta⟩ (c_X0_wayY E l y_61 ckz_62 cxz_62 cyz_62 cpz_62 (gx 13) _ hw) (pcVN (n := 1) hta tw_316 (hKE.2.1 _ (List.mem_of_getElem? (i := 5) rfl)) tw_17 tw_315 tp_13 rfl rfl hd_X0_wayY ⟨Nat.le_of_ble_eq_true rfl, Nat.le_of_ble_eq_true rfl⟩) ⟨fbR, va_recv hKE.1 hP (ci := 1) (q0 := i_63) rfl hi_63, fun U hU hW => ⟨rfl, preR.mk hPc hKE hU hW⟩⟩ rfl rfl hl.1 rfl (lv_room (Nat.le_of_ble_eq_true rfl)) dX2_carriageY_25 ⟨Nat.le_of_ble_eq_true rfl, Nat.le_of_ble_eq_true rfl⟩)) (fun r_64 hw => ?_)
    refine lv_iadd hx hb dX2_carriageY_28 ?_
    exact W.iret (v := ((gx 12) + r_64)) hx hb hr (fun t ht hW => ⟨((gx 12) + r_64), rfl, hw, ht⟩) (fun q hq => nomatch hq) dX2_carriageY_29
def wp_X2_at (E : EV) (post : Int32 → Prop) (gx : Nat → Int32) (lt : Option Nat) (mo : Int32) (ad : Nat) (ln : Int32) (PL : List Nat) (pf : Nat → va_E) (pw : Nat → Int64) (pk : Int32) (lw : Nat → Int64) (lk : Int32) (ik : Nat → Int32) : Prop := (wp_X2_carriageY E (fun r_65 : Int32 => (wp_X2_carriageX E (fun r_66 : Int32 => post ((100 * r_65) + r_66)) gx lt mo ad ln PL pf pw pk lw lk ik)) gx lt mo ad ln PL pf pw pk lw lk ik)
set_option maxHeartbeats 4000000 in
set_option maxRecDepth 100000 in
theorem c_X2_at (E : EV) (l : Launch) (ax : Nat → Nat) (gx : Nat → Int32) (lt : Option Nat) (mo : Int32) (ad : Nat) (ln : Int32) (PL : List Nat) (pf : Nat → va_E) (pw : Nat → Int64) (pk : Int32) (lw : Nat → Int64) (lk : Int32) (ik : Nat → Int32) (post : Int32 → Prop) (hw : wp_X2_at E post gx lt mo ad ln PL pf pw pk lw lk ik) : Met l yX2_at (Cond.code yX2_at cX2_at 1 (some .int) :: ALLW) ({ frames := 5, cells := 0, slots := 0, locals := 105 } : Room) (va_Pc [.ref (ax 0)] (preR E (wX E ax gx lt mo ad ln PL pf pw pk lw lk ik))) (vp_Si post) 0 0 (fun _ => False) := by
  refine Met.ofW (cc := cX2_at) (maxL := 1) (ret := (some .int)) (by decide) rfl ?_
  intro p e s m args below meth c s₁ B hml hv
  obtain ⟨rfl, hpre⟩ := hv
  have hx := B.exec
  have hb := B.bytes
  have hr := B.returns
  have hlocks := B.notSynchronized
  have hts := atoms_spec (ws := (Cond.code yX2_at cX2_at 1 (some .int) :: ALLW)) B.pre
  have hta : ∀ w ∈ ALLW, w.before ([.ref (ax 0)] : List Value).toArray s = true := fun w h => hts w (List.mem_cons_of_mem _ h)
  have hown : s.vm.findClass RX2 = some m.cls := findClass_of_methodNamed B.named
  obtain ⟨hP, hKE⟩ := hpre
  have hP : va_P (eD E) vwCl ([((ax 0), .inr (3, [.ref (ax 1), .ref (ax 2), .ref (ax 4), .ref (ax 6), .int (gx 4), .int (gx 5), .int (gx 6), .int (gx 7), va_rf lt, .int (gx 9), .int (gx 10), .int (gx 11), .int (gx 12), .int (gx 13), .int (gx 14), .int (gx 15), .int (gx 16), .int (gx 17), .int (gx 18)])), ((ax 1), .inr (0, [.int mo, .ref ad, .int ln])), ((ax 2), .inr (2, [.ref (ax 3), .int pk])), ((ax 3), .inl (eC E 1, 157, .inr (.inl pw))), ((ax 4), .inr (2, [.ref (ax 5), .int lk])), ((ax 5), .inl (eC E 1, 157, .inr (.inl lw))), ((ax 6), .inl (eC E 0, 3, .inl ik))] ++ va_pl PL pf) s.heap := hP
  have hl := lv_entry ([.ref (ax 0)]) (n := 1) (Nat.le_of_ble_eq_true rfl)
  rw [lg_entry_eq]
  generalize (lg_sl ([.ref (ax 0)]) ++ List.replicate (1 - (lg_sl ([.ref (ax 0)])).length) Slot.unset).toArray = ls at hl ⊢
  have hl : lv_has ls 1 [(0, .ref (ax 0))] := hl
  unfold wp_X2_at at hw
  refine lv_bipush (v := 100) hx hb dX2_at_0 (by decide) ?_
  refine lv_aload_n hx hb dX2_at_2 rfl (lv_at hl 0 rfl) ?_
  have hPc : va_P (eD E) vwCl (wX E ax gx lt mo ad ln PL pf pw pk lw lk ik) s.heap := hP
  refine vp_callSi (va_Run.run (va_runV (As := []) (rest := [.int 100]) ⟨hx, hb, hml, hown, hta⟩ (c_X2_carriageY E l ax gx lt mo ad ln PL pf pw pk lw lk ik _ hw) (pcV (n := 0) hta tw_462 tw_459 tw_1 tw_461 tp_26 rfl rfl hd_X2_carriageY ⟨Nat.le_of_ble_eq_true rfl, Nat.le_of_ble_eq_true rfl⟩) ⟨fbR, va_recv hKE.1 hP (ci := 3) (q0 := 0) rfl rfl, fun U hU hW => ⟨rfl, preR.mk hPc hKE hU hW⟩⟩ rfl rfl hl.1 rfl (lv_room (Nat.le_of_ble_eq_true rfl)) dX2_at_3 ⟨Nat.le_of_ble_eq_true rfl, Nat.le_of_ble_eq_true rfl⟩)) (fun r_65 hw => ?_)
  refine lv_imul hx hb dX2_at_6 ?_
  refine lv_aload_n hx hb dX2_at_7 rfl (lv_at hl 0 rfl) ?_
  have hPc : va_P (eD E) vwCl (wX E ax gx lt mo ad ln PL pf pw pk lw lk ik) s.heap := hP
  refine vp_callSi (va_Run.run (va_runV (As := []) (rest := [.int (100 * r_65)]) ⟨hx, hb, hml, hown, hta⟩ (c_X2_carriageX E l ax gx lt mo ad ln PL pf pw pk lw lk ik _ hw) (pcV (n := 0) hta tw_458 tw_455 tw_1 tw_457 tp_25 rfl rfl hd_X2_carriageX ⟨Nat.le_of_ble_eq_true rfl, Nat.le_of_ble_eq_true rfl⟩) ⟨fbR, va_recv hKE.1 hP (ci := 3) (q0 := 0) rfl rfl, fun U hU hW => ⟨rfl, preR.mk hPc hKE hU hW⟩⟩ rfl rfl hl.1 rfl (lv_room (Nat.le_of_ble_eq_true rfl)) dX2_at_8 ⟨Nat.le_of_ble_eq_true rfl, Nat.le_of_ble_eq_true rfl⟩)) (fun r_66 hw => ?_)
  refine lv_iadd hx hb dX2_at_11 ?_
  exact W.iret (v := ((100 * r_65) + r_66)) hx hb hr (fun t ht hW => ⟨((100 * r_65) + r_66), rfl, hw, ht⟩) (fun q hq => nomatch hq) dX2_at_12
def wp_X2_isDown (E : EV) (post : Int32 → Prop) (gx : Nat → Int32) (lt : Option Nat) (mo : Int32) (ad : Nat) (ln : Int32) (PL : List Nat) (pf : Nat → va_E) (pw : Nat → Int64) (pk : Int32) (lw : Nat → Int64) (lk : Int32) (ik : Nat → Int32) : Prop := (narrow .boolean (.int (gx 15)) = .int (gx 15) ∧ post (gx 15))
set_option maxHeartbeats 4000000 in
set_option maxRecDepth 100000 in
theorem c_X2_isDown (E : EV) (l : Launch) (ax : Nat → Nat) (gx : Nat → Int32) (lt : Option Nat) (mo : Int32) (ad : Nat) (ln : Int32) (PL : List Nat) (pf : Nat → va_E) (pw : Nat → Int64) (pk : Int32) (lw : Nat → Int64) (lk : Int32) (ik : Nat → Int32) (post : Int32 → Prop) (hw : wp_X2_isDown E post gx lt mo ad ln PL pf pw pk lw lk ik) : Met l yX2_isDown (Cond.code yX2_isDown cX2_isDown 1 (some .boolean) :: ALLW) ({ frames := 0, cells := 0, slots := 0, locals := 0 } : Room) (va_Pc [.ref (ax 0)] (preR E (wX E ax gx lt mo ad ln PL pf pw pk lw lk ik))) (vp_Si post) 0 0 (fun _ => False) := by
  refine Met.ofW (cc := cX2_isDown) (maxL := 1) (ret := (some .boolean)) (by decide) rfl ?_
  intro p e s m args below meth c s₁ B hml hv
  obtain ⟨rfl, hpre⟩ := hv
  have hx := B.exec
  have hb := B.bytes
  have hr := B.returns
  have hlocks := B.notSynchronized
  have hts := atoms_spec (ws := (Cond.code yX2_isDown cX2_isDown 1 (some .boolean) :: ALLW)) B.pre
  have hta : ∀ w ∈ ALLW, w.before ([.ref (ax 0)] : List Value).toArray s = true := fun w h => hts w (List.mem_cons_of_mem _ h)
  have hown : s.vm.findClass RX2 = some m.cls := findClass_of_methodNamed B.named
  obtain ⟨hP, hKE⟩ := hpre
  have hP : va_P (eD E) vwCl ([((ax 0), .inr (3, [.ref (ax 1), .ref (ax 2), .ref (ax 4), .ref (ax 6), .int (gx 4), .int (gx 5), .int (gx 6), .int (gx 7), va_rf lt, .int (gx 9), .int (gx 10), .int (gx 11), .int (gx 12), .int (gx 13), .int (gx 14), .int (gx 15), .int (gx 16), .int (gx 17), .int (gx 18)])), ((ax 1), .inr (0, [.int mo, .ref ad, .int ln])), ((ax 2), .inr (2, [.ref (ax 3), .int pk])), ((ax 3), .inl (eC E 1, 157, .inr (.inl pw))), ((ax 4), .inr (2, [.ref (ax 5), .int lk])), ((ax 5), .inl (eC E 1, 157, .inr (.inl lw))), ((ax 6), .inl (eC E 0, 3, .inl ik))] ++ va_pl PL pf) s.heap := hP
  have hl := lv_entry ([.ref (ax 0)]) (n := 1) (Nat.le_of_ble_eq_true rfl)
  rw [lg_entry_eq]
  generalize (lg_sl ([.ref (ax 0)]) ++ List.replicate (1 - (lg_sl ([.ref (ax 0)])).length) Slot.unset).toArray = ls at hl ⊢
  have hl : lv_has ls 1 [(0, .ref (ax 0))] := hl
  unfold wp_X2_isDown at hw
  refine lv_aload_n hx hb dX2_isDown_0 rfl (lv_at hl 0 rfl) ?_
  refine va_get (D := eD E) (ci := 3) (v := .int (gx 15)) (C := RX2) (T := TX2) (N := 19) hx hb hta lay_X2 hown hKE.1 hP 0 rfl rfl 15 (by decide) (hta _ tw_82) (fun _ h9 => h9) rfl dX2_isDown_1 ?_
  obtain ⟨hn_67, hw⟩ := hw
  exact W.zret (v := (gx 15)) hx hb hr hn_67 (fun t ht hW => ⟨(gx 15), rfl, hw, ht⟩) (fun q hq => nomatch hq) dX2_isDown_4
def wp_X2_pen (E : EV) (post : Int32 → Prop) (gx : Nat → Int32) (lt : Option Nat) (mo : Int32) (ad : Nat) (ln : Int32) (PL : List Nat) (pf : Nat → va_E) (pw : Nat → Int64) (pk : Int32) (lw : Nat → Int64) (lk : Int32) (ik : Nat → Int32) : Prop := post (gx 16)
set_option maxHeartbeats 4000000 in
set_option maxRecDepth 100000 in
theorem c_X2_pen (E : EV) (l : Launch) (ax : Nat → Nat) (gx : Nat → Int32) (lt : Option Nat) (mo : Int32) (ad : Nat) (ln : Int32) (PL : List Nat) (pf : Nat → va_E) (pw : Nat → Int64) (pk : Int32) (lw : Nat → Int64) (lk : Int32) (ik : Nat → Int32) (post : Int32 → Prop) (hw : wp_X2_pen E post gx lt mo ad ln PL pf pw pk lw lk ik) : Met l yX2_pen (Cond.code yX2_pen cX2_pen 1 (some .int) :: ALLW) ({ frames := 0, cells := 0, slots := 0, locals := 0 } : Room) (va_Pc [.ref (ax 0)] (preR E (wX E ax gx lt mo ad ln PL pf pw pk lw lk ik))) (vp_Si post) 0 0 (fun _ => False) := by
  refine Met.ofW (cc := cX2_pen) (maxL := 1) (ret := (some .int)) (by decide) rfl ?_
  intro p e s m args below meth c s₁ B hml hv
  obtain ⟨rfl, hpre⟩ := hv
  have hx := B.exec
  have hb := B.bytes
  have hr := B.returns
  have hlocks := B.notSynchronized
  have hts := atoms_spec (ws := (Cond.code yX2_pen cX2_pen 1 (some .int) :: ALLW)) B.pre
  have hta : ∀ w ∈ ALLW, w.before ([.ref (ax 0)] : List Value).toArray s = true := fun w h => hts w (List.mem_cons_of_mem _ h)
  have hown : s.vm.findClass RX2 = some m.cls := findClass_of_methodNamed B.named
  obtain ⟨hP, hKE⟩ := hpre
  have hP : va_P (eD E) vwCl ([((ax 0), .inr (3, [.ref (ax 1), .ref (ax 2), .ref (ax 4), .ref (ax 6), .int (gx 4), .int (gx 5), .int (gx 6), .int (gx 7), va_rf lt, .int (gx 9), .int (gx 10), .int (gx 11), .int (gx 12), .int (gx 13), .int (gx 14), .int (gx 15), .int (gx 16), .int (gx 17), .int (gx 18)])), ((ax 1), .inr (0, [.int mo, .ref ad, .int ln])), ((ax 2), .inr (2, [.ref (ax 3), .int pk])), ((ax 3), .inl (eC E 1, 157, .inr (.inl pw))), ((ax 4), .inr (2, [.ref (ax 5), .int lk])), ((ax 5), .inl (eC E 1, 157, .inr (.inl lw))), ((ax 6), .inl (eC E 0, 3, .inl ik))] ++ va_pl PL pf) s.heap := hP
  have hl := lv_entry ([.ref (ax 0)]) (n := 1) (Nat.le_of_ble_eq_true rfl)
  rw [lg_entry_eq]
  generalize (lg_sl ([.ref (ax 0)]) ++ List.replicate (1 - (lg_sl ([.ref (ax 0)])).length) Slot.unset).toArray = ls at hl ⊢
  have hl : lv_has ls 1 [(0, .ref (ax 0))] := hl
  unfold wp_X2_pen at hw
  refine lv_aload_n hx hb dX2_pen_0 rfl (lv_at hl 0 rfl) ?_
  refine va_get (D := eD E) (ci := 3) (v := .int (gx 16)) (C := RX2) (T := TX2) (N := 19) hx hb hta lay_X2 hown hKE.1 hP 0 rfl rfl 16 (by decide) (hta _ tw_83) (fun _ h9 => h9) rfl dX2_pen_1 ?_
  exact W.iret (v := (gx 16)) hx hb hr (fun t ht hW => ⟨(gx 16), rfl, hw, ht⟩) (fun q hq => nomatch hq) dX2_pen_4
def wp_X2_isWaiting (E : EV) (post : Int32 → Prop) (gx : Nat → Int32) (lt : Option Nat) (mo : Int32) (ad : Nat) (ln : Int32) (PL : List Nat) (pf : Nat → va_E) (pw : Nat → Int64) (pk : Int32) (lw : Nat → Int64) (lk : Int32) (ik : Nat → Int32) : Prop := (wp_X2_firstCommand E (fun r_68 : Option Nat => ((r_68 = none → post 0) ∧ (∀ y_69 : Nat, r_68 = some y_69 → (wp_X2_lacksInk E (fun r_70 : Int32 => ((r_70 = 0 → post 0) ∧ (¬ (r_70 = 0) → post 1))) gx lt mo ad ln PL pf pw pk lw lk ik y_69)))) gx lt mo ad ln PL pf pw pk lw lk ik)
set_option maxHeartbeats 4000000 in
set_option maxRecDepth 100000 in
theorem c_X2_isWaiting (E : EV) (l : Launch) (ax : Nat → Nat) (gx : Nat → Int32) (lt : Option Nat) (mo : Int32) (ad : Nat) (ln : Int32) (PL : List Nat) (pf : Nat → va_E) (pw : Nat → Int64) (pk : Int32) (lw : Nat → Int64) (lk : Int32) (ik : Nat → Int32) (post : Int32 → Prop) (hw : wp_X2_isWaiting E post gx lt mo ad ln PL pf pw pk lw lk ik) : Met l yX2_isWaiting (Cond.code yX2_isWaiting cX2_isWaiting 2 (some .boolean) :: ALLW) ({ frames := 4, cells := 0, slots := 0, locals := 84 } : Room) (va_Pc [.ref (ax 0)] (preR E (wX E ax gx lt mo ad ln PL pf pw pk lw lk ik))) (vp_Si post) 0 0 (fun _ => False) := by
  refine Met.ofW (cc := cX2_isWaiting) (maxL := 2) (ret := (some .boolean)) (by decide) rfl ?_
  intro p e s m args below meth c s₁ B hml hv
  obtain ⟨rfl, hpre⟩ := hv
  have hx := B.exec
  have hb := B.bytes
  have hr := B.returns
  have hlocks := B.notSynchronized
  have hts := atoms_spec (ws := (Cond.code yX2_isWaiting cX2_isWaiting 2 (some .boolean) :: ALLW)) B.pre
  have hta : ∀ w ∈ ALLW, w.before ([.ref (ax 0)] : List Value).toArray s = true := fun w h => hts w (List.mem_cons_of_mem _ h)
  have hown : s.vm.findClass RX2 = some m.cls := findClass_of_methodNamed B.named
  obtain ⟨hP, hKE⟩ := hpre
  have hP : va_P (eD E) vwCl ([((ax 0), .inr (3, [.ref (ax 1), .ref (ax 2), .ref (ax 4), .ref (ax 6), .int (gx 4), .int (gx 5), .int (gx 6), .int (gx 7), va_rf lt, .int (gx 9), .int (gx 10), .int (gx 11), .int (gx 12), .int (gx 13), .int (gx 14), .int (gx 15), .int (gx 16), .int (gx 17), .int (gx 18)])), ((ax 1), .inr (0, [.int mo, .ref ad, .int ln])), ((ax 2), .inr (2, [.ref (ax 3), .int pk])), ((ax 3), .inl (eC E 1, 157, .inr (.inl pw))), ((ax 4), .inr (2, [.ref (ax 5), .int lk])), ((ax 5), .inl (eC E 1, 157, .inr (.inl lw))), ((ax 6), .inl (eC E 0, 3, .inl ik))] ++ va_pl PL pf) s.heap := hP
  have hl := lv_entry ([.ref (ax 0)]) (n := 2) (Nat.le_of_ble_eq_true rfl)
  rw [lg_entry_eq]
  generalize (lg_sl ([.ref (ax 0)]) ++ List.replicate (2 - (lg_sl ([.ref (ax 0)])).length) Slot.unset).toArray = ls at hl ⊢
  have hl : lv_has ls 2 [(0, .ref (ax 0))] := hl
  unfold wp_X2_isWaiting at hw
  refine lv_aload_n hx hb dX2_isWaiting_0 rfl (lv_at hl 0 rfl) ?_
  have hPc : va_P (eD E) vwCl (wX E ax gx lt mo ad ln PL pf pw pk lw lk ik) s.heap := hP
  refine va_csq (va_Run.run (va_runV (As := []) (rest := []) ⟨hx, hb, hml, hown, hta⟩ (c_X2_firstCommand E l ax gx lt mo ad ln PL pf pw pk lw lk ik _ hw) (pcV (n := 0) hta tw_424 tw_421 tw_1 tw_423 tp_21 rfl rfl hd_X2_firstCommand ⟨Nat.le_of_ble_eq_true rfl, Nat.le_of_ble_eq_true rfl⟩) ⟨fbR, va_recv hKE.1 hP (ci := 3) (q0 := 0) rfl rfl, fun U hU hW => ⟨rfl, preR.mk hPc hKE hU hW⟩⟩ rfl rfl hl.1 rfl (lv_room (Nat.le_of_ble_eq_true rfl)) dX2_isWaiting_1 ⟨Nat.le_of_ble_eq_true rfl, Nat.le_of_ble_eq_true rfl⟩)) (fun r_68 hw => ?_)
  rcases r_68 with _ | y_69
  · have hw := hw.1 rfl
    refine lv_astore_nN (lv' := [(1, .null), (0, .ref (ax 0))]) hx hb dX2_isWaiting_4 rfl hl (by decide) rfl (fun ls hl => ?_)
    refine lv_aload_nN hx hb dX2_isWaiting_5 rfl (lv_at hl 0 rfl) ?_
    refine lv_ifnullN (tgt := 21) hx hb dX2_isWaiting_6 (by decide) ?_
    refine lv_iconst (v := 0) hx hb dX2_isWaiting_21 (by decide) ?_
    exact W.zret (v := 0) hx hb hr rfl (fun t ht hW => ⟨0, rfl, hw, ht⟩) (fun q hq => nomatch hq) dX2_isWaiting_22
  · have hw := hw.2 y_69 rfl
    refine lv_astore_n (lv' := [(1, .ref y_69), (0, .ref (ax 0))]) hx hb dX2_isWaiting_4 rfl hl (by decide) rfl (fun ls hl => ?_)
    refine lv_aload_n hx hb dX2_isWaiting_5 rfl (lv_at hl 0 rfl) ?_
    refine lv_ifnull hx hb dX2_isWaiting_6 ?_
    refine lv_aload_n hx hb dX2_isWaiting_9 rfl (lv_at hl 1 rfl) ?_
    refine lv_aload_n hx hb dX2_isWaiting_10 rfl (lv_at hl 0 rfl) ?_
    have hPc : va_P (eD E) vwCl (wX E ax gx lt mo ad ln PL pf pw pk lw lk ik) s.heap := hP
    refine vp_callSi (va_Run.run (va_runV (As := [.ref y_69]) (rest := []) ⟨hx, hb, hml, hown, hta⟩ (c_X2_lacksInk E l ax gx lt mo ad ln PL pf pw pk lw lk ik y_69 _ hw) (pcV (n := 1) hta tw_446 tw_443 tw_1 tw_445 tp_22 rfl rfl hd_X2_lacksInk ⟨Nat.le_of_ble_eq_true rfl, Nat.le_of_ble_eq_true rfl⟩) ⟨fbR, va_recv hKE.1 hP (ci := 3) (q0 := 0) rfl rfl, fun U hU hW => ⟨rfl, preR.mk hPc hKE hU hW⟩⟩ rfl rfl hl.1 rfl (lv_room (Nat.le_of_ble_eq_true rfl)) dX2_isWaiting_11 ⟨Nat.le_of_ble_eq_true rfl, Nat.le_of_ble_eq_true rfl⟩)) (fun r_70 hw => ?_)
    refine lv_if_eq (tgt := 21) hx hb dX2_isWaiting_14 (by decide) (fun c_71 => ?_) (fun c_71 => ?_)
    · have hw := hw.1 c_71
      refine lv_iconst (v := 0) hx hb dX2_isWaiting_21 (by decide) ?_
      exact W.zret (v := 0) hx hb hr rfl (fun t ht hW => ⟨0, rfl, hw, ht⟩) (fun q hq => nomatch hq) dX2_isWaiting_22
    · have hw := hw.2 c_71
      refine lv_iconst (v := 1) hx hb dX2_isWaiting_17 (by decide) ?_
      refine lv_goto (tgt := 22) hx hb dX2_isWaiting_18 (by decide) ?_
      exact W.zret (v := 1) hx hb hr rfl (fun t ht hW => ⟨1, rfl, hw, ht⟩) (fun q hq => nomatch hq) dX2_isWaiting_22
def wp_X2_stepsUp (E : EV) (post : Int32 → Prop) (gx : Nat → Int32) (lt : Option Nat) (mo : Int32) (ad : Nat) (ln : Int32) (PL : List Nat) (pf : Nat → va_E) (pw : Nat → Int64) (pk : Int32) (lw : Nat → Int64) (lk : Int32) (ik : Nat → Int32) : Prop := post (gx 17)
set_option maxHeartbeats 4000000 in
set_option maxRecDepth 100000 in
theorem c_X2_stepsUp (E : EV) (l : Launch) (ax : Nat → Nat) (gx : Nat → Int32) (lt : Option Nat) (mo : Int32) (ad : Nat) (ln : Int32) (PL : List Nat) (pf : Nat → va_E) (pw : Nat → Int64) (pk : Int32) (lw : Nat → Int64) (lk : Int32) (ik : Nat → Int32) (post : Int32 → Prop) (hw : wp_X2_stepsUp E post gx lt mo ad ln PL pf pw pk lw lk ik) : Met l yX2_stepsUp (Cond.code yX2_stepsUp cX2_stepsUp 1 (some .int) :: ALLW) ({ frames := 0, cells := 0, slots := 0, locals := 0 } : Room) (va_Pc [.ref (ax 0)] (preR E (wX E ax gx lt mo ad ln PL pf pw pk lw lk ik))) (vp_Si post) 0 0 (fun _ => False) := by
  refine Met.ofW (cc := cX2_stepsUp) (maxL := 1) (ret := (some .int)) (by decide) rfl ?_
  intro p e s m args below meth c s₁ B hml hv
  obtain ⟨rfl, hpre⟩ := hv
  have hx := B.exec
  have hb := B.bytes
  have hr := B.returns
  have hlocks := B.notSynchronized
  have hts := atoms_spec (ws := (Cond.code yX2_stepsUp cX2_stepsUp 1 (some .int) :: ALLW)) B.pre
  have hta : ∀ w ∈ ALLW, w.before ([.ref (ax 0)] : List Value).toArray s = true := fun w h => hts w (List.mem_cons_of_mem _ h)
  have hown : s.vm.findClass RX2 = some m.cls := findClass_of_methodNamed B.named
  obtain ⟨hP, hKE⟩ := hpre
  have hP : va_P (eD E) vwCl ([((ax 0), .inr (3, [.ref (ax 1), .ref (ax 2), .ref (ax 4), .ref (ax 6), .int (gx 4), .int (gx 5), .int (gx 6), .int (gx 7), va_rf lt, .int (gx 9), .int (gx 10), .int (gx 11), .int (gx 12), .int (gx 13), .int (gx 14), .int (gx 15), .int (gx 16), .int (gx 17), .int (gx 18)])), ((ax 1), .inr (0, [.int mo, .ref ad, .int ln])), ((ax 2), .inr (2, [.ref (ax 3), .int pk])), ((ax 3), .inl (eC E 1, 157, .inr (.inl pw))), ((ax 4), .inr (2, [.ref (ax 5), .int lk])), ((ax 5), .inl (eC E 1, 157, .inr (.inl lw))), ((ax 6), .inl (eC E 0, 3, .inl ik))] ++ va_pl PL pf) s.heap := hP
  have hl := lv_entry ([.ref (ax 0)]) (n := 1) (Nat.le_of_ble_eq_true rfl)
  rw [lg_entry_eq]
  generalize (lg_sl ([.ref (ax 0)]) ++ List.replicate (1 - (lg_sl ([.ref (ax 0)])).length) Slot.unset).toArray = ls at hl ⊢
  have hl : lv_has ls 1 [(0, .ref (ax 0))] := hl
  unfold wp_X2_stepsUp at hw
  refine lv_aload_n hx hb dX2_stepsUp_0 rfl (lv_at hl 0 rfl) ?_
  refine va_get (D := eD E) (ci := 3) (v := .int (gx 17)) (C := RX2) (T := TX2) (N := 19) hx hb hta lay_X2 hown hKE.1 hP 0 rfl rfl 17 (by decide) (hta _ tw_84) (fun _ h9 => h9) rfl dX2_stepsUp_1 ?_
  exact W.iret (v := (gx 17)) hx hb hr (fun t ht hW => ⟨(gx 17), rfl, hw, ht⟩) (fun q hq => nomatch hq) dX2_stepsUp_4
def wp_X2_stepsDown (E : EV) (post : Int32 → Prop) (gx : Nat → Int32) (lt : Option Nat) (mo : Int32) (ad : Nat) (ln : Int32) (PL : List Nat) (pf : Nat → va_E) (pw : Nat → Int64) (pk : Int32) (lw : Nat → Int64) (lk : Int32) (ik : Nat → Int32) : Prop := post (gx 18)
set_option maxHeartbeats 4000000 in
set_option maxRecDepth 100000 in
theorem c_X2_stepsDown (E : EV) (l : Launch) (ax : Nat → Nat) (gx : Nat → Int32) (lt : Option Nat) (mo : Int32) (ad : Nat) (ln : Int32) (PL : List Nat) (pf : Nat → va_E) (pw : Nat → Int64) (pk : Int32) (lw : Nat → Int64) (lk : Int32) (ik : Nat → Int32) (post : Int32 → Prop) (hw : wp_X2_stepsDown E post gx lt mo ad ln PL pf pw pk lw lk ik) : Met l yX2_stepsDown (Cond.code yX2_stepsDown cX2_stepsDown 1 (some .int) :: ALLW) ({ frames := 0, cells := 0, slots := 0, locals := 0 } : Room) (va_Pc [.ref (ax 0)] (preR E (wX E ax gx lt mo ad ln PL pf pw pk lw lk ik))) (vp_Si post) 0 0 (fun _ => False) := by
  refine Met.ofW (cc := cX2_stepsDown) (maxL := 1) (ret := (some .int)) (by decide) rfl ?_
  intro p e s m args below meth c s₁ B hml hv
  obtain ⟨rfl, hpre⟩ := hv
  have hx := B.exec
  have hb := B.bytes
  have hr := B.returns
  have hlocks := B.notSynchronized
  have hts := atoms_spec (ws := (Cond.code yX2_stepsDown cX2_stepsDown 1 (some .int) :: ALLW)) B.pre
  have hta : ∀ w ∈ ALLW, w.before ([.ref (ax 0)] : List Value).toArray s = true := fun w h => hts w (List.mem_cons_of_mem _ h)
  have hown : s.vm.findClass RX2 = some m.cls := findClass_of_methodNamed B.named
  obtain ⟨hP, hKE⟩ := hpre
  have hP : va_P (eD E) vwCl ([((ax 0), .inr (3, [.ref (ax 1), .ref (ax 2), .ref (ax 4), .ref (ax 6), .int (gx 4), .int (gx 5), .int (gx 6), .int (gx 7), va_rf lt, .int (gx 9), .int (gx 10), .int (gx 11), .int (gx 12), .int (gx 13), .int (gx 14), .int (gx 15), .int (gx 16), .int (gx 17), .int (gx 18)])), ((ax 1), .inr (0, [.int mo, .ref ad, .int ln])), ((ax 2), .inr (2, [.ref (ax 3), .int pk])), ((ax 3), .inl (eC E 1, 157, .inr (.inl pw))), ((ax 4), .inr (2, [.ref (ax 5), .int lk])), ((ax 5), .inl (eC E 1, 157, .inr (.inl lw))), ((ax 6), .inl (eC E 0, 3, .inl ik))] ++ va_pl PL pf) s.heap := hP
  have hl := lv_entry ([.ref (ax 0)]) (n := 1) (Nat.le_of_ble_eq_true rfl)
  rw [lg_entry_eq]
  generalize (lg_sl ([.ref (ax 0)]) ++ List.replicate (1 - (lg_sl ([.ref (ax 0)])).length) Slot.unset).toArray = ls at hl ⊢
  have hl : lv_has ls 1 [(0, .ref (ax 0))] := hl
  unfold wp_X2_stepsDown at hw
  refine lv_aload_n hx hb dX2_stepsDown_0 rfl (lv_at hl 0 rfl) ?_
  refine va_get (D := eD E) (ci := 3) (v := .int (gx 18)) (C := RX2) (T := TX2) (N := 19) hx hb hta lay_X2 hown hKE.1 hP 0 rfl rfl 18 (by decide) (hta _ tw_85) (fun _ h9 => h9) rfl dX2_stepsDown_1 ?_
  exact W.iret (v := (gx 18)) hx hb hr (fun t ht hW => ⟨(gx 18), rfl, hw, ht⟩) (fun q hq => nomatch hq) dX2_stepsDown_4
def wp_X2_marks (E : EV) (post : Int32 → Prop) (gx : Nat → Int32) (lt : Option Nat) (mo : Int32) (ad : Nat) (ln : Int32) (PL : List Nat) (pf : Nat → va_E) (pw : Nat → Int64) (pk : Int32) (lw : Nat → Int64) (lk : Int32) (ik : Nat → Int32) : Prop := post pk
set_option maxHeartbeats 4000000 in
set_option maxRecDepth 100000 in
theorem c_X2_marks (E : EV) (l : Launch) (ax : Nat → Nat) (gx : Nat → Int32) (lt : Option Nat) (mo : Int32) (ad : Nat) (ln : Int32) (PL : List Nat) (pf : Nat → va_E) (pw : Nat → Int64) (pk : Int32) (lw : Nat → Int64) (lk : Int32) (ik : Nat → Int32) (post : Int32 → Prop) (hw : wp_X2_marks E post gx lt mo ad ln PL pf pw pk lw lk ik) : Met l yX2_marks (Cond.code yX2_marks cX2_marks 1 (some .int) :: ALLW) ({ frames := 0, cells := 0, slots := 0, locals := 0 } : Room) (va_Pc [.ref (ax 0)] (preR E (wX E ax gx lt mo ad ln PL pf pw pk lw lk ik))) (vp_Si post) 0 0 (fun _ => False) := by
  refine Met.ofW (cc := cX2_marks) (maxL := 1) (ret := (some .int)) (by decide) rfl ?_
  intro p e s m args below meth c s₁ B hml hv
  obtain ⟨rfl, hpre⟩ := hv
  have hx := B.exec
  have hb := B.bytes
  have hr := B.returns
  have hlocks := B.notSynchronized
  have hts := atoms_spec (ws := (Cond.code yX2_marks cX2_marks 1 (some .int) :: ALLW)) B.pre
  have hta : ∀ w ∈ ALLW, w.before ([.ref (ax 0)] : List Value).toArray s = true := fun w h => hts w (List.mem_cons_of_mem _ h)
  have hown : s.vm.findClass RX2 = some m.cls := findClass_of_methodNamed B.named
  obtain ⟨hP, hKE⟩ := hpre
  have hP : va_P (eD E) vwCl ([((ax 0), .inr (3, [.ref (ax 1), .ref (ax 2), .ref (ax 4), .ref (ax 6), .int (gx 4), .int (gx 5), .int (gx 6), .int (gx 7), va_rf lt, .int (gx 9), .int (gx 10), .int (gx 11), .int (gx 12), .int (gx 13), .int (gx 14), .int (gx 15), .int (gx 16), .int (gx 17), .int (gx 18)])), ((ax 1), .inr (0, [.int mo, .ref ad, .int ln])), ((ax 2), .inr (2, [.ref (ax 3), .int pk])), ((ax 3), .inl (eC E 1, 157, .inr (.inl pw))), ((ax 4), .inr (2, [.ref (ax 5), .int lk])), ((ax 5), .inl (eC E 1, 157, .inr (.inl lw))), ((ax 6), .inl (eC E 0, 3, .inl ik))] ++ va_pl PL pf) s.heap := hP
  have hl := lv_entry ([.ref (ax 0)]) (n := 1) (Nat.le_of_ble_eq_true rfl)
  rw [lg_entry_eq]
  generalize (lg_sl ([.ref (ax 0)]) ++ List.replicate (1 - (lg_sl ([.ref (ax 0)])).length) Slot.unset).toArray = ls at hl ⊢
  have hl : lv_has ls 1 [(0, .ref (ax 0))] := hl
  unfold wp_X2_marks at hw
  refine lv_aload_n hx hb dX2_marks_0 rfl (lv_at hl 0 rfl) ?_
  refine va_get (D := eD E) (ci := 3) (v := .ref (ax 2)) (C := RX2) (T := TX2) (N := 19) hx hb hta lay_X2 hown hKE.1 hP 0 rfl rfl 1 (by decide) (hta _ tw_68) (fun _ h9 => h9) rfl dX2_marks_1 ?_
  refine va_getN (D := eD E) (ci := 2) (v := .int pk) (C := RX1) (T := TX1) (N := 2) hx hb hta lay_X1 hown hKE.1 hP 2 rfl rfl 1 (by decide) (va_Nw.use rfl (hKE.2.1 _ (List.mem_of_getElem? (i := 1) rfl))) (fun _ h9 => h9) rfl dX2_marks_4 ?_
  exact W.iret (v := pk) hx hb hr (fun t ht hW => ⟨pk, rfl, hw, ht⟩) (fun q hq => nomatch hq) dX2_marks_7
def wp_X2_marksInTheEnd (E : EV) (post : Int32 → Prop) (gx : Nat → Int32) (lt : Option Nat) (mo : Int32) (ad : Nat) (ln : Int32) (PL : List Nat) (pf : Nat → va_E) (pw : Nat → Int64) (pk : Int32) (lw : Nat → Int64) (lk : Int32) (ik : Nat → Int32) : Prop := post lk
set_option maxHeartbeats 4000000 in
set_option maxRecDepth 100000 in
theorem c_X2_marksInTheEnd (E : EV) (l : Launch) (ax : Nat → Nat) (gx : Nat → Int32) (lt : Option Nat) (mo : Int32) (ad : Nat) (ln : Int32) (PL : List Nat) (pf : Nat → va_E) (pw : Nat → Int64) (pk : Int32) (lw : Nat → Int64) (lk : Int32) (ik : Nat → Int32) (post : Int32 → Prop) (hw : wp_X2_marksInTheEnd E post gx lt mo ad ln PL pf pw pk lw lk ik) : Met l yX2_marksInTheEnd (Cond.code yX2_marksInTheEnd cX2_marksInTheEnd 1 (some .int) :: ALLW) ({ frames := 0, cells := 0, slots := 0, locals := 0 } : Room) (va_Pc [.ref (ax 0)] (preR E (wX E ax gx lt mo ad ln PL pf pw pk lw lk ik))) (vp_Si post) 0 0 (fun _ => False) := by
  refine Met.ofW (cc := cX2_marksInTheEnd) (maxL := 1) (ret := (some .int)) (by decide) rfl ?_
  intro p e s m args below meth c s₁ B hml hv
  obtain ⟨rfl, hpre⟩ := hv
  have hx := B.exec
  have hb := B.bytes
  have hr := B.returns
  have hlocks := B.notSynchronized
  have hts := atoms_spec (ws := (Cond.code yX2_marksInTheEnd cX2_marksInTheEnd 1 (some .int) :: ALLW)) B.pre
  have hta : ∀ w ∈ ALLW, w.before ([.ref (ax 0)] : List Value).toArray s = true := fun w h => hts w (List.mem_cons_of_mem _ h)
  have hown : s.vm.findClass RX2 = some m.cls := findClass_of_methodNamed B.named
  obtain ⟨hP, hKE⟩ := hpre
  have hP : va_P (eD E) vwCl ([((ax 0), .inr (3, [.ref (ax 1), .ref (ax 2), .ref (ax 4), .ref (ax 6), .int (gx 4), .int (gx 5), .int (gx 6), .int (gx 7), va_rf lt, .int (gx 9), .int (gx 10), .int (gx 11), .int (gx 12), .int (gx 13), .int (gx 14), .int (gx 15), .int (gx 16), .int (gx 17), .int (gx 18)])), ((ax 1), .inr (0, [.int mo, .ref ad, .int ln])), ((ax 2), .inr (2, [.ref (ax 3), .int pk])), ((ax 3), .inl (eC E 1, 157, .inr (.inl pw))), ((ax 4), .inr (2, [.ref (ax 5), .int lk])), ((ax 5), .inl (eC E 1, 157, .inr (.inl lw))), ((ax 6), .inl (eC E 0, 3, .inl ik))] ++ va_pl PL pf) s.heap := hP
  have hl := lv_entry ([.ref (ax 0)]) (n := 1) (Nat.le_of_ble_eq_true rfl)
  rw [lg_entry_eq]
  generalize (lg_sl ([.ref (ax 0)]) ++ List.replicate (1 - (lg_sl ([.ref (ax 0)])).length) Slot.unset).toArray = ls at hl ⊢
  have hl : lv_has ls 1 [(0, .ref (ax 0))] := hl
  unfold wp_X2_marksInTheEnd at hw
  refine lv_aload_n hx hb dX2_marksInTheEnd_0 rfl (lv_at hl 0 rfl) ?_
  refine va_get (D := eD E) (ci := 3) (v := .ref (ax 4)) (C := RX2) (T := TX2) (N := 19) hx hb hta lay_X2 hown hKE.1 hP 0 rfl rfl 2 (by decide) (hta _ tw_69) (fun _ h9 => h9) rfl dX2_marksInTheEnd_1 ?_
  refine va_getN (D := eD E) (ci := 2) (v := .int lk) (C := RX1) (T := TX1) (N := 2) hx hb hta lay_X1 hown hKE.1 hP 4 rfl rfl 1 (by decide) (va_Nw.use rfl (hKE.2.1 _ (List.mem_of_getElem? (i := 1) rfl))) (fun _ h9 => h9) rfl dX2_marksInTheEnd_4 ?_
  exact W.iret (v := lk) hx hb hr (fun t ht hW => ⟨lk, rfl, hw, ht⟩) (fun q hq => nomatch hq) dX2_marksInTheEnd_7
def wp_X2_isRight (E : EV) (post : Int32 → Prop) (gx : Nat → Int32) (lt : Option Nat) (mo : Int32) (ad : Nat) (ln : Int32) (PL : List Nat) (pf : Nat → va_E) (pw : Nat → Int64) (pk : Int32) (lw : Nat → Int64) (lk : Int32) (ik : Nat → Int32) (cm : Nat) : Prop := (∃ ckz_72 cxz_72 cyz_72 cpz_72 : Int32, cm ∈ PL ∧ pf cm = .inr (1, [.int ckz_72, .int cxz_72, .int cyz_72, .int cpz_72]) ∧ ((ckz_72 = 3 → (wp_X2_hasPen E (fun r_83 : Int32 => (narrow .boolean (.int r_83) = .int r_83 ∧ post r_83)) cpz_72)) ∧ (¬ (ckz_72 = 3) → (wp_X0_steps E (fun r_76 : Int32 => ((r_76 ≤ 0 → post 0) ∧ (¬ (r_76 ≤ 0) → (wp_X2_hasCell E (fun r_80 : Int32 => ((r_80 = 0 → post 0) ∧ (¬ (r_80 = 0) → post 1))) ((gx 9) + cxz_72) ((gx 10) + cyz_72))))) ckz_72 cxz_72 cyz_72 cpz_72))))
set_option maxHeartbeats 4000000 in
set_option maxRecDepth 100000 in
theorem c_X2_isRight (E : EV) (l : Launch) (ax : Nat → Nat) (gx : Nat → Int32) (lt : Option Nat) (mo : Int32) (ad : Nat) (ln : Int32) (PL : List Nat) (pf : Nat → va_E) (pw : Nat → Int64) (pk : Int32) (lw : Nat → Int64) (lk : Int32) (ik : Nat → Int32) (cm : Nat) (post : Int32 → Prop) (hw : wp_X2_isRight E post gx lt mo ad ln PL pf pw pk lw lk ik cm) : Met l yX2_isRight (Cond.code yX2_isRight cX2_isRight 2 (some .boolean) :: ALLW) ({ frames := 2, cells := 0, slots := 0, locals := 34 } : Room) (va_Pc [.ref (ax 0), .ref cm] (preR E (wX E ax gx lt mo ad ln PL pf pw pk lw lk ik))) (vp_Si post) 0 0 (fun _ => False) := by
  refine Met.ofW (cc := cX2_isRight) (maxL := 2) (ret := (some .boolean)) (by decide) rfl ?_
  intro p e s m args below meth c s₁ B hml hv
  obtain ⟨rfl, hpre⟩ := hv
  have hx := B.exec
  have hb := B.bytes
  have hr := B.returns
  have hlocks := B.notSynchronized
  have hts := atoms_spec (ws := (Cond.code yX2_isRight cX2_isRight 2 (some .boolean) :: ALLW)) B.pre
  have hta : ∀ w ∈ ALLW, w.before ([.ref (ax 0), .ref cm] : List Value).toArray s = true := fun w h => hts w (List.mem_cons_of_mem _ h)
  have hown : s.vm.findClass RX2 = some m.cls := findClass_of_methodNamed B.named
  obtain ⟨hP, hKE⟩ := hpre
  have hP : va_P (eD E) vwCl ([((ax 0), .inr (3, [.ref (ax 1), .ref (ax 2), .ref (ax 4), .ref (ax 6), .int (gx 4), .int (gx 5), .int (gx 6), .int (gx 7), va_rf lt, .int (gx 9), .int (gx 10), .int (gx 11), .int (gx 12), .int (gx 13), .int (gx 14), .int (gx 15), .int (gx 16), .int (gx 17), .int (gx 18)])), ((ax 1), .inr (0, [.int mo, .ref ad, .int ln])), ((ax 2), .inr (2, [.ref (ax 3), .int pk])), ((ax 3), .inl (eC E 1, 157, .inr (.inl pw))), ((ax 4), .inr (2, [.ref (ax 5), .int lk])), ((ax 5), .inl (eC E 1, 157, .inr (.inl lw))), ((ax 6), .inl (eC E 0, 3, .inl ik))] ++ va_pl PL pf) s.heap := hP
  have hl := lv_entry ([.ref (ax 0), .ref cm]) (n := 2) (Nat.le_of_ble_eq_true rfl)
  rw [lg_entry_eq]
  generalize (lg_sl ([.ref (ax 0), .ref cm]) ++ List.replicate (2 - (lg_sl ([.ref (ax 0), .ref cm])).length) Slot.unset).toArray = ls at hl ⊢
  have hl : lv_has ls 2 [(0, .ref (ax 0)), (1, .ref cm)] := hl
  unfold wp_X2_isRight at hw
  refine lv_aload_n hx hb dX2_isRight_0 rfl (lv_at hl 1 rfl) ?_
  obtain ⟨ckz_72, cxz_72, cyz_72, cpz_72, hyz_72, hfz_72, hw⟩ := hw
  obtain ⟨i_73, hi_73⟩ := va_pl_get (X := [((ax 0), .inr (3, [.ref (ax 1), .ref (ax 2), .ref (ax 4), .ref (ax 6), .int (gx 4), .int (gx 5), .int (gx 6), .int (gx 7), va_rf lt, .int (gx 9), .int (gx 10), .int (gx 11), .int (gx 12), .int (gx 13), .int (gx 14), .int (gx 15), .int (gx 16), .int (gx 17), .int (gx 18)])), ((ax 1), .inr (0, [.int mo, .ref ad, .int ln])), ((ax 2), .inr (2, [.ref (ax 3), .int pk])), ((ax 3), .inl (eC E 1, 157, .inr (.inl pw))), ((ax 4), .inr (2, [.ref (ax 5), .int lk])), ((ax 5), .inl (eC E 1, 157, .inr (.inl lw))), ((ax 6), .inl (eC E 0, 3, .inl ik))]) (f := pf) hyz_72
  rw [hfz_72] at hi_73
  refine va_getN (D := eD E) (ci := 1) (v := .int ckz_72) (C := RX0) (T := TX0) (N := 4) hx hb hta lay_X0 hown hKE.1 hP i_73 hi_73 rfl 0 (by decide) (va_Nw.use rfl (hKE.2.1 _ (List.mem_of_getElem? (i := 9) rfl))) (fun _ h9 => h9) rfl dX2_isRight_1 ?_
  refine lv_iconst (v := 3) hx hb dX2_isRight_4 (by decide) ?_
  refine lv_icmp_ne (tgt := 16) hx hb dX2_isRight_5 (by decide) (fun c_74 => ?_) (fun c_74 => ?_)
  · have hw := hw.2 c_74
    refine lv_aload_n hx hb dX2_isRight_16 rfl (lv_at hl 1 rfl) ?_
    obtain ⟨i_75, hi_75⟩ := va_pl_get (X := [((ax 0), .inr (3, [.ref (ax 1), .ref (ax 2), .ref (ax 4), .ref (ax 6), .int (gx 4), .int (gx 5), .int (gx 6), .int (gx 7), va_rf lt, .int (gx 9), .int (gx 10), .int (gx 11), .int (gx 12), .int (gx 13), .int (gx 14), .int (gx 15), .int (gx 16), .int (gx 17), .int (gx 18)])), ((ax 1), .inr (0, [.int mo, .ref ad, .int ln])), ((ax 2), .inr (2, [.ref (ax 3), .int pk])), ((ax 3), .inl (eC E 1, 157, .inr (.inl pw))), ((ax 4), .inr (2, [.ref (ax 5), .int lk])), ((ax 5), .inl (eC E 1, 157, .inr (.inl lw))), ((ax 6), .inl (eC E 0, 3, .inl ik))]) (f := pf) hyz_72
    rw [hfz_72] at hi_75
    have hPc : va_P (eD E) vwCl [(cm, .inr (1, [.int ckz_72, .int cxz_72, .int cyz_72, .int cpz_72]))] s.heap := va_one hP hi_75
    refine vp_callSi (va_Run.run (va_runVN (As := []) (rest := []) ⟨hx, hb, hml, hown, hta⟩ (c_X0_steps E l cm ckz_72 cxz_72 cyz_72 cpz_72 _ hw) (pcVN (n := 0) hta tw_286 (hKE.2.1 _ (List.mem_of_getElem? (i := 2) rfl)) tw_17 tw_284 tp_8 rfl rfl hd_X0_steps ⟨Nat.le_of_ble_eq_true rfl, Nat.le_of_ble_eq_true rfl⟩) ⟨fbR, va_recv hKE.1 hP (ci := 1) (q0 := i_75) rfl hi_75, fun U hU hW => ⟨rfl, preR.mk hPc hKE hU hW⟩⟩ rfl rfl hl.1 rfl (lv_room (Nat.le_of_ble_eq_true rfl)) dX2_isRight_17 ⟨Nat.le_of_ble_eq_true rfl, Nat.le_of_ble_eq_true rfl⟩)) (fun r_76 hw => ?_)
    refine lv_if_le (tgt := 51) hx hb dX2_isRight_20 (by decide) (fun c_77 => ?_) (fun c_77 => ?_)
    · have hw := hw.1 c_77
      refine lv_iconst (v := 0) hx hb dX2_isRight_51 (by decide) ?_
      exact W.zret (v := 0) hx hb hr rfl (fun t ht hW => ⟨0, rfl, hw, ht⟩) (fun q hq => nomatch hq) dX2_isRight_52
    · have hw := hw.2 c_77
      refine lv_aload_n hx hb dX2_isRight_23 rfl (lv_at hl 0 rfl) ?_
      refine va_get (D := eD E) (ci := 3) (v := .int (gx 9)) (C := RX2) (T := TX2) (N := 19) hx hb hta lay_X2 hown hKE.1 hP 0 rfl rfl 9 (by decide) (hta _ tw_76) (fun _ h9 => h9) rfl dX2_isRight_24 ?_
      refine lv_aload_n hx hb dX2_isRight_27 rfl (lv_at hl 1 rfl) ?_
      obtain ⟨i_78, hi_78⟩ := va_pl_get (X := [((ax 0), .inr (3, [.ref (ax 1), .ref (ax 2), .ref (ax 4), .ref (ax 6), .int (gx 4), .int (gx 5), .int (gx 6), .int (gx 7), va_rf lt, .int (gx 9), .int (gx 10), .int (gx 11), .int (gx 12), .int (gx 13), .int (gx 14), .int (gx 15), .int (gx 16), .int (gx 17), .int (gx 18)])), ((ax 1), .inr (0, [.int mo, .ref ad, .int ln])), ((ax 2), .inr (2, [.ref (ax 3), .int pk])), ((ax 3), .inl (eC E 1, 157, .inr (.inl pw))), ((ax 4), .inr (2, [.ref (ax 5), .int lk])), ((ax 5), .inl (eC E 1, 157, .inr (.inl lw))), ((ax 6), .inl (eC E 0, 3, .inl ik))]) (f := pf) hyz_72
      rw [hfz_72] at hi_78
      refine va_getN (D := eD E) (ci := 1) (v := .int cxz_72) (C := RX0) (T := TX0) (N := 4) hx hb hta lay_X0 hown hKE.1 hP i_78 hi_78 rfl 1 (by decide) (va_Nw.use rfl (hKE.2.1 _ (List.mem_of_getElem? (i := 10) rfl))) (fun _ h9 => h9) rfl dX2_isRight_28 ?_
      refine lv_iadd hx hb dX2_isRight_31 ?_
      refine lv_aload_n hx hb dX2_isRight_32 rfl (lv_at hl 0 rfl) ?_
      refine va_get (D := eD E) (ci := 3) (v := .int (gx 10)) (C := RX2) (T := TX2) (N := 19) hx hb hta lay_X2 hown hKE.1 hP 0 rfl rfl 10 (by decide) (hta _ tw_77) (fun _ h9 => h9) rfl dX2_isRight_33 ?_
      refine lv_aload_n hx hb dX2_isRight_36 rfl (lv_at hl 1 rfl) ?_
      obtain ⟨i_79, hi_79⟩ := va_pl_get (X := [((ax 0), .inr (3, [.ref (ax 1), .ref (ax 2), .ref (ax 4), .ref (ax 6), .int (gx 4), .int (gx 5), .int (gx 6), .int (gx 7), va_rf lt, .int (gx 9), .int (gx 10), .int (gx 11), .int (gx 12), .int (gx 13), .int (gx 14), .int (gx 15), .int (gx 16), .int (gx 17), .int (gx 18)])), ((ax 1), .inr (0, [.int mo, .ref ad, .int ln])), ((ax 2), .inr (2, [.ref (ax 3), .int pk])), ((ax 3), .inl (eC E 1, 157, .inr (.inl pw))), ((ax 4), .inr (2, [.ref (ax 5), .int lk])), ((ax 5), .inl (eC E 1, 157, .inr (.inl lw))), ((ax 6), .inl (eC E 0, 3, .inl ik))]) (f := pf) hyz_72
      rw [hfz_72] at hi_79
      refine va_getN (D := eD E) (ci := 1) (v := .int cyz_72) (C := RX0) (T := TX0) (N := 4) hx hb hta lay_X0 hown hKE.1 hP i_79 hi_79 rfl 2 (by decide) (va_Nw.use rfl (hKE.2.1 _ (List.mem_of_getElem? (i := 11) rfl))) (fun _ h9 => h9) rfl dX2_isRight_37 ?_
      refine lv_iadd hx hb dX2_isRight_40 ?_
      have hPc : va_P (eD E) vwCl [] s.heap := va_P_nil
      refine vp_callSi (va_Run.run (va_runS (As := [.int ((gx 9) + cxz_72), .int ((gx 10) + cyz_72)]) (rest := []) ⟨hx, hb, hml, hown, hta⟩ (c_X2_hasCell E l ((gx 9) + cxz_72) ((gx 10) + cyz_72) _ hw) (pcS (n := 2) hta tw_295 tw_293 tw_1 tw_294 rfl rfl hd_X2_hasCell ⟨Nat.le_of_ble_eq_true rfl, Nat.le_of_ble_eq_true rfl⟩) ⟨fbR, fun U hU hW => ⟨rfl, preR.mk hPc hKE hU hW⟩⟩ rfl rfl hl.1 rfl (lv_room (Nat.le_of_ble_eq_true rfl)) dX2_isRight_41 ⟨Nat.le_of_ble_eq_true rfl, Nat.le_of_ble_eq_true rfl⟩)) (fun r_80 hw => ?_)
      refine lv_if_eq (tgt := 51) hx hb dX2_isRight_44 (by decide) (fun c_81 => ?_) (fun c_81 => ?_)
      · have hw := hw.1 c_81
        refine lv_iconst (v := 0) hx hb dX2_isRight_51 (by decide) ?_
        exact W.zret (v := 0) hx hb hr rfl (fun t ht hW => ⟨0, rfl, hw, ht⟩) (fun q hq => nomatch hq) dX2_isRight_52
      · have hw := hw.2 c_81
        refine lv_iconst (v := 1) hx hb dX2_isRight_47 (by decide) ?_
        refine lv_goto (tgt := 52) hx hb dX2_isRight_48 (by decide) ?_
        exact W.zret (v := 1) hx hb hr rfl (fun t ht hW => ⟨1, rfl, hw, ht⟩) (fun q hq => nomatch hq) dX2_isRight_52
  · have hw := hw.1 c_74
    refine lv_aload_n hx hb dX2_isRight_8 rfl (lv_at hl 1 rfl) ?_
    obtain ⟨i_82, hi_82⟩ := va_pl_get (X := [((ax 0), .inr (3, [.ref (ax 1), .ref (ax 2), .ref (ax 4), .ref (ax 6), .int (gx 4), .int (gx 5), .int (gx 6), .int (gx 7), va_rf lt, .int (gx 9), .int (gx 10), .int (gx 11), .int (gx 12), .int (gx 13), .int (gx 14), .int (gx 15), .int (gx 16), .int (gx 17), .int (gx 18)])), ((ax 1), .inr (0, [.int mo, .ref ad, .int ln])), ((ax 2), .inr (2, [.ref (ax 3), .int pk])), ((ax 3), .inl (eC E 1, 157, .inr (.inl pw))), ((ax 4), .inr (2, [.ref (ax 5), .int lk])), ((ax 5), .inl (eC E 1, 157, .inr (.inl lw))), ((ax 6), .inl (eC E 0, 3, .inl ik))]) (f := pf) hyz_72
    rw [hfz_72] at hi_82
    refine va_getN (D := eD E) (ci := 1) (v := .int cpz_72) (C := RX0) (T := TX0) (N := 4) hx hb hta lay_X0 hown hKE.1 hP i_82 hi_82 rfl 3 (by decide) (va_Nw.use rfl (hKE.2.1 _ (List.mem_of_getElem? (i := 12) rfl))) (fun _ h9 => h9) rfl dX2_isRight_9 ?_
    have hPc : va_P (eD E) vwCl [] s.heap := va_P_nil
    refine vp_callSi (va_Run.run (va_runS (As := [.int cpz_72]) (rest := []) ⟨hx, hb, hml, hown, hta⟩ (c_X2_hasPen E l cpz_72 _ hw) (pcS (n := 1) hta tw_144 tw_142 tw_1 tw_143 rfl rfl hd_X2_hasPen ⟨Nat.le_of_ble_eq_true rfl, Nat.le_of_ble_eq_true rfl⟩) ⟨fbR, fun U hU hW => ⟨rfl, preR.mk hPc hKE hU hW⟩⟩ rfl rfl hl.1 rfl (lv_room (Nat.le_of_ble_eq_true rfl)) dX2_isRight_12 ⟨Nat.le_of_ble_eq_true rfl, Nat.le_of_ble_eq_true rfl⟩)) (fun r_83 hw => ?_)
    obtain ⟨hn_84, hw⟩ := hw
    exact W.zret (v := r_83) hx hb hr hn_84 (fun t ht hW => ⟨r_83, rfl, hw, ht⟩) (fun q hq => nomatch hq) dX2_isRight_15
def wp_X2_timeLeft_L9 (E : EV) (post : Int32 → Prop) (gx : Nat → Int32) (lt : Option Nat) (mo : Int32) (ad : Nat) (ln : Int32) (PL : List Nat) (pf : Nat → va_E) (pw : Nat → Int64) (pk : Int32) (lw : Nat → Int64) (lk : Int32) (ik : Nat → Int32)  : Nat → Int32 → Int32 → Int32 → Prop
  | 0, _, _, _ => False
  | n + 1, x1, x2, x3 => (wp_Jx4a65c_size_8abf5 E (fun r_85 : Int32 => ((r_85 ≤ x3 → post ((x1 - (gx 13)) - (gx 14))) ∧ (¬ (r_85 ≤ x3) → (wp_Jx4a65c_get_915e3 E (fun r_87 : Option Nat => ((r_87 = none → False) ∧ (∀ y_88 : Nat, r_87 = some y_88 → (∃ ckz_89 cxz_89 cyz_89 cpz_89 : Int32, y_88 ∈ PL ∧ pf y_88 = .inr (1, [.int ckz_89, .int cxz_89, .int cyz_89, .int cpz_89]) ∧ (wp_X0_draws E (fun r_92 : Int32 => ((x2 = r_92 → ((ckz_89 = 3 → (wp_X0_draws E (fun r_101 : Int32 => (wp_X2_timeLeft_L9 E post gx lt mo ad ln PL pf pw pk lw lk ik n (x1 + 3) r_101 (x3 + 1))) ckz_89 cxz_89 cyz_89 cpz_89)) ∧ (¬ (ckz_89 = 3) → (wp_X0_steps E (fun r_97 : Int32 => (wp_X0_draws E (fun r_99 : Int32 => (wp_X2_timeLeft_L9 E post gx lt mo ad ln PL pf pw pk lw lk ik n (x1 + r_97) r_99 (x3 + 1))) ckz_89 cxz_89 cyz_89 cpz_89)) ckz_89 cxz_89 cyz_89 cpz_89)))) ∧ (¬ (x2 = r_92) → ((ckz_89 = 3 → (wp_X0_draws E (fun r_109 : Int32 => (wp_X2_timeLeft_L9 E post gx lt mo ad ln PL pf pw pk lw lk ik n ((x1 + 2) + 3) r_109 (x3 + 1))) ckz_89 cxz_89 cyz_89 cpz_89)) ∧ (¬ (ckz_89 = 3) → (wp_X0_steps E (fun r_105 : Int32 => (wp_X0_draws E (fun r_107 : Int32 => (wp_X2_timeLeft_L9 E post gx lt mo ad ln PL pf pw pk lw lk ik n ((x1 + 2) + r_105) r_107 (x3 + 1))) ckz_89 cxz_89 cyz_89 cpz_89)) ckz_89 cxz_89 cyz_89 cpz_89)))))) ckz_89 cxz_89 cyz_89 cpz_89))))) mo ad ln PL pf x3)))) mo ad ln PL pf)
def wp_X2_timeLeft (E : EV) (post : Int32 → Prop) (gx : Nat → Int32) (lt : Option Nat) (mo : Int32) (ad : Nat) (ln : Int32) (PL : List Nat) (pf : Nat → va_E) (pw : Nat → Int64) (pk : Int32) (lw : Nat → Int64) (lk : Int32) (ik : Nat → Int32) : Prop := (∃ n : Nat, wp_X2_timeLeft_L9 E post gx lt mo ad ln PL pf pw pk lw lk ik n 0 (gx 15) 0)
set_option maxHeartbeats 4000000 in
set_option maxRecDepth 100000 in
theorem c_X2_timeLeft (E : EV) (l : Launch) (ax : Nat → Nat) (gx : Nat → Int32) (lt : Option Nat) (mo : Int32) (ad : Nat) (ln : Int32) (PL : List Nat) (pf : Nat → va_E) (pw : Nat → Int64) (pk : Int32) (lw : Nat → Int64) (lk : Int32) (ik : Nat → Int32) (post : Int32 → Prop) (hw : wp_X2_timeLeft E post gx lt mo ad ln PL pf pw pk lw lk ik) : Met l yX2_timeLeft (Cond.code yX2_timeLeft cX2_timeLeft 5 (some .int) :: ALLW) ({ frames := 3, cells := 0, slots := 0, locals := 64 } : Room) (va_Pc [.ref (ax 0)] (preR E (wX E ax gx lt mo ad ln PL pf pw pk lw lk ik))) (vp_Si post) 0 0 (fun _ => False) := by
  refine Met.ofW (cc := cX2_timeLeft) (maxL := 5) (ret := (some .int)) (by decide) rfl ?_
  intro p e s m args below meth c s₁ B hml hv
  obtain ⟨rfl, hpre⟩ := hv
  have hx := B.exec
  have hb := B.bytes
  have hr := B.returns
  have hlocks := B.notSynchronized
  have hts := atoms_spec (ws := (Cond.code yX2_timeLeft cX2_timeLeft 5 (some .int) :: ALLW)) B.pre
  have hta : ∀ w ∈ ALLW, w.before ([.ref (ax 0)] : List Value).toArray s = true := fun w h => hts w (List.mem_cons_of_mem _ h)
  have hown : s.vm.findClass RX2 = some m.cls := findClass_of_methodNamed B.named
  obtain ⟨hP, hKE⟩ := hpre
  have hP : va_P (eD E) vwCl ([((ax 0), .inr (3, [.ref (ax 1), .ref (ax 2), .ref (ax 4), .ref (ax 6), .int (gx 4), .int (gx 5), .int (gx 6), .int (gx 7), va_rf lt, .int (gx 9), .int (gx 10), .int (gx 11), .int (gx 12), .int (gx 13), .int (gx 14), .int (gx 15), .int (gx 16), .int (gx 17), .int (gx 18)])), ((ax 1), .inr (0, [.int mo, .ref ad, .int ln])), ((ax 2), .inr (2, [.ref (ax 3), .int pk])), ((ax 3), .inl (eC E 1, 157, .inr (.inl pw))), ((ax 4), .inr (2, [.ref (ax 5), .int lk])), ((ax 5), .inl (eC E 1, 157, .inr (.inl lw))), ((ax 6), .inl (eC E 0, 3, .inl ik))] ++ va_pl PL pf) s.heap := hP
  have hl := lv_entry ([.ref (ax 0)]) (n := 5) (Nat.le_of_ble_eq_true rfl)
  rw [lg_entry_eq]
  generalize (lg_sl ([.ref (ax 0)]) ++ List.replicate (5 - (lg_sl ([.ref (ax 0)])).length) Slot.unset).toArray = ls at hl ⊢
  have hl : lv_has ls 5 [(0, .ref (ax 0))] := hl
  have loop_9 : ∀ (n : Nat) (x1 : Int32) (x2 : Int32) (x3 : Int32), wp_X2_timeLeft_L9 E post gx lt mo ad ln PL pf pw pk lw lk ik n x1 x2 x3 → ∀ (ls : Array Slot), lv_has ls 5 [(0, .ref (ax 0)), (1, .int x1), (2, .int x2), (3, .int x3)] → W p l e (headSpec (Cond.code yX2_timeLeft cX2_timeLeft 5 (some .int) :: ALLW) ({ frames := 3, cells := 0, slots := 0, locals := 64 } : Room)).room s m ([.ref (ax 0)] : List Value).toArray below meth c s.heap [] 0 0 (MQ below (vp_Si post) ([.ref (ax 0)] : List Value).toArray s 0 0 (fun _ => False)) (F0 m 9 ls []) := by
    intro n
    induction n with
    | zero => intro x1 x2 x3 hw; exact hw.elim
    | succ n ih =>
      intro x1 x2 x3 hw ls hl
      unfold wp_X2_timeLeft_L9 at hw
      refine lv_iload_n hx hb dX2_timeLeft_9 rfl (lv_at hl 3 rfl) ?_
      refine lv_aload_n hx hb dX2_timeLeft_10 rfl (lv_at hl 0 rfl) ?_
      refine va_get (D := eD E) (ci := 3) (v := .ref (ax 1)) (C := RX2) (T := TX2) (N := 19) hx hb hta lay_X2 hown hKE.1 hP 0 rfl rfl 0 (by decide) (hta _ tw_67) (fun _ h9 => h9) rfl dX2_timeLeft_11 ?_
      have hPc : va_P (eD E) vwCl ([((ax 1), .inr (0, [.int mo, .ref ad, .int ln]))] ++ va_pl PL pf) s.heap := hP.part [1] rfl
      refine vp_callSi (va_Run.run (va_runV (As := []) (rest := [.int x3]) ⟨hx, hb, hml, hown, hta⟩ (c_Jx4a65c_size_8abf5 E l (ax 1) mo ad ln PL pf _ hw) (pcV (n := 0) hta tw_257 tw_254 tw_4 tw_255 tw_256 rfl rfl hd_Jx4a65c_size_8abf5 ⟨Nat.le_of_ble_eq_true rfl, Nat.le_of_ble_eq_true rfl⟩) ⟨fbR, va_recv hKE.1 hP (ci := 0) (q0 := 1) rfl rfl, fun U hU hW => ⟨rfl, preR.mk hPc hKE hU hW⟩⟩ rfl rfl hl.1 rfl (lv_room (Nat.le_of_ble_eq_true rfl)) dX2_timeLeft_14 ⟨Nat.le_of_ble_eq_true rfl, Nat.le_of_ble_eq_true rfl⟩)) (fun r_85 hw => ?_)
      refine lv_icmp_ge (tgt := 78) hx hb dX2_timeLeft_17 (by decide) (fun c_86 => ?_) (fun c_86 => ?_)
      · have hw := hw.1 c_86
        refine lv_iload_n hx hb dX2_timeLeft_78 rfl (lv_at hl 1 rfl) ?_
        refine lv_aload_n hx hb dX2_timeLeft_79 rfl (lv_at hl 0 rfl) ?_
        refine va_get (D := eD E) (ci := 3) (v := .int (gx 13)) (C := RX2) (T := TX2) (N := 19) hx hb hta lay_X2 hown hKE.1 hP 0 rfl rfl 13 (by decide) (hta _ tw_80) (fun _ h9 => h9) rfl dX2_timeLeft_80 ?_
        refine lv_isub hx hb dX2_timeLeft_83 ?_
        refine lv_aload_n hx hb dX2_timeLeft_84 rfl (lv_at hl 0 rfl) ?_
        refine va_get (D := eD E) (ci := 3) (v := .int (gx 14)) (C := RX2) (T := TX2) (N := 19) hx hb hta lay_X2 hown hKE.1 hP 0 rfl rfl 14 (by decide) (hta _ tw_81) (fun _ h9 => h9) rfl dX2_timeLeft_85 ?_
        refine lv_isub hx hb dX2_timeLeft_88 ?_
        exact W.iret (v := ((x1 - (gx 13)) - (gx 14))) hx hb hr (fun t ht hW => ⟨((x1 - (gx 13)) - (gx 14)), rfl, hw, ht⟩) (fun q hq => nomatch hq) dX2_timeLeft_89
      · have hw := hw.2 c_86
        refine lv_aload_n hx hb dX2_timeLeft_20 rfl (lv_at hl 0 rfl) ?_
        refine va_get (D := eD E) (ci := 3) (v := .ref (ax 1)) (C := RX2) (T := TX2) (N := 19) hx hb hta lay_X2 hown hKE.1 hP 0 rfl rfl 0 (by decide) (hta _ tw_67) (fun _ h9 => h9) rfl dX2_timeLeft_21 ?_
        refine lv_iload_n hx hb dX2_timeLeft_24 rfl (lv_at hl 3 rfl) ?_
        have hPc : va_P (eD E) vwCl ([((ax 1), .inr (0, [.int mo, .ref ad, .int ln]))] ++ va_pl PL pf) s.heap := hP.part [1] rfl
        refine va_csq (va_Run.run (va_runV (As := [.int x3]) (rest := []) ⟨hx, hb, hml, hown, hta⟩ (c_Jx4a65c_get_915e3 E l (ax 1) mo ad ln PL pf x3 _ hw) (pcV (n := 1) hta tw_432 tw_429 tw_4 tw_430 tw_431 rfl rfl hd_Jx4a65c_get_915e3 ⟨Nat.le_of_ble_eq_true rfl, Nat.le_of_ble_eq_true rfl⟩) ⟨fbR, va_recv hKE.1 hP (ci := 0) (q0 := 1) rfl rfl, fun U hU hW => ⟨rfl, preR.mk hPc hKE hU hW⟩⟩ rfl rfl hl.1 rfl (lv_room (Nat.le_of_ble_eq_true rfl)) dX2_timeLeft_25 ⟨Nat.le_of_ble_eq_true rfl, Nat.le_of_ble_eq_true rfl⟩)) (fun r_87 hw => ?_)
        rcases r_87 with _ | y_88
        · have hw := hw.1 rfl
          refine lv_castN hx hb dX2_timeLeft_28 ?_
          refine lv_astoreN (lv' := [(4, .null), (0, .ref (ax 0)), (1, .int x1), (2, .int x2), (3, .int x3)]) hx hb dX2_timeLeft_31 hl (by decide) rfl (fun ls hl => ?_)
          refine lv_iload_n hx hb dX2_timeLeft_33 rfl (lv_at hl 3 rfl) ?_
          refine lv_aloadN hx hb dX2_timeLeft_34 (lv_at hl 0 rfl) ?_
          exact hw.elim
        · have hw := hw.2 y_88 rfl
          obtain ⟨ckz_89, cxz_89, cyz_89, cpz_89, hyz_89, hfz_89, hw⟩ := hw
          obtain ⟨i_90, hi_90⟩ := va_pl_get (X := [((ax 0), .inr (3, [.ref (ax 1), .ref (ax 2), .ref (ax 4), .ref (ax 6), .int (gx 4), .int (gx 5), .int (gx 6), .int (gx 7), va_rf lt, .int (gx 9), .int (gx 10), .int (gx 11), .int (gx 12), .int (gx 13), .int (gx 14), .int (gx 15), .int (gx 16), .int (gx 17), .int (gx 18)])), ((ax 1), .inr (0, [.int mo, .ref ad, .int ln])), ((ax 2), .inr (2, [.ref (ax 3), .int pk])), ((ax 3), .inl (eC E 1, 157, .inr (.inl pw))), ((ax 4), .inr (2, [.ref (ax 5), .int lk])), ((ax 5), .inl (eC E 1, 157, .inr (.inl lw))), ((ax 6), .inl (eC E 0, 3, .inl ik))]) (f := pf) hyz_89
          rw [hfz_89] at hi_90
          refine va_castS hx hb hown (hta _ tw_383) (hKE.1.1 1 (RX0, TX0, 4) rfl).2 (va_recv hKE.1 hP (ci := 1) (q0 := i_90) rfl hi_90) dX2_timeLeft_28 ?_
          refine lv_astore (lv' := [(4, .ref y_88), (0, .ref (ax 0)), (1, .int x1), (2, .int x2), (3, .int x3)]) hx hb dX2_timeLeft_31 hl (by decide) rfl (fun ls hl => ?_)
          refine lv_iload_n hx hb dX2_timeLeft_33 rfl (lv_at hl 3 rfl) ?_
          refine lv_aload hx hb dX2_timeLeft_34 (lv_at hl 0 rfl) ?_
          obtain ⟨i_91, hi_91⟩ := va_pl_get (X := [((ax 0), .inr (3, [.ref (ax 1), .ref (ax 2), .ref (ax 4), .ref (ax 6), .int (gx 4), .int (gx 5), .int (gx 6), .int (gx 7), va_rf lt, .int (gx 9), .int (gx 10), .int (gx 11), .int (gx 12), .int (gx 13), .int (gx 14), .int (gx 15), .int (gx 16), .int (gx 17), .int (gx 18)])), ((ax 1), .inr (0, [.int mo, .ref ad, .int ln])), ((ax 2), .inr (2, [.ref (ax 3), .int pk])), ((ax 3), .inl (eC E 1, 157, .inr (.inl pw))), ((ax 4), .inr (2, [.ref (ax 5), .int lk])), ((ax 5), .inl (eC E 1, 157, .inr (.inl lw))), ((ax 6), .inl (eC E 0, 3, .inl ik))]) (f := pf) hyz_89
          rw [hfz_89] at hi_91
          have hPc : va_P (eD E) vwCl [(y_88, .inr (1, [.int ckz_89, .int cxz_89, .int cyz_89, .int cpz_89]))] s.heap := va_one hP hi_91
          refine vp_callSi (va_Run.run (va_runVN (As := []) (rest := [.int x2]) ⟨hx, hb, hml, hown, hta⟩ (c_X0_draws E l y_88 ckz_89 cxz_89 cyz_89 cpz_89 _ hw) (pcVN (n := 0) hta tw_299 (hKE.2.1 _ (List.mem_of_getElem? (i := 3) rfl)) tw_17 tw_298 tp_9 rfl rfl hd_X0_draws ⟨Nat.le_of_ble_eq_true rfl, Nat.le_of_ble_eq_true rfl⟩) ⟨fbR, va_recv hKE.1 hP (ci := 1) (q0 := i_91) rfl hi_91, fun U hU hW => ⟨rfl, preR.mk hPc hKE hU hW⟩⟩ rfl rfl hl.1 rfl (lv_room (Nat.le_of_ble_eq_true rfl)) dX2_timeLeft_36 ⟨Nat.le_of_ble_eq_true rfl, Nat.le_of_ble_eq_true rfl⟩)) (fun r_92 hw => ?_)
          refine lv_icmp_eq (tgt := 45) hx hb dX2_timeLeft_39 (by decide) (fun c_93 => ?_) (fun c_93 => ?_)
          · have hw := hw.1 c_93
            refine lv_iload_n hx hb dX2_timeLeft_45 rfl (lv_at hl 2 rfl) ?_
            refine lv_aload hx hb dX2_timeLeft_46 (lv_at hl 0 rfl) ?_
            obtain ⟨i_94, hi_94⟩ := va_pl_get (X := [((ax 0), .inr (3, [.ref (ax 1), .ref (ax 2), .ref (ax 4), .ref (ax 6), .int (gx 4), .int (gx 5), .int (gx 6), .int (gx 7), va_rf lt, .int (gx 9), .int (gx 10), .int (gx 11), .int (gx 12), .int (gx 13), .int (gx 14), .int (gx 15), .int (gx 16), .int (gx 17), .int (gx 18)])), ((ax 1), .inr (0, [.int mo, .ref ad, .int ln])), ((ax 2), .inr (2, [.ref (ax 3), .int pk])), ((ax 3), .inl (eC E 1, 157, .inr (.inl pw))), ((ax 4), .inr (2, [.ref (ax 5), .int lk])), ((ax 5), .inl (eC E 1, 157, .inr (.inl lw))), ((ax 6), .inl (eC E 0, 3, .inl ik))]) (f := pf) hyz_89
            rw [hfz_89] at hi_94
            refine va_getN (D := eD E) (ci := 1) (v := .int ckz_89) (C := RX0) (T := TX0) (N := 4) hx hb hta lay_X0 hown hKE.1 hP i_94 hi_94 rfl 0 (by decide) (va_Nw.use rfl (hKE.2.1 _ (List.mem_of_getElem? (i := 9) rfl))) (fun _ h9 => h9) rfl dX2_timeLeft_48 ?_
            refine lv_iconst (v := 3) hx hb dX2_timeLeft_51 (by decide) ?_
            refine lv_icmp_ne (tgt := 59) hx hb dX2_timeLeft_52 (by decide) (fun c_95 => ?_) (fun c_95 => ?_)
            · have hw := hw.2 c_95
              refine lv_aload hx hb dX2_timeLeft_59 (lv_at hl 0 rfl) ?_
              obtain ⟨i_96, hi_96⟩ := va_pl_get (X := [((ax 0), .inr (3, [.ref (ax 1), .ref (ax 2), .ref (ax 4), .ref (ax 6), .int (gx 4), .int (gx 5), .int (gx 6), .int (gx 7), va_rf lt, .int (gx 9), .int (gx 10), .int (gx 11), .int (gx 12), .int (gx 13), .int (gx 14), .int (gx 15), .int (gx 16), .int (gx 17), .int (gx 18)])), ((ax 1), .inr (0, [.int mo, .ref ad, .int ln])), ((ax 2), .inr (2, [.ref (ax 3), .int pk])), ((ax 3), .inl (eC E 1, 157, .inr (.inl pw))), ((ax 4), .inr (2, [.ref (ax 5), .int lk])), ((ax 5), .inl (eC E 1, 157, .inr (.inl lw))), ((ax 6), .inl (eC E 0, 3, .inl ik))]) (f := pf) hyz_89
              rw [hfz_89] at hi_96
              have hPc : va_P (eD E) vwCl [(y_88, .inr (1, [.int ckz_89, .int cxz_89, .int cyz_89, .int cpz_89]))] s.heap := va_one hP hi_96
              refine vp_callSi (va_Run.run (va_runVN (As := []) (rest := [.int x1]) ⟨hx, hb, hml, hown, hta⟩ (c_X0_steps E l y_88 ckz_89 cxz_89 cyz_89 cpz_89 _ hw) (pcVN (n := 0) hta tw_286 (hKE.2.1 _ (List.mem_of_getElem? (i := 2) rfl)) tw_17 tw_284 tp_8 rfl rfl hd_X0_steps ⟨Nat.le_of_ble_eq_true rfl, Nat.le_of_ble_eq_true rfl⟩) ⟨fbR, va_recv hKE.1 hP (ci := 1) (q0 := i_96) rfl hi_96, fun U hU hW => ⟨rfl, preR.mk hPc hKE hU hW⟩⟩ rfl rfl hl.1 rfl (lv_room (Nat.le_of_ble_eq_true rfl)) dX2_timeLeft_61 ⟨Nat.le_of_ble_eq_true rfl, Nat.le_of_ble_eq_true rfl⟩)) (fun r_97 hw => ?_)
              refine lv_iadd hx hb dX2_timeLeft_64 ?_
              refine lv_istore_n (lv' := [(1, .int (x1 + r_97)), (4, .ref y_88), (0, .ref (ax 0)), (2, .int x2), (3, .int x3)]) hx hb dX2_timeLeft_65 rfl hl (by decide) rfl (fun ls hl => ?_)
              refine lv_aload hx hb dX2_timeLeft_66 (lv_at hl 1 rfl) ?_
              obtain ⟨i_98, hi_98⟩ := va_pl_get (X := [((ax 0), .inr (3, [.ref (ax 1), .ref (ax 2), .ref (ax 4), .ref (ax 6), .int (gx 4), .int (gx 5), .int (gx 6), .int (gx 7), va_rf lt, .int (gx 9), .int (gx 10), .int (gx 11), .int (gx 12), .int (gx 13), .int (gx 14), .int (gx 15), .int (gx 16), .int (gx 17), .int (gx 18)])), ((ax 1), .inr (0, [.int mo, .ref ad, .int ln])), ((ax 2), .inr (2, [.ref (ax 3), .int pk])), ((ax 3), .inl (eC E 1, 157, .inr (.inl pw))), ((ax 4), .inr (2, [.ref (ax 5), .int lk])), ((ax 5), .inl (eC E 1, 157, .inr (.inl lw))), ((ax 6), .inl (eC E 0, 3, .inl ik))]) (f := pf) hyz_89
              rw [hfz_89] at hi_98
              have hPc : va_P (eD E) vwCl [(y_88, .inr (1, [.int ckz_89, .int cxz_89, .int cyz_89, .int cpz_89]))] s.heap := va_one hP hi_98
              refine vp_callSi (va_Run.run (va_runVN (As := []) (rest := []) ⟨hx, hb, hml, hown, hta⟩ (c_X0_draws E l y_88 ckz_89 cxz_89 cyz_89 cpz_89 _ hw) (pcVN (n := 0) hta tw_299 (hKE.2.1 _ (List.mem_of_getElem? (i := 3) rfl)) tw_17 tw_298 tp_9 rfl rfl hd_X0_draws ⟨Nat.le_of_ble_eq_true rfl, Nat.le_of_ble_eq_true rfl⟩) ⟨fbR, va_recv hKE.1 hP (ci := 1) (q0 := i_98) rfl hi_98, fun U hU hW => ⟨rfl, preR.mk hPc hKE hU hW⟩⟩ rfl rfl hl.1 rfl (lv_room (Nat.le_of_ble_eq_true rfl)) dX2_timeLeft_68 ⟨Nat.le_of_ble_eq_true rfl, Nat.le_of_ble_eq_true rfl⟩)) (fun r_99 hw => ?_)
              refine lv_istore_n (lv' := [(2, .int r_99), (1, .int (x1 + r_97)), (4, .ref y_88), (0, .ref (ax 0)), (3, .int x3)]) hx hb dX2_timeLeft_71 rfl hl (by decide) rfl (fun ls hl => ?_)
              refine lv_iinc (v := (x3 + 1)) (lv' := [(3, .int (x3 + 1)), (2, .int r_99), (1, .int (x1 + r_97)), (4, .ref y_88), (0, .ref (ax 0))]) hx hb dX2_timeLeft_72 hl (k := 4) rfl rfl (by decide) rfl (fun ls hl => ?_)
              refine lv_goto (tgt := 9) hx hb dX2_timeLeft_75 (by decide) ?_
              exact ih (x1 + r_97) r_99 (x3 + 1) hw ls (lv_sub hl [4, 2, 1, 0] rfl)
            · have hw := hw.1 c_95
              refine lv_iconst (v := 3) hx hb dX2_timeLeft_55 (by decide) ?_
              refine lv_goto (tgt := 64) hx hb dX2_timeLeft_56 (by decide) ?_
              refine lv_iadd hx hb dX2_timeLeft_64 ?_
              refine lv_istore_n (lv' := [(1, .int (x1 + 3)), (4, .ref y_88), (0, .ref (ax 0)), (2, .int x2), (3, .int x3)]) hx hb dX2_timeLeft_65 rfl hl (by decide) rfl (fun ls hl => ?_)
              refine lv_aload hx hb dX2_timeLeft_66 (lv_at hl 1 rfl) ?_
              obtain ⟨i_100, hi_100⟩ := va_pl_get (X := [((ax 0), .inr (3, [.ref (ax 1), .ref (ax 2), .ref (ax 4), .ref (ax 6), .int (gx 4), .int (gx 5), .int (gx 6), .int (gx 7), va_rf lt, .int (gx 9), .int (gx 10), .int (gx 11), .int (gx 12), .int (gx 13), .int (gx 14), .int (gx 15), .int (gx 16), .int (gx 17), .int (gx 18)])), ((ax 1), .inr (0, [.int mo, .ref ad, .int ln])), ((ax 2), .inr (2, [.ref (ax 3), .int pk])), ((ax 3), .inl (eC E 1, 157, .inr (.inl pw))), ((ax 4), .inr (2, [.ref (ax 5), .int lk])), ((ax 5), .inl (eC E 1, 157, .inr (.inl lw))), ((ax 6), .inl (eC E 0, 3, .inl ik))]) (f := pf) hyz_89
              rw [hfz_89] at hi_100
              have hPc : va_P (eD E) vwCl [(y_88, .inr (1, [.int ckz_89, .int cxz_89, .int cyz_89, .int cpz_89]))] s.heap := va_one hP hi_100
              refine vp_callSi (va_Run.run (va_runVN (As := []) (rest := []) ⟨hx, hb, hml, hown, hta⟩ (c_X0_draws E l y_88 ckz_89 cxz_89 cyz_89 cpz_89 _ hw) (pcVN (n := 0) hta tw_299 (hKE.2.1 _ (List.mem_of_getElem? (i := 3) rfl)) tw_17 tw_298 tp_9 rfl rfl hd_X0_draws ⟨Nat.le_of_ble_eq_true rfl, Nat.le_of_ble_eq_true rfl⟩) ⟨fbR, va_recv hKE.1 hP (ci := 1) (q0 := i_100) rfl hi_100, fun U hU hW => ⟨rfl, preR.mk hPc hKE hU hW⟩⟩ rfl rfl hl.1 rfl (lv_room (Nat.le_of_ble_eq_true rfl)) dX2_timeLeft_68 ⟨Nat.le_of_ble_eq_true rfl, Nat.le_of_ble_eq_true rfl⟩)) (fun r_101 hw => ?_)
              refine lv_istore_n (lv' := [(2, .int r_101), (1, .int (x1 + 3)), (4, .ref y_88), (0, .ref (ax 0)), (3, .int x3)]) hx hb dX2_timeLeft_71 rfl hl (by decide) rfl (fun ls hl => ?_)
              refine lv_iinc (v := (x3 + 1)) (lv' := [(3, .int (x3 + 1)), (2, .int r_101), (1, .int (x1 + 3)), (4, .ref y_88), (0, .ref (ax 0))]) hx hb dX2_timeLeft_72 hl (k := 4) rfl rfl (by decide) rfl (fun ls hl => ?_)
              refine lv_goto (tgt := 9) hx hb dX2_timeLeft_75 (by decide) ?_
              exact ih (x1 + 3) r_101 (x3 + 1) hw ls (lv_sub hl [4, 2, 1, 0] rfl)
          · have hw := hw.2 c_93
            refine lv_iinc (v := (x1 + 2)) (lv' := [(1, .int (x1 + 2)), (4, .ref y_88), (0, .ref (ax 0)), (2, .int x2), (3, .int x3)]) hx hb dX2_timeLeft_42 hl (k := 2) rfl rfl (by decide) rfl (fun ls hl => ?_)
            refine lv_iload_n hx hb dX2_timeLeft_45 rfl (lv_at hl 0 rfl) ?_
            refine lv_aload hx hb dX2_timeLeft_46 (lv_at hl 1 rfl) ?_
            obtain ⟨i_102, hi_102⟩ := va_pl_get (X := [((ax 0), .inr (3, [.ref (ax 1), .ref (ax 2), .ref (ax 4), .ref (ax 6), .int (gx 4), .int (gx 5), .int (gx 6), .int (gx 7), va_rf lt, .int (gx 9), .int (gx 10), .int (gx 11), .int (gx 12), .int (gx 13), .int (gx 14), .int (gx 15), .int (gx 16), .int (gx 17), .int (gx 18)])), ((ax 1), .inr (0, [.int mo, .ref ad, .int ln])), ((ax 2), .inr (2, [.ref (ax 3), .int pk])), ((ax 3), .inl (eC E 1, 157, .inr (.inl pw))), ((ax 4), .inr (2, [.ref (ax 5), .int lk])), ((ax 5), .inl (eC E 1, 157, .inr (.inl lw))), ((ax 6), .inl (eC E 0, 3, .inl ik))]) (f := pf) hyz_89
            rw [hfz_89] at hi_102
            refine va_getN (D := eD E) (ci := 1) (v := .int ckz_89) (C := RX0) (T := TX0) (N := 4) hx hb hta lay_X0 hown hKE.1 hP i_102 hi_102 rfl 0 (by decide) (va_Nw.use rfl (hKE.2.1 _ (List.mem_of_getElem? (i := 9) rfl))) (fun _ h9 => h9) rfl dX2_timeLeft_48 ?_
            refine lv_iconst (v := 3) hx hb dX2_timeLeft_51 (by decide) ?_
            refine lv_icmp_ne (tgt := 59) hx hb dX2_timeLeft_52 (by decide) (fun c_103 => ?_) (fun c_103 => ?_)
            · have hw := hw.2 c_103
              refine lv_aload hx hb dX2_timeLeft_59 (lv_at hl 1 rfl) ?_
              obtain ⟨i_104, hi_104⟩ := va_pl_get (X := [((ax 0), .inr (3, [.ref (ax 1), .ref (ax 2), .ref (ax 4), .ref (ax 6), .int (gx 4), .int (gx 5), .int (gx 6), .int (gx 7), va_rf lt, .int (gx 9), .int (gx 10), .int (gx 11), .int (gx 12), .int (gx 13), .int (gx 14), .int (gx 15), .int (gx 16), .int (gx 17), .int (gx 18)])), ((ax 1), .inr (0, [.int mo, .ref ad, .int ln])), ((ax 2), .inr (2, [.ref (ax 3), .int pk])), ((ax 3), .inl (eC E 1, 157, .inr (.inl pw))), ((ax 4), .inr (2, [.ref (ax 5), .int lk])), ((ax 5), .inl (eC E 1, 157, .inr (.inl lw))), ((ax 6), .inl (eC E 0, 3, .inl ik))]) (f := pf) hyz_89
              rw [hfz_89] at hi_104
              have hPc : va_P (eD E) vwCl [(y_88, .inr (1, [.int ckz_89, .int cxz_89, .int cyz_89, .int cpz_89]))] s.heap := va_one hP hi_104
              refine vp_callSi (va_Run.run (va_runVN (As := []) (rest := [.int (x1 + 2)]) ⟨hx, hb, hml, hown, hta⟩ (c_X0_steps E l y_88 ckz_89 cxz_89 cyz_89 cpz_89 _ hw) (pcVN (n := 0) hta tw_286 (hKE.2.1 _ (List.mem_of_getElem? (i := 2) rfl)) tw_17 tw_284 tp_8 rfl rfl hd_X0_steps ⟨Nat.le_of_ble_eq_true rfl, Nat.le_of_ble_eq_true rfl⟩) ⟨fbR, va_recv hKE.1 hP (ci := 1) (q0 := i_104) rfl hi_104, fun U hU hW => ⟨rfl, preR.mk hPc hKE hU hW⟩⟩ rfl rfl hl.1 rfl (lv_room (Nat.le_of_ble_eq_true rfl)) dX2_timeLeft_61 ⟨Nat.le_of_ble_eq_true rfl, Nat.le_of_ble_eq_true rfl⟩)) (fun r_105 hw => ?_)
              refine lv_iadd hx hb dX2_timeLeft_64 ?_
              refine lv_istore_n (lv' := [(1, .int ((x1 + 2) + r_105)), (4, .ref y_88), (0, .ref (ax 0)), (2, .int x2), (3, .int x3)]) hx hb dX2_timeLeft_65 rfl hl (by decide) rfl (fun ls hl => ?_)
              refine lv_aload hx hb dX2_timeLeft_66 (lv_at hl 1 rfl) ?_
              obtain ⟨i_106, hi_106⟩ := va_pl_get (X := [((ax 0), .inr (3, [.ref (ax 1), .ref (ax 2), .ref (ax 4), .ref (ax 6), .int (gx 4), .int (gx 5), .int (gx 6), .int (gx 7), va_rf lt, .int (gx 9), .int (gx 10), .int (gx 11), .int (gx 12), .int (gx 13), .int (gx 14), .int (gx 15), .int (gx 16), .int (gx 17), .int (gx 18)])), ((ax 1), .inr (0, [.int mo, .ref ad, .int ln])), ((ax 2), .inr (2, [.ref (ax 3), .int pk])), ((ax 3), .inl (eC E 1, 157, .inr (.inl pw))), ((ax 4), .inr (2, [.ref (ax 5), .int lk])), ((ax 5), .inl (eC E 1, 157, .inr (.inl lw))), ((ax 6), .inl (eC E 0, 3, .inl ik))]) (f := pf) hyz_89
              rw [hfz_89] at hi_106
              have hPc : va_P (eD E) vwCl [(y_88, .inr (1, [.int ckz_89, .int cxz_89, .int cyz_89, .int cpz_89]))] s.heap := va_one hP hi_106
              refine vp_callSi (va_Run.run (va_runVN (As := []) (rest := []) ⟨hx, hb, hml, hown, hta⟩ (c_X0_draws E l y_88 ckz_89 cxz_89 cyz_89 cpz_89 _ hw) (pcVN (n := 0) hta tw_299 (hKE.2.1 _ (List.mem_of_getElem? (i := 3) rfl)) tw_17 tw_298 tp_9 rfl rfl hd_X0_draws ⟨Nat.le_of_ble_eq_true rfl, Nat.le_of_ble_eq_true rfl⟩) ⟨fbR, va_recv hKE.1 hP (ci := 1) (q0 := i_106) rfl hi_106, fun U hU hW => ⟨rfl, preR.mk hPc hKE hU hW⟩⟩ rfl rfl hl.1 rfl (lv_room (Nat.le_of_ble_eq_true rfl)) dX2_timeLeft_68 ⟨Nat.le_of_ble_eq_true rfl, Nat.le_of_ble_eq_true rfl⟩)) (fun r_107 hw => ?_)
              refine lv_istore_n (lv' := [(2, .int r_107), (1, .int ((x1 + 2) + r_105)), (4, .ref y_88), (0, .ref (ax 0)), (3, .int x3)]) hx hb dX2_timeLeft_71 rfl hl (by decide) rfl (fun ls hl => ?_)
              refine lv_iinc (v := (x3 + 1)) (lv' := [(3, .int (x3 + 1)), (2, .int r_107), (1, .int ((x1 + 2) + r_105)), (4, .ref y_88), (0, .ref (ax 0))]) hx hb dX2_timeLeft_72 hl (k := 4) rfl rfl (by decide) rfl (fun ls hl => ?_)
              refine lv_goto (tgt := 9) hx hb dX2_timeLeft_75 (by decide) ?_
              exact ih ((x1 + 2) + r_105) r_107 (x3 + 1) hw ls (lv_sub hl [4, 2, 1, 0] rfl)
            · have hw := hw.1 c_103
              refine lv_iconst (v := 3) hx hb dX2_timeLeft_55 (by decide) ?_
              refine lv_goto (tgt := 64) hx hb dX2_timeLeft_56 (by decide) ?_
              refine lv_iadd hx hb dX2_timeLeft_64 ?_
              refine lv_istore_n (lv' := [(1, .int ((x1 + 2) + 3)), (4, .ref y_88), (0, .ref (ax 0)), (2, .int x2), (3, .int x3)]) hx hb dX2_timeLeft_65 rfl hl (by decide) rfl (fun ls hl => ?_)
              refine lv_aload hx hb dX2_timeLeft_66 (lv_at hl 1 rfl) ?_
              obtain ⟨i_108, hi_108⟩ := va_pl_get (X := [((ax 0), .inr (3, [.ref (ax 1), .ref (ax 2), .ref (ax 4), .ref (ax 6), .int (gx 4), .int (gx 5), .int (gx 6), .int (gx 7), va_rf lt, .int (gx 9), .int (gx 10), .int (gx 11), .int (gx 12), .int (gx 13), .int (gx 14), .int (gx 15), .int (gx 16), .int (gx 17), .int (gx 18)])), ((ax 1), .inr (0, [.int mo, .ref ad, .int ln])), ((ax 2), .inr (2, [.ref (ax 3), .int pk])), ((ax 3), .inl (eC E 1, 157, .inr (.inl pw))), ((ax 4), .inr (2, [.ref (ax 5), .int lk])), ((ax 5), .inl (eC E 1, 157, .inr (.inl lw))), ((ax 6), .inl (eC E 0, 3, .inl ik))]) (f := pf) hyz_89
              rw [hfz_89] at hi_108
              have hPc : va_P (eD E) vwCl [(y_88, .inr (1, [.int ckz_89, .int cxz_89, .int cyz_89, .int cpz_89]))] s.heap := va_one hP hi_108
              refine vp_callSi (va_Run.run (va_runVN (As := []) (rest := []) ⟨hx, hb, hml, hown, hta⟩ (c_X0_draws E l y_88 ckz_89 cxz_89 cyz_89 cpz_89 _ hw) (pcVN (n := 0) hta tw_299 (hKE.2.1 _ (List.mem_of_getElem? (i := 3) rfl)) tw_17 tw_298 tp_9 rfl rfl hd_X0_draws ⟨Nat.le_of_ble_eq_true rfl, Nat.le_of_ble_eq_true rfl⟩) ⟨fbR, va_recv hKE.1 hP (ci := 1) (q0 := i_108) rfl hi_108, fun U hU hW => ⟨rfl, preR.mk hPc hKE hU hW⟩⟩ rfl rfl hl.1 rfl (lv_room (Nat.le_of_ble_eq_true rfl)) dX2_timeLeft_68 ⟨Nat.le_of_ble_eq_true rfl, Nat.le_of_ble_eq_true rfl⟩)) (fun r_109 hw => ?_)
              refine lv_istore_n (lv' := [(2, .int r_109), (1, .int ((x1 + 2) + 3)), (4, .ref y_88), (0, .ref (ax 0)), (3, .int x3)]) hx hb dX2_timeLeft_71 rfl hl (by decide) rfl (fun ls hl => ?_)
              refine lv_iinc (v := (x3 + 1)) (lv' := [(3, .int (x3 + 1)), (2, .int r_109), (1, .int ((x1 + 2) + 3)), (4, .ref y_88), (0, .ref (ax 0))]) hx hb dX2_timeLeft_72 hl (k := 4) rfl rfl (by decide) rfl (fun ls hl => ?_)
              refine lv_goto (tgt := 9) hx hb dX2_timeLeft_75 (by decide) ?_
              exact ih ((x1 + 2) + 3) r_109 (x3 + 1) hw ls (lv_sub hl [4, 2, 1, 0] rfl)
  unfold wp_X2_timeLeft at hw
  refine lv_iconst (v := 0) hx hb dX2_timeLeft_0 (by decide) ?_
  refine lv_istore_n (lv' := [(1, .int 0), (0, .ref (ax 0))]) hx hb dX2_timeLeft_1 rfl hl (by decide) rfl (fun ls hl => ?_)
  refine lv_aload_n hx hb dX2_timeLeft_2 rfl (lv_at hl 1 rfl) ?_
  refine va_get (D := eD E) (ci := 3) (v := .int (gx 15)) (C := RX2) (T := TX2) (N := 19) hx hb hta lay_X2 hown hKE.1 hP 0 rfl rfl 15 (by decide) (hta _ tw_82) (fun _ h9 => h9) rfl dX2_timeLeft_3 ?_
  refine lv_istore_n (lv' := [(2, .int (gx 15)), (1, .int 0), (0, .ref (ax 0))]) hx hb dX2_timeLeft_6 rfl hl (by decide) rfl (fun ls hl => ?_)
  refine lv_iconst (v := 0) hx hb dX2_timeLeft_7 (by decide) ?_
  refine lv_istore_n (lv' := [(3, .int 0), (2, .int (gx 15)), (1, .int 0), (0, .ref (ax 0))]) hx hb dX2_timeLeft_8 rfl hl (by decide) rfl (fun ls hl => ?_)
  obtain ⟨n_110, hw⟩ := hw
  exact loop_9 n_110 0 (gx 15) 0 hw ls (lv_sub hl [3, 2, 1, 0] rfl)
