def wp_X0_draws (E : EV) (post : Int32 → Prop) (ck : Int32) (cx : Int32) (cy : Int32) (cp : Int32) : Prop := ((ck = 2 → post 1) ∧ (¬ (ck = 2) → post 0))
set_option maxHeartbeats 4000000 in
set_option maxRecDepth 100000 in
theorem c_X0_draws (E : EV) (l : Launch) (ca : Nat) (ck : Int32) (cx : Int32) (cy : Int32) (cp : Int32) (post : Int32 → Prop) (hw : wp_X0_draws E post ck cx cy cp) : Met l yX0_draws (Cond.code yX0_draws cX0_draws 1 (some .boolean) :: ALLW) ({ frames := 0, cells := 0, slots := 0, locals := 0 } : Room) (va_Pc [.ref ca] (preR E (wC ca ck cx cy cp))) (vp_Si post) 0 0 (fun _ => False) := by
  refine Met.ofW (cc := cX0_draws) (maxL := 1) (ret := (some .boolean)) (by decide) rfl ?_
  intro p e s m args below meth c s₁ B hml hv
  obtain ⟨rfl, hpre⟩ := hv
  have hx := B.exec
  have hb := B.bytes
  have hr := B.returns
  have hlocks := B.notSynchronized
  have hts := atoms_spec (ws := (Cond.code yX0_draws cX0_draws 1 (some .boolean) :: ALLW)) B.pre
  have hta : ∀ w ∈ ALLW, w.before ([.ref ca] : List Value).toArray s = true := fun w h => hts w (List.mem_cons_of_mem _ h)
  have hown : s.vm.findClass RX0 = some m.cls := findClass_of_methodNamed B.named
  obtain ⟨hP, hKE⟩ := hpre
  have hP : va_P (eD E) vwCl [(ca, .inr (1, [.int ck, .int cx, .int cy, .int cp]))] s.heap := hP
  have hl := lv_entry ([.ref ca]) (n := 1) (Nat.le_of_ble_eq_true rfl)
  rw [lg_entry_eq]
  generalize (lg_sl ([.ref ca]) ++ List.replicate (1 - (lg_sl ([.ref ca])).length) Slot.unset).toArray = ls at hl ⊢
  have hl : lv_has ls 1 [(0, .ref ca)] := hl
  unfold wp_X0_draws at hw
  refine lv_aload_n hx hb dX0_draws_0 rfl (lv_at hl 0 rfl) ?_
  refine va_get (D := eD E) (ci := 1) (v := .int ck) (C := RX0) (T := TX0) (N := 4) hx hb hta lay_X0 hown hKE.1 hP 0 rfl rfl 0 (by decide) (hta _ tw_388) (fun _ h9 => h9) rfl dX0_draws_1 ?_
  refine lv_iconst (v := 2) hx hb dX0_draws_4 (by decide) ?_
  refine lv_icmp_ne (tgt := 12) hx hb dX0_draws_5 (by decide) (fun c_1 => ?_) (fun c_1 => ?_)
  · have hw := hw.2 c_1
    refine lv_iconst (v := 0) hx hb dX0_draws_12 (by decide) ?_
    exact W.zret (v := 0) hx hb hr rfl (fun t ht hW => ⟨0, rfl, hw, ht⟩) (fun q hq => nomatch hq) dX0_draws_13
  · have hw := hw.1 c_1
    refine lv_iconst (v := 1) hx hb dX0_draws_8 (by decide) ?_
    refine lv_goto (tgt := 13) hx hb dX0_draws_9 (by decide) ?_
    exact W.zret (v := 1) hx hb hr rfl (fun t ht hW => ⟨1, rfl, hw, ht⟩) (fun q hq => nomatch hq) dX0_draws_13
def wp_X0_steps (E : EV) (post : Int32 → Prop) (ck : Int32) (cx : Int32) (cy : Int32) (cp : Int32) : Prop := post (if (if 0 ≤ cx then cx else 0 - cx) < (if 0 ≤ cy then cy else 0 - cy) then (if 0 ≤ cy then cy else 0 - cy) else (if 0 ≤ cx then cx else 0 - cx))
set_option maxHeartbeats 4000000 in
set_option maxRecDepth 100000 in
theorem c_X0_steps (E : EV) (l : Launch) (ca : Nat) (ck : Int32) (cx : Int32) (cy : Int32) (cp : Int32) (post : Int32 → Prop) (hw : wp_X0_steps E post ck cx cy cp) : Met l yX0_steps (Cond.code yX0_steps cX0_steps 1 (some .int) :: ALLW) ({ frames := 1, cells := 0, slots := 0, locals := 14 } : Room) (va_Pc [.ref ca] (preR E (wC ca ck cx cy cp))) (vp_Si post) 0 0 (fun _ => False) := by
  refine Met.ofW (cc := cX0_steps) (maxL := 1) (ret := (some .int)) (by decide) rfl ?_
  intro p e s m args below meth c s₁ B hml hv
  obtain ⟨rfl, hpre⟩ := hv
  have hx := B.exec
  have hb := B.bytes
  have hr := B.returns
  have hlocks := B.notSynchronized
  have hts := atoms_spec (ws := (Cond.code yX0_steps cX0_steps 1 (some .int) :: ALLW)) B.pre
  have hta : ∀ w ∈ ALLW, w.before ([.ref ca] : List Value).toArray s = true := fun w h => hts w (List.mem_cons_of_mem _ h)
  have hown : s.vm.findClass RX0 = some m.cls := findClass_of_methodNamed B.named
  obtain ⟨hP, hKE⟩ := hpre
  have hP : va_P (eD E) vwCl [(ca, .inr (1, [.int ck, .int cx, .int cy, .int cp]))] s.heap := hP
  have hl := lv_entry ([.ref ca]) (n := 1) (Nat.le_of_ble_eq_true rfl)
  rw [lg_entry_eq]
  generalize (lg_sl ([.ref ca]) ++ List.replicate (1 - (lg_sl ([.ref ca])).length) Slot.unset).toArray = ls at hl ⊢
  have hl : lv_has ls 1 [(0, .ref ca)] := hl
  unfold wp_X0_steps at hw
  refine lv_aload_n hx hb dX0_steps_0 rfl (lv_at hl 0 rfl) ?_
  refine va_get (D := eD E) (ci := 1) (v := .int cx) (C := RX0) (T := TX0) (N := 4) hx hb hta lay_X0 hown hKE.1 hP 0 rfl rfl 1 (by decide) (hta _ tw_390) (fun _ h9 => h9) rfl dX0_steps_1 ?_
  refine va_mabs hx hb (hml.trans hl.1.symm) hown (hta _ tw_287) (hta _ tw_288) (hta _ tw_8) (hta _ tw_289) (Nat.le_of_ble_eq_true rfl) (Nat.le_of_ble_eq_true rfl) (Nat.le_of_ble_eq_true rfl) (Nat.le_of_ble_eq_true rfl) dX0_steps_4 ?_
  refine lv_aload_n hx hb dX0_steps_7 rfl (lv_at hl 0 rfl) ?_
  refine va_get (D := eD E) (ci := 1) (v := .int cy) (C := RX0) (T := TX0) (N := 4) hx hb hta lay_X0 hown hKE.1 hP 0 rfl rfl 2 (by decide) (hta _ tw_392) (fun _ h9 => h9) rfl dX0_steps_8 ?_
  refine va_mabs hx hb (hml.trans hl.1.symm) hown (hta _ tw_287) (hta _ tw_288) (hta _ tw_8) (hta _ tw_289) (Nat.le_of_ble_eq_true rfl) (Nat.le_of_ble_eq_true rfl) (Nat.le_of_ble_eq_true rfl) (Nat.le_of_ble_eq_true rfl) dX0_steps_11 ?_
  refine va_mmax hx hb (hml.trans hl.1.symm) hown (hta _ tw_290) (hta _ tw_291) (hta _ tw_8) (hta _ tw_292) (Nat.le_of_ble_eq_true rfl) (Nat.le_of_ble_eq_true rfl) (Nat.le_of_ble_eq_true rfl) (Nat.le_of_ble_eq_true rfl) dX0_steps_14 ?_
  exact W.iret (v := (if (if 0 ≤ cx then cx else 0 - cx) < (if 0 ≤ cy then cy else 0 - cy) then (if 0 ≤ cy then cy else 0 - cy) else (if 0 ≤ cx then cx else 0 - cx))) hx hb hr (fun t ht hW => ⟨(if (if 0 ≤ cx then cx else 0 - cx) < (if 0 ≤ cy then cy else 0 - cy) then (if 0 ≤ cy then cy else 0 - cy) else (if 0 ≤ cx then cx else 0 - cx)), rfl, hw, ht⟩) (fun q hq => nomatch hq) dX0_steps_17
def wp_X0_way (E : EV) (post : Int32 → Prop) (ck : Int32) (cx : Int32) (cy : Int32) (cp : Int32) (p0 : Int32) (p1 : Int32) : Prop := (wp_X0_steps E (fun r_2 : Int32 => ((r_2 = 0 → post 0) ∧ (¬ (r_2 = 0) → post ((p0 * p1) / r_2)))) ck cx cy cp)
set_option maxHeartbeats 4000000 in
set_option maxRecDepth 100000 in
theorem c_X0_way (E : EV) (l : Launch) (ca : Nat) (ck : Int32) (cx : Int32) (cy : Int32) (cp : Int32) (p0 : Int32) (p1 : Int32) (post : Int32 → Prop) (hw : wp_X0_way E post ck cx cy cp p0 p1) : Met l yX0_way (Cond.code yX0_way cX0_way 4 (some .int) :: ALLW) ({ frames := 2, cells := 0, slots := 0, locals := 34 } : Room) (va_Pc [.ref ca, .int p0, .int p1] (preR E (wC ca ck cx cy cp))) (vp_Si post) 0 0 (fun _ => False) := by
  refine Met.ofW (cc := cX0_way) (maxL := 4) (ret := (some .int)) (by decide) rfl ?_
  intro p e s m args below meth c s₁ B hml hv
  obtain ⟨rfl, hpre⟩ := hv
  have hx := B.exec
  have hb := B.bytes
  have hr := B.returns
  have hlocks := B.notSynchronized
  have hts := atoms_spec (ws := (Cond.code yX0_way cX0_way 4 (some .int) :: ALLW)) B.pre
  have hta : ∀ w ∈ ALLW, w.before ([.ref ca, .int p0, .int p1] : List Value).toArray s = true := fun w h => hts w (List.mem_cons_of_mem _ h)
  have hown : s.vm.findClass RX0 = some m.cls := findClass_of_methodNamed B.named
  obtain ⟨hP, hKE⟩ := hpre
  have hP : va_P (eD E) vwCl [(ca, .inr (1, [.int ck, .int cx, .int cy, .int cp]))] s.heap := hP
  have hl := lv_entry ([.ref ca, .int p0, .int p1]) (n := 4) (Nat.le_of_ble_eq_true rfl)
  rw [lg_entry_eq]
  generalize (lg_sl ([.ref ca, .int p0, .int p1]) ++ List.replicate (4 - (lg_sl ([.ref ca, .int p0, .int p1])).length) Slot.unset).toArray = ls at hl ⊢
  have hl : lv_has ls 4 [(0, .ref ca), (1, .int p0), (2, .int p1)] := hl
  unfold wp_X0_way at hw
  refine lv_aload_n hx hb dX0_way_0 rfl (lv_at hl 0 rfl) ?_
  have hPc : va_P (eD E) vwCl (wC ca ck cx cy cp) s.heap := hP
  refine vp_callSi (va_Run.run (va_runV (As := []) (rest := []) ⟨hx, hb, hml, hown, hta⟩ (c_X0_steps E l ca ck cx cy cp _ hw) (pcV (n := 0) hta tw_286 tw_312 tw_17 tw_284 tp_8 rfl rfl hd_X0_steps ⟨Nat.le_of_ble_eq_true rfl, Nat.le_of_ble_eq_true rfl⟩) ⟨fbR, va_recv hKE.1 hP (ci := 1) (q0 := 0) rfl rfl, fun U hU hW => ⟨rfl, preR.mk hPc hKE hU hW⟩⟩ rfl rfl hl.1 rfl (lv_room (Nat.le_of_ble_eq_true rfl)) dX0_way_1 ⟨Nat.le_of_ble_eq_true rfl, Nat.le_of_ble_eq_true rfl⟩)) (fun r_2 hw => ?_)
  refine lv_istore_n (lv' := [(3, .int r_2), (0, .ref ca), (1, .int p0), (2, .int p1)]) hx hb dX0_way_4 rfl hl (by decide) rfl (fun ls hl => ?_)
  refine lv_iload_n hx hb dX0_way_5 rfl (lv_at hl 0 rfl) ?_
  refine lv_if_ne (tgt := 13) hx hb dX0_way_6 (by decide) (fun c_3 => ?_) (fun c_3 => ?_)
  · have hw := hw.2 c_3
    refine lv_iload_n hx hb dX0_way_13 rfl (lv_at hl 2 rfl) ?_
    refine lv_iload_n hx hb dX0_way_14 rfl (lv_at hl 3 rfl) ?_
    refine lv_imul hx hb dX0_way_15 ?_
    refine lv_iload_n hx hb dX0_way_16 rfl (lv_at hl 0 rfl) ?_
    refine lv_idiv hx hb dX0_way_17 c_3 ?_
    exact W.iret (v := ((p0 * p1) / r_2)) hx hb hr (fun t ht hW => ⟨((p0 * p1) / r_2), rfl, hw, ht⟩) (fun q hq => nomatch hq) dX0_way_18
  · have hw := hw.1 c_3
    refine lv_iconst (v := 0) hx hb dX0_way_9 (by decide) ?_
    refine lv_goto (tgt := 18) hx hb dX0_way_10 (by decide) ?_
    exact W.iret (v := 0) hx hb hr (fun t ht hW => ⟨0, rfl, hw, ht⟩) (fun q hq => nomatch hq) dX0_way_18
def wp_X0_wayX (E : EV) (post : Int32 → Prop) (ck : Int32) (cx : Int32) (cy : Int32) (cp : Int32) (p0 : Int32) : Prop := (wp_X0_way E (fun r_4 : Int32 => post r_4) ck cx cy cp cx p0)
set_option maxHeartbeats 4000000 in
set_option maxRecDepth 100000 in
theorem c_X0_wayX (E : EV) (l : Launch) (ca : Nat) (ck : Int32) (cx : Int32) (cy : Int32) (cp : Int32) (p0 : Int32) (post : Int32 → Prop) (hw : wp_X0_wayX E post ck cx cy cp p0) : Met l yX0_wayX (Cond.code yX0_wayX cX0_wayX 2 (some .int) :: ALLW) ({ frames := 3, cells := 0, slots := 0, locals := 57 } : Room) (va_Pc [.ref ca, .int p0] (preR E (wC ca ck cx cy cp))) (vp_Si post) 0 0 (fun _ => False) := by
  refine Met.ofW (cc := cX0_wayX) (maxL := 2) (ret := (some .int)) (by decide) rfl ?_
  intro p e s m args below meth c s₁ B hml hv
  obtain ⟨rfl, hpre⟩ := hv
  have hx := B.exec
  have hb := B.bytes
  have hr := B.returns
  have hlocks := B.notSynchronized
  have hts := atoms_spec (ws := (Cond.code yX0_wayX cX0_wayX 2 (some .int) :: ALLW)) B.pre
  have hta : ∀ w ∈ ALLW, w.before ([.ref ca, .int p0] : List Value).toArray s = true := fun w h => hts w (List.mem_cons_of_mem _ h)
  have hown : s.vm.findClass RX0 = some m.cls := findClass_of_methodNamed B.named
  obtain ⟨hP, hKE⟩ := hpre
  have hP : va_P (eD E) vwCl [(ca, .inr (1, [.int ck, .int cx, .int cy, .int cp]))] s.heap := hP
  have hl := lv_entry ([.ref ca, .int p0]) (n := 2) (Nat.le_of_ble_eq_true rfl)
  rw [lg_entry_eq]
  generalize (lg_sl ([.ref ca, .int p0]) ++ List.replicate (2 - (lg_sl ([.ref ca, .int p0])).length) Slot.unset).toArray = ls at hl ⊢
  have hl : lv_has ls 2 [(0, .ref ca), (1, .int p0)] := hl
  unfold wp_X0_wayX at hw
  refine lv_aload_n hx hb dX0_wayX_0 rfl (lv_at hl 0 rfl) ?_
  refine lv_aload_n hx hb dX0_wayX_1 rfl (lv_at hl 0 rfl) ?_
  refine va_get (D := eD E) (ci := 1) (v := .int cx) (C := RX0) (T := TX0) (N := 4) hx hb hta lay_X0 hown hKE.1 hP 0 rfl rfl 1 (by decide) (hta _ tw_390) (fun _ h9 => h9) rfl dX0_wayX_2 ?_
  refine lv_iload_n hx hb dX0_wayX_5 rfl (lv_at hl 1 rfl) ?_
  have hPc : va_P (eD E) vwCl (wC ca ck cx cy cp) s.heap := hP
  refine vp_callSi (va_Run.run (va_runV (As := [.int cx, .int p0]) (rest := []) ⟨hx, hb, hml, hown, hta⟩ (c_X0_way E l ca ck cx cy cp cx p0 _ hw) (pcV (n := 2) hta tw_311 tw_308 tw_17 tw_310 tp_12 rfl rfl hd_X0_way ⟨Nat.le_of_ble_eq_true rfl, Nat.le_of_ble_eq_true rfl⟩) ⟨fbR, va_recv hKE.1 hP (ci := 1) (q0 := 0) rfl rfl, fun U hU hW => ⟨rfl, preR.mk hPc hKE hU hW⟩⟩ rfl rfl hl.1 rfl (lv_room (Nat.le_of_ble_eq_true rfl)) dX0_wayX_6 ⟨Nat.le_of_ble_eq_true rfl, Nat.le_of_ble_eq_true rfl⟩)) (fun r_4 hw => ?_)
  exact W.iret (v := r_4) hx hb hr (fun t ht hW => ⟨r_4, rfl, hw, ht⟩) (fun q hq => nomatch hq) dX0_wayX_9
def wp_X0_wayY (E : EV) (post : Int32 → Prop) (ck : Int32) (cx : Int32) (cy : Int32) (cp : Int32) (p0 : Int32) : Prop := (wp_X0_way E (fun r_5 : Int32 => post r_5) ck cx cy cp cy p0)
set_option maxHeartbeats 4000000 in
set_option maxRecDepth 100000 in
theorem c_X0_wayY (E : EV) (l : Launch) (ca : Nat) (ck : Int32) (cx : Int32) (cy : Int32) (cp : Int32) (p0 : Int32) (post : Int32 → Prop) (hw : wp_X0_wayY E post ck cx cy cp p0) : Met l yX0_wayY (Cond.code yX0_wayY cX0_wayY 2 (some .int) :: ALLW) ({ frames := 3, cells := 0, slots := 0, locals := 57 } : Room) (va_Pc [.ref ca, .int p0] (preR E (wC ca ck cx cy cp))) (vp_Si post) 0 0 (fun _ => False) := by
  refine Met.ofW (cc := cX0_wayY) (maxL := 2) (ret := (some .int)) (by decide) rfl ?_
  intro p e s m args below meth c s₁ B hml hv
  obtain ⟨rfl, hpre⟩ := hv
  have hx := B.exec
  have hb := B.bytes
  have hr := B.returns
  have hlocks := B.notSynchronized
  have hts := atoms_spec (ws := (Cond.code yX0_wayY cX0_wayY 2 (some .int) :: ALLW)) B.pre
  have hta : ∀ w ∈ ALLW, w.before ([.ref ca, .int p0] : List Value).toArray s = true := fun w h => hts w (List.mem_cons_of_mem _ h)
  have hown : s.vm.findClass RX0 = some m.cls := findClass_of_methodNamed B.named
  obtain ⟨hP, hKE⟩ := hpre
  have hP : va_P (eD E) vwCl [(ca, .inr (1, [.int ck, .int cx, .int cy, .int cp]))] s.heap := hP
  have hl := lv_entry ([.ref ca, .int p0]) (n := 2) (Nat.le_of_ble_eq_true rfl)
  rw [lg_entry_eq]
  generalize (lg_sl ([.ref ca, .int p0]) ++ List.replicate (2 - (lg_sl ([.ref ca, .int p0])).length) Slot.unset).toArray = ls at hl ⊢
  have hl : lv_has ls 2 [(0, .ref ca), (1, .int p0)] := hl
  unfold wp_X0_wayY at hw
  refine lv_aload_n hx hb dX0_wayY_0 rfl (lv_at hl 0 rfl) ?_
  refine lv_aload_n hx hb dX0_wayY_1 rfl (lv_at hl 0 rfl) ?_
  refine va_get (D := eD E) (ci := 1) (v := .int cy) (C := RX0) (T := TX0) (N := 4) hx hb hta lay_X0 hown hKE.1 hP 0 rfl rfl 2 (by decide) (hta _ tw_392) (fun _ h9 => h9) rfl dX0_wayY_2 ?_
  refine lv_iload_n hx hb dX0_wayY_5 rfl (lv_at hl 1 rfl) ?_
  have hPc : va_P (eD E) vwCl (wC ca ck cx cy cp) s.heap := hP
  refine vp_callSi (va_Run.run (va_runV (As := [.int cy, .int p0]) (rest := []) ⟨hx, hb, hml, hown, hta⟩ (c_X0_way E l ca ck cx cy cp cy p0 _ hw) (pcV (n := 2) hta tw_311 tw_308 tw_17 tw_310 tp_12 rfl rfl hd_X0_way ⟨Nat.le_of_ble_eq_true rfl, Nat.le_of_ble_eq_true rfl⟩) ⟨fbR, va_recv hKE.1 hP (ci := 1) (q0 := 0) rfl rfl, fun U hU hW => ⟨rfl, preR.mk hPc hKE hU hW⟩⟩ rfl rfl hl.1 rfl (lv_room (Nat.le_of_ble_eq_true rfl)) dX0_wayY_6 ⟨Nat.le_of_ble_eq_true rfl, Nat.le_of_ble_eq_true rfl⟩)) (fun r_5 hw => ?_)
  exact W.iret (v := r_5) hx hb hr (fun t ht hW => ⟨r_5, rfl, hw, ht⟩) (fun q hq => nomatch hq) dX0_wayY_9
def wp_X2_signed (E : EV) (post : Int32 → Prop) (p0 : Int32) : Prop := ((p0 ≤ 127 → post p0) ∧ (¬ (p0 ≤ 127) → post ((p0 - 255) - 1)))
set_option maxHeartbeats 4000000 in
set_option maxRecDepth 100000 in
theorem c_X2_signed (E : EV) (l : Launch) (p0 : Int32) (post : Int32 → Prop) (hw : wp_X2_signed E post p0) : Met l yX2_signed (Cond.code yX2_signed cX2_signed 1 (some .int) :: ALLW) ({ frames := 0, cells := 0, slots := 0, locals := 0 } : Room) (va_Pc [.int p0] (preR E ([]))) (vp_Si post) 0 0 (fun _ => False) := by
  refine Met.ofW (cc := cX2_signed) (maxL := 1) (ret := (some .int)) (by decide) rfl ?_
  intro p e s m args below meth c s₁ B hml hv
  obtain ⟨rfl, hpre⟩ := hv
  have hx := B.exec
  have hb := B.bytes
  have hr := B.returns
  have hlocks := B.notSynchronized
  have hts := atoms_spec (ws := (Cond.code yX2_signed cX2_signed 1 (some .int) :: ALLW)) B.pre
  have hta : ∀ w ∈ ALLW, w.before ([.int p0] : List Value).toArray s = true := fun w h => hts w (List.mem_cons_of_mem _ h)
  have hown : s.vm.findClass RX2 = some m.cls := findClass_of_methodNamed B.named
  obtain ⟨hP, hKE⟩ := hpre
  have hP : va_P (eD E) vwCl [] s.heap := hP
  have hl := lv_entry ([.int p0]) (n := 1) (Nat.le_of_ble_eq_true rfl)
  rw [lg_entry_eq]
  generalize (lg_sl ([.int p0]) ++ List.replicate (1 - (lg_sl ([.int p0])).length) Slot.unset).toArray = ls at hl ⊢
  have hl : lv_has ls 1 [(0, .int p0)] := hl
  unfold wp_X2_signed at hw
  refine lv_iload_n hx hb dX2_signed_0 rfl (lv_at hl 0 rfl) ?_
  refine lv_bipush (v := 127) hx hb dX2_signed_1 (by decide) ?_
  refine lv_icmp_le (tgt := 16) hx hb dX2_signed_3 (by decide) (fun c_6 => ?_) (fun c_6 => ?_)
  · have hw := hw.1 c_6
    refine lv_iload_n hx hb dX2_signed_16 rfl (lv_at hl 0 rfl) ?_
    exact W.iret (v := p0) hx hb hr (fun t ht hW => ⟨p0, rfl, hw, ht⟩) (fun q hq => nomatch hq) dX2_signed_17
  · have hw := hw.2 c_6
    refine lv_iload_n hx hb dX2_signed_6 rfl (lv_at hl 0 rfl) ?_
    refine lv_sipush (v := 255) hx hb dX2_signed_7 (by decide) ?_
    refine lv_isub hx hb dX2_signed_10 ?_
    refine lv_iconst (v := 1) hx hb dX2_signed_11 (by decide) ?_
    refine lv_isub hx hb dX2_signed_12 ?_
    refine lv_goto (tgt := 17) hx hb dX2_signed_13 (by decide) ?_
    exact W.iret (v := ((p0 - 255) - 1)) hx hb hr (fun t ht hW => ⟨((p0 - 255) - 1), rfl, hw, ht⟩) (fun q hq => nomatch hq) dX2_signed_17
def wp_X2_hasPen (E : EV) (post : Int32 → Prop) (p0 : Int32) : Prop := ((p0 < 0 → post 0) ∧ (¬ (p0 < 0) → ((3 ≤ p0 → post 0) ∧ (¬ (3 ≤ p0) → post 1))))
set_option maxHeartbeats 4000000 in
set_option maxRecDepth 100000 in
theorem c_X2_hasPen (E : EV) (l : Launch) (p0 : Int32) (post : Int32 → Prop) (hw : wp_X2_hasPen E post p0) : Met l yX2_hasPen (Cond.code yX2_hasPen cX2_hasPen 1 (some .boolean) :: ALLW) ({ frames := 0, cells := 0, slots := 0, locals := 0 } : Room) (va_Pc [.int p0] (preR E ([]))) (vp_Si post) 0 0 (fun _ => False) := by
  refine Met.ofW (cc := cX2_hasPen) (maxL := 1) (ret := (some .boolean)) (by decide) rfl ?_
  intro p e s m args below meth c s₁ B hml hv
  obtain ⟨rfl, hpre⟩ := hv
  have hx := B.exec
  have hb := B.bytes
  have hr := B.returns
  have hlocks := B.notSynchronized
  have hts := atoms_spec (ws := (Cond.code yX2_hasPen cX2_hasPen 1 (some .boolean) :: ALLW)) B.pre
  have hta : ∀ w ∈ ALLW, w.before ([.int p0] : List Value).toArray s = true := fun w h => hts w (List.mem_cons_of_mem _ h)
  have hown : s.vm.findClass RX2 = some m.cls := findClass_of_methodNamed B.named
  obtain ⟨hP, hKE⟩ := hpre
  have hP : va_P (eD E) vwCl [] s.heap := hP
  have hl := lv_entry ([.int p0]) (n := 1) (Nat.le_of_ble_eq_true rfl)
  rw [lg_entry_eq]
  generalize (lg_sl ([.int p0]) ++ List.replicate (1 - (lg_sl ([.int p0])).length) Slot.unset).toArray = ls at hl ⊢
  have hl : lv_has ls 1 [(0, .int p0)] := hl
  unfold wp_X2_hasPen at hw
  refine lv_iload_n hx hb dX2_hasPen_0 rfl (lv_at hl 0 rfl) ?_
  refine lv_if_lt (tgt := 13) hx hb dX2_hasPen_1 (by decide) (fun c_7 => ?_) (fun c_7 => ?_)
  · have hw := hw.1 c_7
    refine lv_iconst (v := 0) hx hb dX2_hasPen_13 (by decide) ?_
    exact W.zret (v := 0) hx hb hr rfl (fun t ht hW => ⟨0, rfl, hw, ht⟩) (fun q hq => nomatch hq) dX2_hasPen_14
  · have hw := hw.2 c_7
    refine lv_iload_n hx hb dX2_hasPen_4 rfl (lv_at hl 0 rfl) ?_
    refine lv_iconst (v := 3) hx hb dX2_hasPen_5 (by decide) ?_
    refine lv_icmp_ge (tgt := 13) hx hb dX2_hasPen_6 (by decide) (fun c_8 => ?_) (fun c_8 => ?_)
    · have hw := hw.1 c_8
      refine lv_iconst (v := 0) hx hb dX2_hasPen_13 (by decide) ?_
      exact W.zret (v := 0) hx hb hr rfl (fun t ht hW => ⟨0, rfl, hw, ht⟩) (fun q hq => nomatch hq) dX2_hasPen_14
    · have hw := hw.2 c_8
      refine lv_iconst (v := 1) hx hb dX2_hasPen_9 (by decide) ?_
      refine lv_goto (tgt := 14) hx hb dX2_hasPen_10 (by decide) ?_
      exact W.zret (v := 1) hx hb hr rfl (fun t ht hW => ⟨1, rfl, hw, ht⟩) (fun q hq => nomatch hq) dX2_hasPen_14
def wp_X2_hasCell (E : EV) (post : Int32 → Prop) (p0 : Int32) (p1 : Int32) : Prop := ((p0 < 0 → post 0) ∧ (¬ (p0 < 0) → ((100 ≤ p0 → post 0) ∧ (¬ (100 ≤ p0) → ((p1 < 0 → post 0) ∧ (¬ (p1 < 0) → ((100 ≤ p1 → post 0) ∧ (¬ (100 ≤ p1) → post 1))))))))
set_option maxHeartbeats 4000000 in
set_option maxRecDepth 100000 in
theorem c_X2_hasCell (E : EV) (l : Launch) (p0 : Int32) (p1 : Int32) (post : Int32 → Prop) (hw : wp_X2_hasCell E post p0 p1) : Met l yX2_hasCell (Cond.code yX2_hasCell cX2_hasCell 2 (some .boolean) :: ALLW) ({ frames := 0, cells := 0, slots := 0, locals := 0 } : Room) (va_Pc [.int p0, .int p1] (preR E ([]))) (vp_Si post) 0 0 (fun _ => False) := by
  refine Met.ofW (cc := cX2_hasCell) (maxL := 2) (ret := (some .boolean)) (by decide) rfl ?_
  intro p e s m args below meth c s₁ B hml hv
  obtain ⟨rfl, hpre⟩ := hv
  have hx := B.exec
  have hb := B.bytes
  have hr := B.returns
  have hlocks := B.notSynchronized
  have hts := atoms_spec (ws := (Cond.code yX2_hasCell cX2_hasCell 2 (some .boolean) :: ALLW)) B.pre
  have hta : ∀ w ∈ ALLW, w.before ([.int p0, .int p1] : List Value).toArray s = true := fun w h => hts w (List.mem_cons_of_mem _ h)
  have hown : s.vm.findClass RX2 = some m.cls := findClass_of_methodNamed B.named
  obtain ⟨hP, hKE⟩ := hpre
  have hP : va_P (eD E) vwCl [] s.heap := hP
  have hl := lv_entry ([.int p0, .int p1]) (n := 2) (Nat.le_of_ble_eq_true rfl)
  rw [lg_entry_eq]
  generalize (lg_sl ([.int p0, .int p1]) ++ List.replicate (2 - (lg_sl ([.int p0, .int p1])).length) Slot.unset).toArray = ls at hl ⊢
  have hl : lv_has ls 2 [(0, .int p0), (1, .int p1)] := hl
  unfold wp_X2_hasCell at hw
  refine lv_iload_n hx hb dX2_hasCell_0 rfl (lv_at hl 0 rfl) ?_
  refine lv_if_lt (tgt := 24) hx hb dX2_hasCell_1 (by decide) (fun c_9 => ?_) (fun c_9 => ?_)
  · have hw := hw.1 c_9
    refine lv_iconst (v := 0) hx hb dX2_hasCell_24 (by decide) ?_
    exact W.zret (v := 0) hx hb hr rfl (fun t ht hW => ⟨0, rfl, hw, ht⟩) (fun q hq => nomatch hq) dX2_hasCell_25
  · have hw := hw.2 c_9
    refine lv_iload_n hx hb dX2_hasCell_4 rfl (lv_at hl 0 rfl) ?_
    refine lv_bipush (v := 100) hx hb dX2_hasCell_5 (by decide) ?_
    refine lv_icmp_ge (tgt := 24) hx hb dX2_hasCell_7 (by decide) (fun c_10 => ?_) (fun c_10 => ?_)
    · have hw := hw.1 c_10
      refine lv_iconst (v := 0) hx hb dX2_hasCell_24 (by decide) ?_
      exact W.zret (v := 0) hx hb hr rfl (fun t ht hW => ⟨0, rfl, hw, ht⟩) (fun q hq => nomatch hq) dX2_hasCell_25
    · have hw := hw.2 c_10
      refine lv_iload_n hx hb dX2_hasCell_10 rfl (lv_at hl 1 rfl) ?_
      refine lv_if_lt (tgt := 24) hx hb dX2_hasCell_11 (by decide) (fun c_11 => ?_) (fun c_11 => ?_)
      · have hw := hw.1 c_11
        refine lv_iconst (v := 0) hx hb dX2_hasCell_24 (by decide) ?_
        exact W.zret (v := 0) hx hb hr rfl (fun t ht hW => ⟨0, rfl, hw, ht⟩) (fun q hq => nomatch hq) dX2_hasCell_25
      · have hw := hw.2 c_11
        refine lv_iload_n hx hb dX2_hasCell_14 rfl (lv_at hl 1 rfl) ?_
        refine lv_bipush (v := 100) hx hb dX2_hasCell_15 (by decide) ?_
        refine lv_icmp_ge (tgt := 24) hx hb dX2_hasCell_17 (by decide) (fun c_12 => ?_) (fun c_12 => ?_)
        · have hw := hw.1 c_12
          refine lv_iconst (v := 0) hx hb dX2_hasCell_24 (by decide) ?_
          exact W.zret (v := 0) hx hb hr rfl (fun t ht hW => ⟨0, rfl, hw, ht⟩) (fun q hq => nomatch hq) dX2_hasCell_25
        · have hw := hw.2 c_12
          refine lv_iconst (v := 1) hx hb dX2_hasCell_20 (by decide) ?_
          refine lv_goto (tgt := 25) hx hb dX2_hasCell_21 (by decide) ?_
          exact W.zret (v := 1) hx hb hr rfl (fun t ht hW => ⟨1, rfl, hw, ht⟩) (fun q hq => nomatch hq) dX2_hasCell_25
def wp_X1_wordOf (E : EV) (post : Int32 → Prop) (p0 : Int32) (p1 : Int32) : Prop := (wp_X2_hasCell E (fun r_13 : Int32 => ((r_13 = 0 → post (-1)) ∧ (¬ (r_13 = 0) → post (((100 * p1) + p0) / 64)))) p0 p1)
set_option maxHeartbeats 4000000 in
set_option maxRecDepth 100000 in
theorem c_X1_wordOf (E : EV) (l : Launch) (p0 : Int32) (p1 : Int32) (post : Int32 → Prop) (hw : wp_X1_wordOf E post p0 p1) : Met l yX1_wordOf (Cond.code yX1_wordOf cX1_wordOf 2 (some .int) :: ALLW) ({ frames := 1, cells := 0, slots := 0, locals := 21 } : Room) (va_Pc [.int p0, .int p1] (preR E ([]))) (vp_Si post) 0 0 (fun _ => False) := by
  refine Met.ofW (cc := cX1_wordOf) (maxL := 2) (ret := (some .int)) (by decide) rfl ?_
  intro p e s m args below meth c s₁ B hml hv
  obtain ⟨rfl, hpre⟩ := hv
  have hx := B.exec
  have hb := B.bytes
  have hr := B.returns
  have hlocks := B.notSynchronized
  have hts := atoms_spec (ws := (Cond.code yX1_wordOf cX1_wordOf 2 (some .int) :: ALLW)) B.pre
  have hta : ∀ w ∈ ALLW, w.before ([.int p0, .int p1] : List Value).toArray s = true := fun w h => hts w (List.mem_cons_of_mem _ h)
  have hown : s.vm.findClass RX1 = some m.cls := findClass_of_methodNamed B.named
  obtain ⟨hP, hKE⟩ := hpre
  have hP : va_P (eD E) vwCl [] s.heap := hP
  have hl := lv_entry ([.int p0, .int p1]) (n := 2) (Nat.le_of_ble_eq_true rfl)
  rw [lg_entry_eq]
  generalize (lg_sl ([.int p0, .int p1]) ++ List.replicate (2 - (lg_sl ([.int p0, .int p1])).length) Slot.unset).toArray = ls at hl ⊢
  have hl : lv_has ls 2 [(0, .int p0), (1, .int p1)] := hl
  unfold wp_X1_wordOf at hw
  refine lv_iload_n hx hb dX1_wordOf_0 rfl (lv_at hl 0 rfl) ?_
  refine lv_iload_n hx hb dX1_wordOf_1 rfl (lv_at hl 1 rfl) ?_
  have hPc : va_P (eD E) vwCl [] s.heap := va_P_nil
  refine vp_callSi (va_Run.run (va_runSN (As := [.int p0, .int p1]) (rest := []) ⟨hx, hb, hml, hown, hta⟩ (c_X2_hasCell E l p0 p1 _ hw) (pcSN (n := 2) hta tw_295 (hKE.2.1 _ (List.mem_of_getElem? (i := 7) rfl)) tw_1 tw_294 rfl rfl hd_X2_hasCell ⟨Nat.le_of_ble_eq_true rfl, Nat.le_of_ble_eq_true rfl⟩) ⟨fbR, fun U hU hW => ⟨rfl, preR.mk hPc hKE hU hW⟩⟩ rfl rfl hl.1 rfl (lv_room (Nat.le_of_ble_eq_true rfl)) dX1_wordOf_2 ⟨Nat.le_of_ble_eq_true rfl, Nat.le_of_ble_eq_true rfl⟩)) (fun r_13 hw => ?_)
  refine lv_if_eq (tgt := 20) hx hb dX1_wordOf_5 (by decide) (fun c_14 => ?_) (fun c_14 => ?_)
  · have hw := hw.1 c_14
    refine lv_iconst (v := (-1)) hx hb dX1_wordOf_20 (by decide) ?_
    exact W.iret (v := (-1)) hx hb hr (fun t ht hW => ⟨(-1), rfl, hw, ht⟩) (fun q hq => nomatch hq) dX1_wordOf_21
  · have hw := hw.2 c_14
    refine lv_bipush (v := 100) hx hb dX1_wordOf_8 (by decide) ?_
    refine lv_iload_n hx hb dX1_wordOf_10 rfl (lv_at hl 1 rfl) ?_
    refine lv_imul hx hb dX1_wordOf_11 ?_
    refine lv_iload_n hx hb dX1_wordOf_12 rfl (lv_at hl 0 rfl) ?_
    refine lv_iadd hx hb dX1_wordOf_13 ?_
    refine lv_bipush (v := 64) hx hb dX1_wordOf_14 (by decide) ?_
    refine lv_idiv hx hb dX1_wordOf_16 (by decide) ?_
    refine lv_goto (tgt := 21) hx hb dX1_wordOf_17 (by decide) ?_
    exact W.iret (v := (((100 * p1) + p0) / 64)) hx hb hr (fun t ht hW => ⟨(((100 * p1) + p0) / 64), rfl, hw, ht⟩) (fun q hq => nomatch hq) dX1_wordOf_21
def wp_X1_bitOf (E : EV) (post : Int64 → Prop) (p0 : Int32) (p1 : Int32) : Prop := post (1 <<< ((((100 * p1) + p0) - ((100 * p1) + p0) / 64 * 64).toInt64 &&& 63))
set_option maxHeartbeats 4000000 in
set_option maxRecDepth 100000 in
theorem c_X1_bitOf (E : EV) (l : Launch) (p0 : Int32) (p1 : Int32) (post : Int64 → Prop) (hw : wp_X1_bitOf E post p0 p1) : Met l yX1_bitOf (Cond.code yX1_bitOf cX1_bitOf 2 (some .long) :: ALLW) ({ frames := 0, cells := 0, slots := 0, locals := 0 } : Room) (va_Pc [.int p0, .int p1] (preR E ([]))) (vp_Sl post) 0 0 (fun _ => False) := by
  refine Met.ofW (cc := cX1_bitOf) (maxL := 2) (ret := (some .long)) (by decide) rfl ?_
  intro p e s m args below meth c s₁ B hml hv
  obtain ⟨rfl, hpre⟩ := hv
  have hx := B.exec
  have hb := B.bytes
  have hr := B.returns
  have hlocks := B.notSynchronized
  have hts := atoms_spec (ws := (Cond.code yX1_bitOf cX1_bitOf 2 (some .long) :: ALLW)) B.pre
  have hta : ∀ w ∈ ALLW, w.before ([.int p0, .int p1] : List Value).toArray s = true := fun w h => hts w (List.mem_cons_of_mem _ h)
  have hown : s.vm.findClass RX1 = some m.cls := findClass_of_methodNamed B.named
  obtain ⟨hP, hKE⟩ := hpre
  have hP : va_P (eD E) vwCl [] s.heap := hP
  have hl := lv_entry ([.int p0, .int p1]) (n := 2) (Nat.le_of_ble_eq_true rfl)
  rw [lg_entry_eq]
  generalize (lg_sl ([.int p0, .int p1]) ++ List.replicate (2 - (lg_sl ([.int p0, .int p1])).length) Slot.unset).toArray = ls at hl ⊢
  have hl : lv_has ls 2 [(0, .int p0), (1, .int p1)] := hl
  unfold wp_X1_bitOf at hw
  refine lv_lconst (v := 1) hx hb dX1_bitOf_0 (by decide) ?_
  refine lv_bipush (v := 100) hx hb dX1_bitOf_1 (by decide) ?_
  refine lv_iload_n hx hb dX1_bitOf_3 rfl (lv_at hl 1 rfl) ?_
  refine lv_imul hx hb dX1_bitOf_4 ?_
  refine lv_iload_n hx hb dX1_bitOf_5 rfl (lv_at hl 0 rfl) ?_
  refine lv_iadd hx hb dX1_bitOf_6 ?_
  refine lv_bipush (v := 64) hx hb dX1_bitOf_7 (by decide) ?_
  refine lv_irem hx hb dX1_bitOf_9 (by decide) ?_
  refine lv_lshl hx hb dX1_bitOf_10 rfl ?_
  exact W.lret (v := (1 <<< ((((100 * p1) + p0) - ((100 * p1) + p0) / 64 * 64).toInt64 &&& 63))) hx hb hr (fun t ht hW => ⟨(1 <<< ((((100 * p1) + p0) - ((100 * p1) + p0) / 64 * 64).toInt64 &&& 63)), rfl, hw, ht⟩) (fun q hq => nomatch hq) dX1_bitOf_11
def wp_X1_hasMark (E : EV) (post : Int32 → Prop) (pw : Nat → Int64) (pk : Int32) (p0 : Int32) (p1 : Int32) : Prop := (wp_X1_wordOf E (fun r_15 : Int32 => ((r_15 < 0 → post 0) ∧ (¬ (r_15 < 0) → ((157 ≤ r_15 → post 0) ∧ (¬ (157 ≤ r_15) → (vp_in r_15 157 ∧ (wp_X1_bitOf E (fun r_19 : Int64 => (((lg_cmp ((pw r_15.toNatClampNeg) &&& r_19) 0) = 0 → post 0) ∧ (¬ (lg_cmp ((pw r_15.toNatClampNeg) &&& r_19) 0) = 0 → post 1))) p0 p1))))))) p0 p1)
set_option maxHeartbeats 4000000 in
set_option maxRecDepth 100000 in
theorem c_X1_hasMark (E : EV) (l : Launch) (pa : Nat) (pb : Nat) (pw : Nat → Int64) (pk : Int32) (p0 : Int32) (p1 : Int32) (post : Int32 → Prop) (hw : wp_X1_hasMark E post pw pk p0 p1) : Met l yX1_hasMark (Cond.code yX1_hasMark cX1_hasMark 4 (some .boolean) :: ALLW) ({ frames := 2, cells := 0, slots := 0, locals := 42 } : Room) (va_Pc [.ref pa, .int p0, .int p1] (preR E (wP E pa pb pw pk))) (vp_Si post) 0 0 (fun _ => False) := by
  refine Met.ofW (cc := cX1_hasMark) (maxL := 4) (ret := (some .boolean)) (by decide) rfl ?_
  intro p e s m args below meth c s₁ B hml hv
  obtain ⟨rfl, hpre⟩ := hv
  have hx := B.exec
  have hb := B.bytes
  have hr := B.returns
  have hlocks := B.notSynchronized
  have hts := atoms_spec (ws := (Cond.code yX1_hasMark cX1_hasMark 4 (some .boolean) :: ALLW)) B.pre
  have hta : ∀ w ∈ ALLW, w.before ([.ref pa, .int p0, .int p1] : List Value).toArray s = true := fun w h => hts w (List.mem_cons_of_mem _ h)
  have hown : s.vm.findClass RX1 = some m.cls := findClass_of_methodNamed B.named
  obtain ⟨hP, hKE⟩ := hpre
  have hP : va_P (eD E) vwCl [(pa, .inr (2, [.ref pb, .int pk])), (pb, .inl (eC E 1, 157, .inr (.inl pw)))] s.heap := hP
  have hl := lv_entry ([.ref pa, .int p0, .int p1]) (n := 4) (Nat.le_of_ble_eq_true rfl)
  rw [lg_entry_eq]
  generalize (lg_sl ([.ref pa, .int p0, .int p1]) ++ List.replicate (4 - (lg_sl ([.ref pa, .int p0, .int p1])).length) Slot.unset).toArray = ls at hl ⊢
  have hl : lv_has ls 4 [(0, .ref pa), (1, .int p0), (2, .int p1)] := hl
  unfold wp_X1_hasMark at hw
  refine lv_iload_n hx hb dX1_hasMark_0 rfl (lv_at hl 1 rfl) ?_
  refine lv_iload_n hx hb dX1_hasMark_1 rfl (lv_at hl 2 rfl) ?_
  have hPc : va_P (eD E) vwCl [] s.heap := va_P_nil
  refine vp_callSi (va_Run.run (va_runS (As := [.int p0, .int p1]) (rest := []) ⟨hx, hb, hml, hown, hta⟩ (c_X1_wordOf E l p0 p1 _ hw) (pcS (n := 2) hta tw_323 tw_321 tw_5 tw_322 rfl rfl hd_X1_wordOf ⟨Nat.le_of_ble_eq_true rfl, Nat.le_of_ble_eq_true rfl⟩) ⟨fbR, fun U hU hW => ⟨rfl, preR.mk hPc hKE hU hW⟩⟩ rfl rfl hl.1 rfl (lv_room (Nat.le_of_ble_eq_true rfl)) dX1_hasMark_2 ⟨Nat.le_of_ble_eq_true rfl, Nat.le_of_ble_eq_true rfl⟩)) (fun r_15 hw => ?_)
  refine lv_istore_n (lv' := [(3, .int r_15), (0, .ref pa), (1, .int p0), (2, .int p1)]) hx hb dX1_hasMark_5 rfl hl (by decide) rfl (fun ls hl => ?_)
  refine lv_iload_n hx hb dX1_hasMark_6 rfl (lv_at hl 0 rfl) ?_
  refine lv_if_lt (tgt := 40) hx hb dX1_hasMark_7 (by decide) (fun c_16 => ?_) (fun c_16 => ?_)
  · have hw := hw.1 c_16
    refine lv_iconst (v := 0) hx hb dX1_hasMark_40 (by decide) ?_
    exact W.zret (v := 0) hx hb hr rfl (fun t ht hW => ⟨0, rfl, hw, ht⟩) (fun q hq => nomatch hq) dX1_hasMark_41
  · have hw := hw.2 c_16
    refine lv_iload_n hx hb dX1_hasMark_10 rfl (lv_at hl 0 rfl) ?_
    refine lv_aload_n hx hb dX1_hasMark_11 rfl (lv_at hl 1 rfl) ?_
    refine va_get (D := eD E) (ci := 2) (v := .ref pb) (C := RX1) (T := TX1) (N := 2) hx hb hta lay_X1 hown hKE.1 hP 0 rfl rfl 0 (by decide) (hta _ tw_58) (fun _ h9 => h9) rfl dX1_hasMark_12 ?_
    refine va_alen hx hb hKE.1 hP 1 1 rfl rfl (v := 157) (by show Int32.ofNat 157 = 157; decide) dX1_hasMark_15 ?_
    refine lv_icmp_ge (tgt := 40) hx hb dX1_hasMark_16 (by decide) (fun c_17 => ?_) (fun c_17 => ?_)
    · have hw := hw.1 c_17
      refine lv_iconst (v := 0) hx hb dX1_hasMark_40 (by decide) ?_
      exact W.zret (v := 0) hx hb hr rfl (fun t ht hW => ⟨0, rfl, hw, ht⟩) (fun q hq => nomatch hq) dX1_hasMark_41
    · have hw := hw.2 c_17
      refine lv_aload_n hx hb dX1_hasMark_19 rfl (lv_at hl 1 rfl) ?_
      refine va_get (D := eD E) (ci := 2) (v := .ref pb) (C := RX1) (T := TX1) (N := 2) hx hb hta lay_X1 hown hKE.1 hP 0 rfl rfl 0 (by decide) (hta _ tw_58) (fun _ h9 => h9) rfl dX1_hasMark_20 ?_
      refine lv_iload_n hx hb dX1_hasMark_23 rfl (lv_at hl 0 rfl) ?_
      obtain ⟨hi_18, hw⟩ := hw
      refine va_lald hx hb hKE.1 hP 1 1 rfl rfl hi_18 dX1_hasMark_24 ?_
      refine lv_iload_n hx hb dX1_hasMark_25 rfl (lv_at hl 2 rfl) ?_
      refine lv_iload_n hx hb dX1_hasMark_26 rfl (lv_at hl 3 rfl) ?_
      have hPc : va_P (eD E) vwCl [] s.heap := va_P_nil
      refine vp_callSl (va_Run.run (va_runS (As := [.int p0, .int p1]) (rest := [.long (pw r_15.toNatClampNeg)]) ⟨hx, hb, hml, hown, hta⟩ (c_X1_bitOf E l p0 p1 _ hw) (pcS (n := 2) hta tw_331 tw_329 tw_5 tw_330 rfl rfl hd_X1_bitOf ⟨Nat.le_of_ble_eq_true rfl, Nat.le_of_ble_eq_true rfl⟩) ⟨fbR, fun U hU hW => ⟨rfl, preR.mk hPc hKE hU hW⟩⟩ rfl rfl hl.1 rfl (lv_room (Nat.le_of_ble_eq_true rfl)) dX1_hasMark_27 ⟨Nat.le_of_ble_eq_true rfl, Nat.le_of_ble_eq_true rfl⟩)) (fun r_19 hw => ?_)
      refine lv_land hx hb dX1_hasMark_30 ?_
      refine lv_lconst (v := 0) hx hb dX1_hasMark_31 (by decide) ?_
      refine W.lcmp hx hb dX1_hasMark_32 ?_
      refine lv_if_eq (tgt := 40) hx hb dX1_hasMark_33 (by decide) (fun c_20 => ?_) (fun c_20 => ?_)
      · have hw := hw.1 c_20
        refine lv_iconst (v := 0) hx hb dX1_hasMark_40 (by decide) ?_
        exact W.zret (v := 0) hx hb hr rfl (fun t ht hW => ⟨0, rfl, hw, ht⟩) (fun q hq => nomatch hq) dX1_hasMark_41
      · have hw := hw.2 c_20
        refine lv_iconst (v := 1) hx hb dX1_hasMark_36 (by decide) ?_
        refine lv_goto (tgt := 41) hx hb dX1_hasMark_37 (by decide) ?_
        exact W.zret (v := 1) hx hb hr rfl (fun t ht hW => ⟨1, rfl, hw, ht⟩) (fun q hq => nomatch hq) dX1_hasMark_41
def wp_X1_putMark (E : EV) (post : (Nat → Int64) → Int32 → Prop) (pw : Nat → Int64) (pk : Int32) (p0 : Int32) (p1 : Int32) : Prop := (wp_X1_wordOf E (fun r_21 : Int32 => ((r_21 < 0 → post pw pk) ∧ (¬ (r_21 < 0) → ((157 ≤ r_21 → post pw pk) ∧ (¬ (157 ≤ r_21) → (wp_X1_hasMark E (fun r_24 : Int32 => ((r_24 = 0 → (vp_in r_21 157 ∧ (wp_X1_bitOf E (fun r_27 : Int64 => post (vp_updL pw r_21.toNatClampNeg ((pw r_21.toNatClampNeg) ||| r_27)) (pk + 1)) p0 p1))) ∧ (¬ (r_24 = 0) → post pw pk))) pw pk p0 p1)))))) p0 p1)
set_option maxHeartbeats 4000000 in
set_option maxRecDepth 100000 in
theorem c_X1_putMark (E : EV) (l : Launch) (pa : Nat) (pb : Nat) (pw : Nat → Int64) (pk : Int32) (p0 : Int32) (p1 : Int32) (hz : Nat) (post : (Nat → Int64) → Int32 → Prop) (hw : wp_X1_putMark E post pw pk p0 p1) : Met l yX1_putMark (Cond.code yX1_putMark cX1_putMark 4 none :: ALLW) ({ frames := 3, cells := 0, slots := 0, locals := 65 } : Room) (va_Pc [.ref pa, .int p0, .int p1] (preM E (wP E pa pb pw pk) hz)) (va_Qv (fun (u : (Nat → Int64) × Int32) => post u.1 u.2) (fun (u : (Nat → Int64) × Int32) t => va_P (eD E) vwCl (wP E pa pb u.1 u.2) t.heap ∧ va_D (va_A (wP E pa pb pw pk) hz) (wP E pa pb u.1 u.2)) (va_A (wP E pa pb pw pk) hz)) 0 0 (va_A (wP E pa pb pw pk) hz) := by
  refine Met.ofW (cc := cX1_putMark) (maxL := 4) (ret := none) (by decide) rfl ?_
  intro p e s m args below meth c s₁ B hml hv
  obtain ⟨rfl, hpre⟩ := hv
  have hx := B.exec
  have hb := B.bytes
  have hr := B.returns
  have hlocks := B.notSynchronized
  have hts := atoms_spec (ws := (Cond.code yX1_putMark cX1_putMark 4 none :: ALLW)) B.pre
  have hta : ∀ w ∈ ALLW, w.before ([.ref pa, .int p0, .int p1] : List Value).toArray s = true := fun w h => hts w (List.mem_cons_of_mem _ h)
  have hown : s.vm.findClass RX1 = some m.cls := findClass_of_methodNamed B.named
  obtain ⟨hsz, hP, hKE, hD0, hZ⟩ := hpre
  subst hsz
  have hD := hD0.self (sz := s.heap.size)
  generalize hAe : va_A (wP E pa pb pw pk) s.heap.size = A at hD hZ ⊢
  have hA : ∀ q : Nat, s.heap.size ≤ q → A q := fun q h => by rw [← hAe]; exact Or.inr h
  have hS : va_S A s.heap s.heap [] := va_S.rf
  have hP : va_P (eD E) vwCl [(pa, .inr (2, [.ref pb, .int pk])), (pb, .inl (eC E 1, 157, .inr (.inl pw)))] s.heap := hP
  have hD : va_D A [(pa, .inr (2, [.ref pb, .int pk])), (pb, .inl (eC E 1, 157, .inr (.inl pw)))] := hD
  have hl := lv_entry ([.ref pa, .int p0, .int p1]) (n := 4) (Nat.le_of_ble_eq_true rfl)
  rw [lg_entry_eq]
  generalize (lg_sl ([.ref pa, .int p0, .int p1]) ++ List.replicate (4 - (lg_sl ([.ref pa, .int p0, .int p1])).length) Slot.unset).toArray = ls at hl ⊢
  have hl : lv_has ls 4 [(0, .ref pa), (1, .int p0), (2, .int p1)] := hl
  unfold wp_X1_putMark at hw
  refine lv_iload_n hx hb dX1_putMark_0 rfl (lv_at hl 1 rfl) ?_
  refine lv_iload_n hx hb dX1_putMark_1 rfl (lv_at hl 2 rfl) ?_
  have hPc : va_P (eD E) vwCl [] s.heap := va_P_nil
  refine vp_callSi (va_Run.run (va_runS (As := [.int p0, .int p1]) (rest := []) ⟨hx, hb, hml, hown, hta⟩ (c_X1_wordOf E l p0 p1 _ hw) (pcS (n := 2) hta tw_323 tw_321 tw_5 tw_322 rfl rfl hd_X1_wordOf ⟨Nat.le_of_ble_eq_true rfl, Nat.le_of_ble_eq_true rfl⟩) ⟨fbR, fun U hU hW => ⟨rfl, preR.mk hPc hKE hU hW⟩⟩ rfl rfl hl.1 rfl (lv_room (Nat.le_of_ble_eq_true rfl)) dX1_putMark_2 ⟨Nat.le_of_ble_eq_true rfl, Nat.le_of_ble_eq_true rfl⟩)) (fun r_21 hw => ?_)
  refine lv_istore_n (lv' := [(3, .int r_21), (0, .ref pa), (1, .int p0), (2, .int p1)]) hx hb dX1_putMark_5 rfl hl (by decide) rfl (fun ls hl => ?_)
  refine lv_iload_n hx hb dX1_putMark_6 rfl (lv_at hl 0 rfl) ?_
  refine lv_if_lt (tgt := 28) hx hb dX1_putMark_7 (by decide) (fun c_22 => ?_) (fun c_22 => ?_)
  · have hw := hw.1 c_22
    have hP9 : va_P (eD E) vwCl (wP E pa pb pw pk) s.heap := hP
    have hD9 : va_D A (wP E pa pb pw pk) := hD
    exact W.vret hx hb hr (fun t ht hW => ⟨⟨(pw, pk), rfl, hw, ⟨by rw [ht]; exact hP9, hD9⟩⟩, hS.F ht⟩) hS.2.2 dX1_putMark_28
  · have hw := hw.2 c_22
    refine lv_iload_n hx hb dX1_putMark_10 rfl (lv_at hl 0 rfl) ?_
    refine lv_aload_n hx hb dX1_putMark_11 rfl (lv_at hl 1 rfl) ?_
    refine va_get (D := eD E) (ci := 2) (v := .ref pb) (C := RX1) (T := TX1) (N := 2) hx hb hta lay_X1 hown hKE.1 hP 0 rfl rfl 0 (by decide) (hta _ tw_58) (fun _ h9 => h9) rfl dX1_putMark_12 ?_
    refine va_alen hx hb hKE.1 hP 1 1 rfl rfl (v := 157) (by show Int32.ofNat 157 = 157; decide) dX1_putMark_15 ?_
    refine lv_icmp_ge (tgt := 28) hx hb dX1_putMark_16 (by decide) (fun c_23 => ?_) (fun c_23 => ?_)
    · have hw := hw.1 c_23
      have hP9 : va_P (eD E) vwCl (wP E pa pb pw pk) s.heap := hP
      have hD9 : va_D A (wP E pa pb pw pk) := hD
      exact W.vret hx hb hr (fun t ht hW => ⟨⟨(pw, pk), rfl, hw, ⟨by rw [ht]; exact hP9, hD9⟩⟩, hS.F ht⟩) hS.2.2 dX1_putMark_28
    · have hw := hw.2 c_23
      refine lv_aload_n hx hb dX1_putMark_19 rfl (lv_at hl 1 rfl) ?_
      refine lv_iload_n hx hb dX1_putMark_20 rfl (lv_at hl 2 rfl) ?_
      refine lv_iload_n hx hb dX1_putMark_21 rfl (lv_at hl 3 rfl) ?_
      have hPc : va_P (eD E) vwCl (wP E pa pb pw pk) s.heap := hP
      refine vp_callSi (va_Run.run (va_runV (As := [.int p0, .int p1]) (rest := []) ⟨hx, hb, hml, hown, hta⟩ (c_X1_hasMark E l pa pb pw pk p0 p1 _ hw) (pcV (n := 2) hta tw_328 tw_325 tw_5 tw_327 tp_15 rfl rfl hd_X1_hasMark ⟨Nat.le_of_ble_eq_true rfl, Nat.le_of_ble_eq_true rfl⟩) ⟨fbR, va_recv hKE.1 hP (ci := 2) (q0 := 0) rfl rfl, fun U hU hW => ⟨rfl, preR.mk hPc hKE hU hW⟩⟩ rfl rfl hl.1 rfl (lv_room (Nat.le_of_ble_eq_true rfl)) dX1_putMark_22 ⟨Nat.le_of_ble_eq_true rfl, Nat.le_of_ble_eq_true rfl⟩)) (fun r_24 hw => ?_)
      refine lv_if_eq (tgt := 29) hx hb dX1_putMark_25 (by decide) (fun c_25 => ?_) (fun c_25 => ?_)
      · have hw := hw.1 c_25
        refine lv_aload_n hx hb dX1_putMark_29 rfl (lv_at hl 1 rfl) ?_
        refine va_get (D := eD E) (ci := 2) (v := .ref pb) (C := RX1) (T := TX1) (N := 2) hx hb hta lay_X1 hown hKE.1 hP 0 rfl rfl 0 (by decide) (hta _ tw_58) (fun _ h9 => h9) rfl dX1_putMark_30 ?_
        refine lv_iload_n hx hb dX1_putMark_33 rfl (lv_at hl 0 rfl) ?_
        refine lv_dup2_11 hx hb dX1_putMark_34 rfl rfl ?_
        obtain ⟨hi_26, hw⟩ := hw
        refine va_lald hx hb hKE.1 hP 1 1 rfl rfl hi_26 dX1_putMark_35 ?_
        refine lv_iload_n hx hb dX1_putMark_36 rfl (lv_at hl 2 rfl) ?_
        refine lv_iload_n hx hb dX1_putMark_37 rfl (lv_at hl 3 rfl) ?_
        have hPc : va_P (eD E) vwCl [] s.heap := va_P_nil
        refine vp_callSl (va_Run.run (va_runS (As := [.int p0, .int p1]) (rest := [.long (pw r_21.toNatClampNeg), .int r_21, .ref pb]) ⟨hx, hb, hml, hown, hta⟩ (c_X1_bitOf E l p0 p1 _ hw) (pcS (n := 2) hta tw_331 tw_329 tw_5 tw_330 rfl rfl hd_X1_bitOf ⟨Nat.le_of_ble_eq_true rfl, Nat.le_of_ble_eq_true rfl⟩) ⟨fbR, fun U hU hW => ⟨rfl, preR.mk hPc hKE hU hW⟩⟩ rfl rfl hl.1 rfl (lv_room (Nat.le_of_ble_eq_true rfl)) dX1_putMark_38 ⟨Nat.le_of_ble_eq_true rfl, Nat.le_of_ble_eq_true rfl⟩)) (fun r_27 hw => ?_)
        refine lv_lor hx hb dX1_putMark_41 ?_
        refine va_last hx hb hKE.1 hP hD hS 1 1 rfl rfl hi_26 dX1_putMark_42 (fun H locs hP hD hS => ?_)
        have hP : va_P (eD E) vwCl [(pa, .inr (2, [.ref pb, .int pk])), (pb, .inl (eC E 1, 157, .inr (.inl (vp_updL pw r_21.toNatClampNeg ((pw r_21.toNatClampNeg) ||| r_27)))))] H := hP
        have hD : va_D A [(pa, .inr (2, [.ref pb, .int pk])), (pb, .inl (eC E 1, 157, .inr (.inl (vp_updL pw r_21.toNatClampNeg ((pw r_21.toNatClampNeg) ||| r_27)))))] := hD
        refine lv_aload_n hx hb dX1_putMark_43 rfl (lv_at hl 1 rfl) ?_
        refine lv_dup hx hb dX1_putMark_44 rfl ?_
        refine va_get (D := eD E) (ci := 2) (v := .int pk) (C := RX1) (T := TX1) (N := 2) hx hb hta lay_X1 hown hKE.1 hP 0 rfl rfl 1 (by decide) (hta _ tw_59) (fun _ h9 => h9) rfl dX1_putMark_45 ?_
        refine lv_iconst (v := 1) hx hb dX1_putMark_48 (by decide) ?_
        refine lv_iadd hx hb dX1_putMark_49 ?_
        refine va_put (D := eD E) (ci := 2) (v := .int (pk + 1)) (ty := .int) (C := RX1) (T := TX1) (N := 2) hx hb hta lay_X1 tyX1 tyX1_ok nmX1 hown hKE.1 hP hD hS 0 rfl rfl 1 (by decide) (hta _ tw_59) (fun _ h9 => h9) rfl (by decide +kernel) rfl rfl (Nat.le_of_ble_eq_true rfl) dX1_putMark_50 (fun H locs hP hD hS => ?_)
        have hP : va_P (eD E) vwCl [(pa, .inr (2, [.ref pb, .int (pk + 1)])), (pb, .inl (eC E 1, 157, .inr (.inl (vp_updL pw r_21.toNatClampNeg ((pw r_21.toNatClampNeg) ||| r_27)))))] H := hP
        have hD : va_D A [(pa, .inr (2, [.ref pb, .int (pk + 1)])), (pb, .inl (eC E 1, 157, .inr (.inl (vp_updL pw r_21.toNatClampNeg ((pw r_21.toNatClampNeg) ||| r_27)))))] := hD
        have hP9 : va_P (eD E) vwCl (wP E pa pb (vp_updL pw r_21.toNatClampNeg ((pw r_21.toNatClampNeg) ||| r_27)) (pk + 1)) H := hP
        have hD9 : va_D A (wP E pa pb (vp_updL pw r_21.toNatClampNeg ((pw r_21.toNatClampNeg) ||| r_27)) (pk + 1)) := hD
        exact W.vret hx hb hr (fun t ht hW => ⟨⟨((vp_updL pw r_21.toNatClampNeg ((pw r_21.toNatClampNeg) ||| r_27)), (pk + 1)), rfl, hw, ⟨by rw [ht]; exact hP9, hD9⟩⟩, hS.F ht⟩) hS.2.2 dX1_putMark_53
      · have hw := hw.2 c_25
        have hP9 : va_P (eD E) vwCl (wP E pa pb pw pk) s.heap := hP
        have hD9 : va_D A (wP E pa pb pw pk) := hD
        exact W.vret hx hb hr (fun t ht hW => ⟨⟨(pw, pk), rfl, hw, ⟨by rw [ht]; exact hP9, hD9⟩⟩, hS.F ht⟩) hS.2.2 dX1_putMark_28
