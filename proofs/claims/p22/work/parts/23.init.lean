def wp_Jxa1e45_init_da8c8 (E : EV) (post : Unit → Prop)  : Prop := post ()
set_option maxHeartbeats 4000000 in
set_option maxRecDepth 100000 in
theorem c_Jxa1e45_init_da8c8 (E : EV) (l : Launch) (la : Nat) (post : Unit → Prop) (hw : wp_Jxa1e45_init_da8c8 E post ) : Met l yJxa1e45_init_da8c8 (Cond.code yJxa1e45_init_da8c8 cJxa1e45_init_da8c8 1 none :: ALLW) ({ frames := 1, cells := 0, slots := 0, locals := 12 } : Room) (va_Pc [.ref la] (preR E ([]))) (va_Sv post) 0 0 (fun _ => False) := by
  refine Met.ofW (cc := cJxa1e45_init_da8c8) (maxL := 1) (ret := none) (by decide) rfl ?_
  intro p e s m args below meth c s₁ B hml hv
  obtain ⟨rfl, hpre⟩ := hv
  have hx := B.exec
  have hb := B.bytes
  have hr := B.returns
  have hlocks := B.notSynchronized
  have hts := atoms_spec (ws := (Cond.code yJxa1e45_init_da8c8 cJxa1e45_init_da8c8 1 none :: ALLW)) B.pre
  have hta : ∀ w ∈ ALLW, w.before ([.ref la] : List Value).toArray s = true := fun w h => hts w (List.mem_cons_of_mem _ h)
  have hown : s.vm.findClass RJxa1e45 = some m.cls := findClass_of_methodNamed B.named
  have hin : meth.name = "<init>" := (name_of_methodNamed B.named B.method).1
  obtain ⟨hP, hKE⟩ := hpre
  have hP : va_P (eD E) vwCl [] s.heap := hP
  have hl := lv_entry ([.ref la]) (n := 1) (Nat.le_of_ble_eq_true rfl)
  rw [lg_entry_eq]
  generalize (lg_sl ([.ref la]) ++ List.replicate (1 - (lg_sl ([.ref la])).length) Slot.unset).toArray = ls at hl ⊢
  have hl : lv_has ls 1 [(0, .ref la)] := hl
  unfold wp_Jxa1e45_init_da8c8 at hw
  refine lv_aload_n hx hb dJxa1e45_init_da8c8_0 rfl (lv_at hl 0 rfl) ?_
  refine W.objInit hx hb hown (hta _ tw_37) (hta _ tw_24) (hta _ tw_25) rfl (by rw [hml]; exact hl.1) rfl dJxa1e45_init_da8c8_1 (Nat.le_of_ble_eq_true rfl) (Nat.le_of_ble_eq_true rfl) ?_
  refine W.eq (g2 := F0 m 4 ls []) rfl ?_
  exact W.vret hx hb hr (fun t ht hW => ⟨rfl, hw, ht⟩) (fun q hq => nomatch hq) dJxa1e45_init_da8c8_4
def wp_Jxc12de_init_da8c8 (E : EV) (post : Unit → Prop) (la : Nat) (z0 : Int32) (z2 : Int32) : Prop := (wp_Jxa1e45_init_da8c8 E (fun _ : Unit => post ()) )
set_option maxHeartbeats 4000000 in
set_option maxRecDepth 100000 in
theorem c_Jxc12de_init_da8c8 (E : EV) (l : Launch) (la : Nat) (z0 : Int32) (z2 : Int32) (hz : Nat) (post : Unit → Prop) (hw : wp_Jxc12de_init_da8c8 E post la z0 z2) : Met l yJxc12de_init_da8c8 (Cond.code yJxc12de_init_da8c8 cJxc12de_init_da8c8 1 none :: ALLW) ({ frames := 2, cells := 0, slots := 0, locals := 32 } : Room) (va_Pc [.ref la] (preM E ([(la, .inr (0, [.int z0, .null, .int z2]))]) hz)) (va_Qv (fun (u : Unit) => post u) (fun (u : Unit) t => va_P (eD E) vwCl [(la, .inr (0, [.int 0, .null, .int z2]))] t.heap ∧ va_D (va_A ([(la, .inr (0, [.int z0, .null, .int z2]))]) hz) [(la, .inr (0, [.int 0, .null, .int z2]))]) (va_A ([(la, .inr (0, [.int z0, .null, .int z2]))]) hz)) 0 0 (va_A ([(la, .inr (0, [.int z0, .null, .int z2]))]) hz) := by
  refine Met.ofW (cc := cJxc12de_init_da8c8) (maxL := 1) (ret := none) (by decide) rfl ?_
  intro p e s m args below meth c s₁ B hml hv
  obtain ⟨rfl, hpre⟩ := hv
  have hx := B.exec
  have hb := B.bytes
  have hr := B.returns
  have hlocks := B.notSynchronized
  have hts := atoms_spec (ws := (Cond.code yJxc12de_init_da8c8 cJxc12de_init_da8c8 1 none :: ALLW)) B.pre
  have hta : ∀ w ∈ ALLW, w.before ([.ref la] : List Value).toArray s = true := fun w h => hts w (List.mem_cons_of_mem _ h)
  have hown : s.vm.findClass RJxc12de = some m.cls := findClass_of_methodNamed B.named
  have hin : meth.name = "<init>" := (name_of_methodNamed B.named B.method).1
  obtain ⟨hsz, hP, hKE, hD0, hZ⟩ := hpre
  subst hsz
  have hD := hD0.self (sz := s.heap.size)
  generalize hAe : va_A ([(la, .inr (0, [.int z0, .null, .int z2]))]) s.heap.size = A at hD hZ ⊢
  have hA : ∀ q : Nat, s.heap.size ≤ q → A q := fun q h => by rw [← hAe]; exact Or.inr h
  have hS : va_S A s.heap s.heap [] := va_S.rf
  have hP : va_P (eD E) vwCl [(la, .inr (0, [.int z0, .null, .int z2]))] s.heap := hP
  have hD : va_D A [(la, .inr (0, [.int z0, .null, .int z2]))] := hD
  have hl := lv_entry ([.ref la]) (n := 1) (Nat.le_of_ble_eq_true rfl)
  rw [lg_entry_eq]
  generalize (lg_sl ([.ref la]) ++ List.replicate (1 - (lg_sl ([.ref la])).length) Slot.unset).toArray = ls at hl ⊢
  have hl : lv_has ls 1 [(0, .ref la)] := hl
  unfold wp_Jxc12de_init_da8c8 at hw
  refine lv_aload_n hx hb dJxc12de_init_da8c8_0 rfl (lv_at hl 0 rfl) ?_
  have hPc : va_P (eD E) vwCl [] s.heap := va_P_nil
  refine va_csv (va_Run.run (va_runI (As := []) (rest := []) ⟨hx, hb, hml, hown, hta⟩ (c_Jxa1e45_init_da8c8 E l la _ hw) (pcI (n := 0) hta tw_36 tw_34 tw_2 tw_35 rfl rfl rfl hd_Jxa1e45_init_da8c8 ⟨Nat.le_of_ble_eq_true rfl, Nat.le_of_ble_eq_true rfl⟩) ⟨fbR, fun U hU hW => ⟨rfl, preR.mk hPc hKE hU hW⟩⟩ rfl rfl hl.1 rfl (lv_room (Nat.le_of_ble_eq_true rfl)) dJxc12de_init_da8c8_1 ⟨Nat.le_of_ble_eq_true rfl, Nat.le_of_ble_eq_true rfl⟩)) (fun hw => ?_)
  refine lv_aload_n hx hb dJxc12de_init_da8c8_4 rfl (lv_at hl 0 rfl) ?_
  refine lv_iconst (v := 0) hx hb dJxc12de_init_da8c8_5 (by decide) ?_
  refine va_put (D := eD E) (ci := 0) (v := .int 0) (ty := .int) (C := RJx4a65c) (T := TJx4a65c) (N := 3) hx hb hta lay_AL tyJx4a65c tyJx4a65c_ok nmJx4a65c hown hKE.1 hP hD hS 0 rfl rfl 0 (by decide) (hta _ tw_42) (fun _ h9 => h9) rfl (by decide +kernel) rfl rfl (Nat.le_of_ble_eq_true rfl) dJxc12de_init_da8c8_6 (fun H locs hP hD hS => ?_)
  have hP : va_P (eD E) vwCl [(la, .inr (0, [.int 0, .null, .int z2]))] H := hP
  have hD : va_D A [(la, .inr (0, [.int 0, .null, .int z2]))] := hD
  have hP9 : va_P (eD E) vwCl [(la, .inr (0, [.int 0, .null, .int z2]))] H := hP
  have hD9 : va_D A [(la, .inr (0, [.int 0, .null, .int z2]))] := hD
  exact W.vret hx hb hr (fun t ht hW => ⟨⟨(), rfl, hw, by rw [ht]; exact hP9, hD9⟩, hS.F ht⟩) hS.2.2 dJxc12de_init_da8c8_9
def wp_Jx4a65c_init_da8c8 (E : EV) (post : Unit → Prop) (la : Nat) (z0 : Int32) (z2 : Int32) : Prop := (wp_Jxc12de_init_da8c8 E (fun u_699 : Unit => post ()) la z0 z2)
set_option maxHeartbeats 4000000 in
set_option maxRecDepth 100000 in
theorem c_Jx4a65c_init_da8c8 (E : EV) (l : Launch) (la : Nat) (z0 : Int32) (z2 : Int32) (hz : Nat) (post : Unit → Prop) (hw : wp_Jx4a65c_init_da8c8 E post la z0 z2) : Met l yJx4a65c_init_da8c8 (Cond.code yJx4a65c_init_da8c8 cJx4a65c_init_da8c8 1 none :: ALLW) ({ frames := 3, cells := 0, slots := 0, locals := 52 } : Room) (va_Pc [.ref la] (preM E ([(la, .inr (0, [.int z0, .null, .int z2]))]) hz)) (va_Qv (fun (u : Unit) => post u) (fun (u : Unit) t => va_P (eD E) vwCl [(la, .inr (0, [.int 0, .ref (eA E 0), .int z2]))] t.heap ∧ va_D (va_A ([(la, .inr (0, [.int z0, .null, .int z2]))]) hz) [(la, .inr (0, [.int 0, .ref (eA E 0), .int z2]))]) (va_A ([(la, .inr (0, [.int z0, .null, .int z2]))]) hz)) 0 0 (va_A ([(la, .inr (0, [.int z0, .null, .int z2]))]) hz) := by
  refine Met.ofW (cc := cJx4a65c_init_da8c8) (maxL := 1) (ret := none) (by decide) rfl ?_
  intro p e s m args below meth c s₁ B hml hv
  obtain ⟨rfl, hpre⟩ := hv
  have hx := B.exec
  have hb := B.bytes
  have hr := B.returns
  have hlocks := B.notSynchronized
  have hts := atoms_spec (ws := (Cond.code yJx4a65c_init_da8c8 cJx4a65c_init_da8c8 1 none :: ALLW)) B.pre
  have hta : ∀ w ∈ ALLW, w.before ([.ref la] : List Value).toArray s = true := fun w h => hts w (List.mem_cons_of_mem _ h)
  have hown : s.vm.findClass RJx4a65c = some m.cls := findClass_of_methodNamed B.named
  have hin : meth.name = "<init>" := (name_of_methodNamed B.named B.method).1
  obtain ⟨hsz, hP, hKE, hD0, hZ⟩ := hpre
  subst hsz
  have hD := hD0.self (sz := s.heap.size)
  generalize hAe : va_A ([(la, .inr (0, [.int z0, .null, .int z2]))]) s.heap.size = A at hD hZ ⊢
  have hA : ∀ q : Nat, s.heap.size ≤ q → A q := fun q h => by rw [← hAe]; exact Or.inr h
  have hS : va_S A s.heap s.heap [] := va_S.rf
  have hP : va_P (eD E) vwCl [(la, .inr (0, [.int z0, .null, .int z2]))] s.heap := hP
  have hD : va_D A [(la, .inr (0, [.int z0, .null, .int z2]))] := hD
  have hl := lv_entry ([.ref la]) (n := 1) (Nat.le_of_ble_eq_true rfl)
  rw [lg_entry_eq]
  generalize (lg_sl ([.ref la]) ++ List.replicate (1 - (lg_sl ([.ref la])).length) Slot.unset).toArray = ls at hl ⊢
  have hl : lv_has ls 1 [(0, .ref la)] := hl
  unfold wp_Jx4a65c_init_da8c8 at hw
  refine lv_aload_n hx hb dJx4a65c_init_da8c8_0 rfl (lv_at hl 0 rfl) ?_
  have hPc : va_P (eD E) vwCl [(la, .inr (0, [.int z0, .null, .int z2]))] s.heap := hP.sub [0] rfl
  have hDc : va_D A [(la, .inr (0, [.int z0, .null, .int z2]))] := hD.sub [0] (by decide) rfl
  have hFc : ∀ q, va_A [(la, .inr (0, [.int z0, .null, .int z2]))] s.heap.size q → A q := va_free hD hS hA [0] rfl
  refine va_callv (va_runI (As := []) (rest := []) ⟨hx, hb, hml, hown, hta⟩ (c_Jxc12de_init_da8c8 E l la z0 z2 s.heap.size _ hw) (pcI (n := 0) hta tw_33 tw_31 tw_3 tw_32 rfl rfl rfl hd_Jxc12de_init_da8c8 ⟨Nat.le_of_ble_eq_true rfl, Nat.le_of_ble_eq_true rfl⟩) ⟨fbM, fun U hU hW => ⟨rfl, preM.mk hPc hKE hDc hZ hS hFc hU hW⟩⟩ rfl rfl hl.1 rfl (lv_room (Nat.le_of_ble_eq_true rfl)) dJx4a65c_init_da8c8_1 ⟨Nat.le_of_ble_eq_true rfl, Nat.le_of_ble_eq_true rfl⟩) hS (fun q _ h => hFc q h) hFc (fun u_699 t H locs ht hvm hw hB hz1 hk1 hS => ?_)
  obtain ⟨hP1, hD1⟩ := hB
  rw [ht] at hP1
  try dsimp only at hw hP1 hD1
  obtain ⟨hP, hD⟩ := va_join (wr := []) (w1 := [(la, .inr (0, [.int 0, .null, .int z2]))]) hP hD [0] [] rfl rfl (by decide) (by decide) hk1 hFc hP1 hD1
  have hP : va_P (eD E) vwCl [(la, .inr (0, [.int 0, .null, .int z2]))] H := hP
  have hD : va_D A [(la, .inr (0, [.int 0, .null, .int z2]))] := hD
  refine lv_aload_n hx hb dJx4a65c_init_da8c8_4 rfl (lv_at hl 0 rfl) ?_
  refine va_gets hx hb hZ.1 hS hown (hta _ tw_38) (fun _ h9 => h9) dJx4a65c_init_da8c8_5 ?_
  refine va_put (D := eD E) (ci := 0) (v := .ref (eA E 0)) (ty := .array (.object "java/lang/Object")) (C := RJx4a65c) (T := TJx4a65c) (N := 3) hx hb hta lay_AL tyJx4a65c tyJx4a65c_ok nmJx4a65c hown hKE.1 hP hD hS 0 rfl rfl 1 (by decide) (hta _ tw_40) (fun _ h9 => h9) rfl (by decide +kernel) rfl rfl (Nat.le_of_ble_eq_true rfl) dJx4a65c_init_da8c8_8 (fun H locs hP hD hS => ?_)
  have hP : va_P (eD E) vwCl [(la, .inr (0, [.int 0, .ref (eA E 0), .int z2]))] H := hP
  have hD : va_D A [(la, .inr (0, [.int 0, .ref (eA E 0), .int z2]))] := hD
  have hP9 : va_P (eD E) vwCl [(la, .inr (0, [.int 0, .ref (eA E 0), .int z2]))] H := hP
  have hD9 : va_D A [(la, .inr (0, [.int 0, .ref (eA E 0), .int z2]))] := hD
  exact W.vret hx hb hr (fun t ht hW => ⟨⟨(), rfl, hw, by rw [ht]; exact hP9, hD9⟩, hS.F ht⟩) hS.2.2 dJx4a65c_init_da8c8_11
def wp_X1_init (E : EV) (post : Nat → Prop) (pa : Nat) (z1 : Int32) : Prop := (∀ q_700 : Nat, post q_700)
set_option maxHeartbeats 4000000 in
set_option maxRecDepth 100000 in
theorem c_X1_init (E : EV) (l : Launch) (pa : Nat) (z1 : Int32) (hz : Nat) (post : Nat → Prop) (hw : wp_X1_init E post pa z1) : Met l yX1_init (Cond.code yX1_init cX1_init 1 none :: ALLW) ({ frames := 1, cells := 1, slots := 157, locals := 12 } : Room) (va_Pc [.ref pa] (preM E ([(pa, .inr (2, [.null, .int z1]))]) hz)) (va_Qv (fun (u : Nat) => post u) (fun (u : Nat) t => va_P (eD E) vwCl [(pa, .inr (2, [.ref u, .int z1])), (u, .inl (eC E 1, 157, .inr (.inl (fun _ => 0))))] t.heap ∧ va_D (va_A ([(pa, .inr (2, [.null, .int z1]))]) hz) [(pa, .inr (2, [.ref u, .int z1])), (u, .inl (eC E 1, 157, .inr (.inl (fun _ => 0))))]) (va_A ([(pa, .inr (2, [.null, .int z1]))]) hz)) 1 157 (va_A ([(pa, .inr (2, [.null, .int z1]))]) hz) := by
  refine Met.ofW (cc := cX1_init) (maxL := 1) (ret := none) (by decide) rfl ?_
  intro p e s m args below meth c s₁ B hml hv
  obtain ⟨rfl, hpre⟩ := hv
  have hx := B.exec
  have hb := B.bytes
  have hr := B.returns
  have hlocks := B.notSynchronized
  have hts := atoms_spec (ws := (Cond.code yX1_init cX1_init 1 none :: ALLW)) B.pre
  have hta : ∀ w ∈ ALLW, w.before ([.ref pa] : List Value).toArray s = true := fun w h => hts w (List.mem_cons_of_mem _ h)
  have hown : s.vm.findClass RX1 = some m.cls := findClass_of_methodNamed B.named
  have hin : meth.name = "<init>" := (name_of_methodNamed B.named B.method).1
  obtain ⟨hsz, hP, hKE, hD0, hZ⟩ := hpre
  subst hsz
  have hD := hD0.self (sz := s.heap.size)
  generalize hAe : va_A ([(pa, .inr (2, [.null, .int z1]))]) s.heap.size = A at hD hZ ⊢
  have hA : ∀ q : Nat, s.heap.size ≤ q → A q := fun q h => by rw [← hAe]; exact Or.inr h
  have hS : va_S A s.heap s.heap [] := va_S.rf
  have hP : va_P (eD E) vwCl [(pa, .inr (2, [.null, .int z1]))] s.heap := hP
  have hD : va_D A [(pa, .inr (2, [.null, .int z1]))] := hD
  have hl := lv_entry ([.ref pa]) (n := 1) (Nat.le_of_ble_eq_true rfl)
  rw [lg_entry_eq]
  generalize (lg_sl ([.ref pa]) ++ List.replicate (1 - (lg_sl ([.ref pa])).length) Slot.unset).toArray = ls at hl ⊢
  have hl : lv_has ls 1 [(0, .ref pa)] := hl
  unfold wp_X1_init at hw
  refine lv_aload_n hx hb dX1_init_0 rfl (lv_at hl 0 rfl) ?_
  refine W.objInit hx hb hown (hta _ tw_57) (hta _ tw_24) (hta _ tw_25) rfl (by rw [hml]; exact hl.1) rfl dX1_init_1 (Nat.le_of_ble_eq_true rfl) (Nat.le_of_ble_eq_true rfl) ?_
  refine W.eq (g2 := F0 m 4 ls []) rfl ?_
  refine lv_aload_n hx hb dX1_init_4 rfl (lv_at hl 0 rfl) ?_
  refine lv_sipush (v := 157) hx hb dX1_init_5 (by decide) ?_
  refine va_newa (atype := .long) (ty := .long) (a0 := (157, .inr (.inl (fun _ => 0)))) hx hb (hta _ tw_66) rfl hKE.1 hP hD hS hA (fun _ => rfl) (by decide) (by decide) (by decide) (Nat.le_of_ble_eq_true rfl) (Nat.le_of_ble_eq_true rfl) dX1_init_8 (fun q_700 cA H hK9 hP hD hS => ?_)
  have hcA := newJ hKE hK9
  subst hcA
  refine W.widen (k := 1) (n := 157) (Nat.le_of_ble_eq_true rfl) (Nat.le_of_ble_eq_true rfl) ?_
  have hw := hw q_700
  have hP : va_P (eD E) vwCl [(pa, .inr (2, [.null, .int z1])), (q_700, .inl (eC E 1, 157, .inr (.inl (fun _ => 0))))] H := hP
  have hD : va_D A [(pa, .inr (2, [.null, .int z1])), (q_700, .inl (eC E 1, 157, .inr (.inl (fun _ => 0))))] := hD
  refine va_putF (D := eD E) (ci := 2) (v := .ref q_700) (ty := .array .long) (C := RX1) (T := TX1) (N := 2) hx hb hta lay_X1 tyX1 tyX1_ok nmX1 hown hKE.1 hP hD hS 0 rfl rfl 0 (by decide) (hta _ tw_58) (fun _ h9 => h9) rfl hin rfl (by decide +kernel) rfl rfl (Nat.le_of_ble_eq_true rfl) dX1_init_10 (fun H locs hP hD hS => ?_)
  have hP : va_P (eD E) vwCl [(pa, .inr (2, [.ref q_700, .int z1])), (q_700, .inl (eC E 1, 157, .inr (.inl (fun _ => 0))))] H := hP
  have hD : va_D A [(pa, .inr (2, [.ref q_700, .int z1])), (q_700, .inl (eC E 1, 157, .inr (.inl (fun _ => 0))))] := hD
  have hP9 : va_P (eD E) vwCl [(pa, .inr (2, [.ref q_700, .int z1])), (q_700, .inl (eC E 1, 157, .inr (.inl (fun _ => 0))))] H := hP
  have hD9 : va_D A [(pa, .inr (2, [.ref q_700, .int z1])), (q_700, .inl (eC E 1, 157, .inr (.inl (fun _ => 0))))] := hD
  exact W.vret hx hb hr (fun t ht hW => ⟨⟨q_700, rfl, hw, by rw [ht]; exact hP9, hD9⟩, hS.F ht⟩) hS.2.2 dX1_init_13
def wp_X2_init (E : EV) (post : (Nat → Nat) → Prop) (h0 : Nat) : Prop := (∀ q_701 : Nat, (wp_Jx4a65c_init_da8c8 E (fun u_702 : Unit => (∀ q_703 : Nat, (wp_X1_init E (fun u_704 : Nat => (∀ q_705 : Nat, (wp_X1_init E (fun u_706 : Nat => (∀ q_707 : Nat, post (fun k => if k = 0 then h0 else if k = 1 then q_701 else if k = 2 then q_703 else if k = 3 then u_704 else if k = 4 then q_705 else if k = 5 then u_706 else q_707))) q_705 0))) q_703 0))) q_701 0 0))
set_option maxHeartbeats 4000000 in
set_option maxRecDepth 100000 in
theorem c_X2_init (E : EV) (l : Launch) (h0 : Nat) (hz : Nat) (post : (Nat → Nat) → Prop) (hw : wp_X2_init E post h0) : Met l yX2_init (Cond.code yX2_init cX2_init 2 none :: ALLW) ({ frames := 4, cells := 6, slots := 324, locals := 72 } : Room) (va_Pc [.ref h0] (preM E ([(h0, .inr (3, [.null, .null, .null, .null, .int 0, .int 0, .int 0, .int 0, .null, .int 0, .int 0, .int 0, .int 0, .int 0, .int 0, .int 0, .int 0, .int 0, .int 0]))]) hz)) (va_Qv (fun (u : Nat → Nat) => post u) (fun (u : Nat → Nat) t => va_P (eD E) vwCl (wX E u (fun _ => 0) none 0 (eA E 0) 0 [] (fun _ => .inr (0, [])) (fun _ => 0) 0 (fun _ => 0) 0 (upd (upd (upd (fun _ => 0) (0 : Int32).toNatClampNeg 500) (1 : Int32).toNatClampNeg 500) (2 : Int32).toNatClampNeg 500)) t.heap ∧ va_D (va_A ([(h0, .inr (3, [.null, .null, .null, .null, .int 0, .int 0, .int 0, .int 0, .null, .int 0, .int 0, .int 0, .int 0, .int 0, .int 0, .int 0, .int 0, .int 0, .int 0]))]) hz) (wX E u (fun _ => 0) none 0 (eA E 0) 0 [] (fun _ => .inr (0, [])) (fun _ => 0) 0 (fun _ => 0) 0 (upd (upd (upd (fun _ => 0) (0 : Int32).toNatClampNeg 500) (1 : Int32).toNatClampNeg 500) (2 : Int32).toNatClampNeg 500))) (va_A ([(h0, .inr (3, [.null, .null, .null, .null, .int 0, .int 0, .int 0, .int 0, .null, .int 0, .int 0, .int 0, .int 0, .int 0, .int 0, .int 0, .int 0, .int 0, .int 0]))]) hz)) 6 324 (va_A ([(h0, .inr (3, [.null, .null, .null, .null, .int 0, .int 0, .int 0, .int 0, .null, .int 0, .int 0, .int 0, .int 0, .int 0, .int 0, .int 0, .int 0, .int 0, .int 0]))]) hz) := by
  refine Met.ofW (cc := cX2_init) (maxL := 2) (ret := none) (by decide) rfl ?_
  intro p e s m args below meth c s₁ B hml hv
  obtain ⟨rfl, hpre⟩ := hv
  have hx := B.exec
  have hb := B.bytes
  have hr := B.returns
  have hlocks := B.notSynchronized
  have hts := atoms_spec (ws := (Cond.code yX2_init cX2_init 2 none :: ALLW)) B.pre
  have hta : ∀ w ∈ ALLW, w.before ([.ref h0] : List Value).toArray s = true := fun w h => hts w (List.mem_cons_of_mem _ h)
  have hown : s.vm.findClass RX2 = some m.cls := findClass_of_methodNamed B.named
  have hin : meth.name = "<init>" := (name_of_methodNamed B.named B.method).1
  obtain ⟨hsz, hP, hKE, hD0, hZ⟩ := hpre
  subst hsz
  have hD := hD0.self (sz := s.heap.size)
  generalize hAe : va_A ([(h0, .inr (3, [.null, .null, .null, .null, .int 0, .int 0, .int 0, .int 0, .null, .int 0, .int 0, .int 0, .int 0, .int 0, .int 0, .int 0, .int 0, .int 0, .int 0]))]) s.heap.size = A at hD hZ ⊢
  have hA : ∀ q : Nat, s.heap.size ≤ q → A q := fun q h => by rw [← hAe]; exact Or.inr h
  have hS : va_S A s.heap s.heap [] := va_S.rf
  have hP : va_P (eD E) vwCl [(h0, .inr (3, [.null, .null, .null, .null, .int 0, .int 0, .int 0, .int 0, .null, .int 0, .int 0, .int 0, .int 0, .int 0, .int 0, .int 0, .int 0, .int 0, .int 0]))] s.heap := hP
  have hD : va_D A [(h0, .inr (3, [.null, .null, .null, .null, .int 0, .int 0, .int 0, .int 0, .null, .int 0, .int 0, .int 0, .int 0, .int 0, .int 0, .int 0, .int 0, .int 0, .int 0]))] := hD
  have hl := lv_entry ([.ref h0]) (n := 2) (Nat.le_of_ble_eq_true rfl)
  rw [lg_entry_eq]
  generalize (lg_sl ([.ref h0]) ++ List.replicate (2 - (lg_sl ([.ref h0])).length) Slot.unset).toArray = ls at hl ⊢
  have hl : lv_has ls 2 [(0, .ref h0)] := hl
  unfold wp_X2_init at hw
  refine lv_aload_n hx hb dX2_init_0 rfl (lv_at hl 0 rfl) ?_
  refine W.objInit hx hb hown (hta _ tw_23) (hta _ tw_24) (hta _ tw_25) rfl (by rw [hml]; exact hl.1) rfl dX2_init_1 (Nat.le_of_ble_eq_true rfl) (Nat.le_of_ble_eq_true rfl) ?_
  refine W.eq (g2 := F0 m 4 ls []) rfl ?_
  refine lv_aload_n hx hb dX2_init_4 rfl (lv_at hl 0 rfl) ?_
  refine va_new (ci := 0) (fs := [.int 0, .null, .int 0]) (C := RJx4a65c) (T := TJx4a65c) (N := 3) hx hb hta lay_AL tyJx4a65c tyJx4a65c_ok hown (hta _ tw_26) (hta _ tw_27) (hta _ tw_4) hKE.1 hP hD hS hA rfl (fun j hj => by rcases (show j = 0 ∨ j = 1 ∨ j = 2 by omega) with rfl | rfl | rfl <;> rfl) (Nat.le_of_ble_eq_true rfl) (Nat.le_of_ble_eq_true rfl) dX2_init_5 (fun q_701 H hP hD hS => ?_)
  refine W.widen (k := 1) (n := 3) (Nat.le_of_ble_eq_true rfl) (Nat.le_of_ble_eq_true rfl) ?_
  have hw := hw q_701
  have hP : va_P (eD E) vwCl [(h0, .inr (3, [.null, .null, .null, .null, .int 0, .int 0, .int 0, .int 0, .null, .int 0, .int 0, .int 0, .int 0, .int 0, .int 0, .int 0, .int 0, .int 0, .int 0])), (q_701, .inr (0, [.int 0, .null, .int 0]))] H := hP
  have hD : va_D A [(h0, .inr (3, [.null, .null, .null, .null, .int 0, .int 0, .int 0, .int 0, .null, .int 0, .int 0, .int 0, .int 0, .int 0, .int 0, .int 0, .int 0, .int 0, .int 0])), (q_701, .inr (0, [.int 0, .null, .int 0]))] := hD
  refine lv_dup hx hb dX2_init_8 rfl ?_
  have hPc : va_P (eD E) vwCl [(q_701, .inr (0, [.int 0, .null, .int 0]))] H := hP.sub [1] rfl
  have hDc : va_D A [(q_701, .inr (0, [.int 0, .null, .int 0]))] := hD.sub [1] (by decide) rfl
  have hFc : ∀ q, va_A [(q_701, .inr (0, [.int 0, .null, .int 0]))] H.size q → A q := va_free hD hS hA [1] rfl
  refine va_callv (va_runI (As := []) (rest := [.ref q_701, .ref h0]) ⟨hx, hb, hml, hown, hta⟩ (c_Jx4a65c_init_da8c8 E l q_701 0 0 H.size _ hw) (pcI (n := 0) hta tw_30 tw_28 tw_4 tw_29 rfl rfl rfl hd_Jx4a65c_init_da8c8 ⟨Nat.le_of_ble_eq_true rfl, Nat.le_of_ble_eq_true rfl⟩) ⟨fbM, fun U hU hW => ⟨rfl, preM.mk hPc hKE hDc hZ hS hFc hU hW⟩⟩ rfl rfl hl.1 rfl (lv_room (Nat.le_of_ble_eq_true rfl)) dX2_init_9 ⟨Nat.le_of_ble_eq_true rfl, Nat.le_of_ble_eq_true rfl⟩) hS (fun q _ h => hFc q h) hFc (fun u_702 t H locs ht hvm hw hB hz1 hk1 hS => ?_)
  obtain ⟨hP1, hD1⟩ := hB
  rw [ht] at hP1
  try dsimp only at hw hP1 hD1
  obtain ⟨hP, hD⟩ := va_join (wr := [(h0, .inr (3, [.null, .null, .null, .null, .int 0, .int 0, .int 0, .int 0, .null, .int 0, .int 0, .int 0, .int 0, .int 0, .int 0, .int 0, .int 0, .int 0, .int 0]))]) (w1 := [(q_701, .inr (0, [.int 0, .ref (eA E 0), .int 0]))]) hP hD [1] [0] rfl rfl (by decide) (by decide) hk1 hFc hP1 hD1
  have hP : va_P (eD E) vwCl [(h0, .inr (3, [.null, .null, .null, .null, .int 0, .int 0, .int 0, .int 0, .null, .int 0, .int 0, .int 0, .int 0, .int 0, .int 0, .int 0, .int 0, .int 0, .int 0])), (q_701, .inr (0, [.int 0, .ref (eA E 0), .int 0]))] H := hP
  have hD : va_D A [(h0, .inr (3, [.null, .null, .null, .null, .int 0, .int 0, .int 0, .int 0, .null, .int 0, .int 0, .int 0, .int 0, .int 0, .int 0, .int 0, .int 0, .int 0, .int 0])), (q_701, .inr (0, [.int 0, .ref (eA E 0), .int 0]))] := hD
  refine va_putF (D := eD E) (ci := 3) (v := .ref q_701) (ty := .object "java/util/ArrayList") (C := RX2) (T := TX2) (N := 19) hx hb hta lay_X2 tyX2 tyX2_ok nmX2 hown hKE.1 hP hD hS 0 rfl rfl 0 (by decide) (hta _ tw_67) (fun _ h9 => h9) rfl hin rfl (by decide +kernel) rfl rfl (Nat.le_of_ble_eq_true rfl) dX2_init_12 (fun H locs hP hD hS => ?_)
  have hP : va_P (eD E) vwCl [(h0, .inr (3, [.ref q_701, .null, .null, .null, .int 0, .int 0, .int 0, .int 0, .null, .int 0, .int 0, .int 0, .int 0, .int 0, .int 0, .int 0, .int 0, .int 0, .int 0])), (q_701, .inr (0, [.int 0, .ref (eA E 0), .int 0]))] H := hP
  have hD : va_D A [(h0, .inr (3, [.ref q_701, .null, .null, .null, .int 0, .int 0, .int 0, .int 0, .null, .int 0, .int 0, .int 0, .int 0, .int 0, .int 0, .int 0, .int 0, .int 0, .int 0])), (q_701, .inr (0, [.int 0, .ref (eA E 0), .int 0]))] := hD
  refine lv_aload_n hx hb dX2_init_15 rfl (lv_at hl 0 rfl) ?_
  refine va_new (ci := 2) (fs := [.null, .int 0]) (C := RX1) (T := TX1) (N := 2) hx hb hta lay_X1 tyX1 tyX1_ok hown (hta _ tw_52) (hta _ tw_53) (hta _ tw_5) hKE.1 hP hD hS hA rfl (fun j hj => by rcases (show j = 0 ∨ j = 1 by omega) with rfl | rfl <;> rfl) (Nat.le_of_ble_eq_true rfl) (Nat.le_of_ble_eq_true rfl) dX2_init_16 (fun q_703 H hP hD hS => ?_)
  refine W.widen (k := 2) (n := 5) (Nat.le_of_ble_eq_true rfl) (Nat.le_of_ble_eq_true rfl) ?_
  have hw := hw q_703
  have hP : va_P (eD E) vwCl [(h0, .inr (3, [.ref q_701, .null, .null, .null, .int 0, .int 0, .int 0, .int 0, .null, .int 0, .int 0, .int 0, .int 0, .int 0, .int 0, .int 0, .int 0, .int 0, .int 0])), (q_701, .inr (0, [.int 0, .ref (eA E 0), .int 0])), (q_703, .inr (2, [.null, .int 0]))] H := hP
  have hD : va_D A [(h0, .inr (3, [.ref q_701, .null, .null, .null, .int 0, .int 0, .int 0, .int 0, .null, .int 0, .int 0, .int 0, .int 0, .int 0, .int 0, .int 0, .int 0, .int 0, .int 0])), (q_701, .inr (0, [.int 0, .ref (eA E 0), .int 0])), (q_703, .inr (2, [.null, .int 0]))] := hD
  refine lv_dup hx hb dX2_init_19 rfl ?_
  have hPc : va_P (eD E) vwCl [(q_703, .inr (2, [.null, .int 0]))] H := hP.sub [2] rfl
  have hDc : va_D A [(q_703, .inr (2, [.null, .int 0]))] := hD.sub [2] (by decide) rfl
  have hFc : ∀ q, va_A [(q_703, .inr (2, [.null, .int 0]))] H.size q → A q := va_free hD hS hA [2] rfl
  refine va_callv (va_runIN (As := []) (rest := [.ref q_703, .ref h0]) ⟨hx, hb, hml, hown, hta⟩ (c_X1_init E l q_703 0 H.size _ hw) (pcIN (n := 0) hta tw_56 (hKE.2.1 _ (List.mem_of_getElem? (i := 0) rfl)) tw_5 tw_55 rfl rfl rfl hd_X1_init ⟨Nat.le_of_ble_eq_true rfl, Nat.le_of_ble_eq_true rfl⟩) ⟨fbM, fun U hU hW => ⟨rfl, preM.mk hPc hKE hDc hZ hS hFc hU hW⟩⟩ rfl rfl hl.1 rfl (lv_room (Nat.le_of_ble_eq_true rfl)) dX2_init_20 ⟨Nat.le_of_ble_eq_true rfl, Nat.le_of_ble_eq_true rfl⟩) hS (fun q _ h => hFc q h) hFc (fun u_704 t H locs ht hvm hw hB hz1 hk1 hS => ?_)
  obtain ⟨hP1, hD1⟩ := hB
  rw [ht] at hP1
  try dsimp only at hw hP1 hD1
  obtain ⟨hP, hD⟩ := va_join (wr := [(h0, .inr (3, [.ref q_701, .null, .null, .null, .int 0, .int 0, .int 0, .int 0, .null, .int 0, .int 0, .int 0, .int 0, .int 0, .int 0, .int 0, .int 0, .int 0, .int 0])), (q_701, .inr (0, [.int 0, .ref (eA E 0), .int 0]))]) (w1 := [(q_703, .inr (2, [.ref u_704, .int 0])), (u_704, .inl (eC E 1, 157, .inr (.inl (fun _ => 0))))]) hP hD [2] [0, 1] rfl rfl (by decide) (by decide) hk1 hFc hP1 hD1
  have hP : va_P (eD E) vwCl [(h0, .inr (3, [.ref q_701, .null, .null, .null, .int 0, .int 0, .int 0, .int 0, .null, .int 0, .int 0, .int 0, .int 0, .int 0, .int 0, .int 0, .int 0, .int 0, .int 0])), (q_701, .inr (0, [.int 0, .ref (eA E 0), .int 0])), (q_703, .inr (2, [.ref u_704, .int 0])), (u_704, .inl (eC E 1, 157, .inr (.inl (fun _ => 0))))] H := hP
  have hD : va_D A [(h0, .inr (3, [.ref q_701, .null, .null, .null, .int 0, .int 0, .int 0, .int 0, .null, .int 0, .int 0, .int 0, .int 0, .int 0, .int 0, .int 0, .int 0, .int 0, .int 0])), (q_701, .inr (0, [.int 0, .ref (eA E 0), .int 0])), (q_703, .inr (2, [.ref u_704, .int 0])), (u_704, .inl (eC E 1, 157, .inr (.inl (fun _ => 0))))] := hD
  refine va_putF (D := eD E) (ci := 3) (v := .ref q_703) (ty := .object "PlotKernel$Paper") (C := RX2) (T := TX2) (N := 19) hx hb hta lay_X2 tyX2 tyX2_ok nmX2 hown hKE.1 hP hD hS 0 rfl rfl 1 (by decide) (hta _ tw_68) (fun _ h9 => h9) rfl hin rfl (by decide +kernel) rfl rfl (Nat.le_of_ble_eq_true rfl) dX2_init_23 (fun H locs hP hD hS => ?_)
  have hP : va_P (eD E) vwCl [(h0, .inr (3, [.ref q_701, .ref q_703, .null, .null, .int 0, .int 0, .int 0, .int 0, .null, .int 0, .int 0, .int 0, .int 0, .int 0, .int 0, .int 0, .int 0, .int 0, .int 0])), (q_701, .inr (0, [.int 0, .ref (eA E 0), .int 0])), (q_703, .inr (2, [.ref u_704, .int 0])), (u_704, .inl (eC E 1, 157, .inr (.inl (fun _ => 0))))] H := hP
  have hD : va_D A [(h0, .inr (3, [.ref q_701, .ref q_703, .null, .null, .int 0, .int 0, .int 0, .int 0, .null, .int 0, .int 0, .int 0, .int 0, .int 0, .int 0, .int 0, .int 0, .int 0, .int 0])), (q_701, .inr (0, [.int 0, .ref (eA E 0), .int 0])), (q_703, .inr (2, [.ref u_704, .int 0])), (u_704, .inl (eC E 1, 157, .inr (.inl (fun _ => 0))))] := hD
  refine lv_aload_n hx hb dX2_init_26 rfl (lv_at hl 0 rfl) ?_
  refine va_new (ci := 2) (fs := [.null, .int 0]) (C := RX1) (T := TX1) (N := 2) hx hb hta lay_X1 tyX1 tyX1_ok hown (hta _ tw_52) (hta _ tw_53) (hta _ tw_5) hKE.1 hP hD hS hA rfl (fun j hj => by rcases (show j = 0 ∨ j = 1 by omega) with rfl | rfl <;> rfl) (Nat.le_of_ble_eq_true rfl) (Nat.le_of_ble_eq_true rfl) dX2_init_27 (fun q_705 H hP hD hS => ?_)
  refine W.widen (k := 4) (n := 164) (Nat.le_of_ble_eq_true rfl) (Nat.le_of_ble_eq_true rfl) ?_
  have hw := hw q_705
  have hP : va_P (eD E) vwCl [(h0, .inr (3, [.ref q_701, .ref q_703, .null, .null, .int 0, .int 0, .int 0, .int 0, .null, .int 0, .int 0, .int 0, .int 0, .int 0, .int 0, .int 0, .int 0, .int 0, .int 0])), (q_701, .inr (0, [.int 0, .ref (eA E 0), .int 0])), (q_703, .inr (2, [.ref u_704, .int 0])), (u_704, .inl (eC E 1, 157, .inr (.inl (fun _ => 0)))), (q_705, .inr (2, [.null, .int 0]))] H := hP
  have hD : va_D A [(h0, .inr (3, [.ref q_701, .ref q_703, .null, .null, .int 0, .int 0, .int 0, .int 0, .null, .int 0, .int 0, .int 0, .int 0, .int 0, .int 0, .int 0, .int 0, .int 0, .int 0])), (q_701, .inr (0, [.int 0, .ref (eA E 0), .int 0])), (q_703, .inr (2, [.ref u_704, .int 0])), (u_704, .inl (eC E 1, 157, .inr (.inl (fun _ => 0)))), (q_705, .inr (2, [.null, .int 0]))] := hD
  refine lv_dup hx hb dX2_init_30 rfl ?_
  have hPc : va_P (eD E) vwCl [(q_705, .inr (2, [.null, .int 0]))] H := hP.sub [4] rfl
  have hDc : va_D A [(q_705, .inr (2, [.null, .int 0]))] := hD.sub [4] (by decide) rfl
  have hFc : ∀ q, va_A [(q_705, .inr (2, [.null, .int 0]))] H.size q → A q := va_free hD hS hA [4] rfl
  refine va_callv (va_runIN (As := []) (rest := [.ref q_705, .ref h0]) ⟨hx, hb, hml, hown, hta⟩ (c_X1_init E l q_705 0 H.size _ hw) (pcIN (n := 0) hta tw_56 (hKE.2.1 _ (List.mem_of_getElem? (i := 0) rfl)) tw_5 tw_55 rfl rfl rfl hd_X1_init ⟨Nat.le_of_ble_eq_true rfl, Nat.le_of_ble_eq_true rfl⟩) ⟨fbM, fun U hU hW => ⟨rfl, preM.mk hPc hKE hDc hZ hS hFc hU hW⟩⟩ rfl rfl hl.1 rfl (lv_room (Nat.le_of_ble_eq_true rfl)) dX2_init_31 ⟨Nat.le_of_ble_eq_true rfl, Nat.le_of_ble_eq_true rfl⟩) hS (fun q _ h => hFc q h) hFc (fun u_706 t H locs ht hvm hw hB hz1 hk1 hS => ?_)
  obtain ⟨hP1, hD1⟩ := hB
  rw [ht] at hP1
  try dsimp only at hw hP1 hD1
  obtain ⟨hP, hD⟩ := va_join (wr := [(h0, .inr (3, [.ref q_701, .ref q_703, .null, .null, .int 0, .int 0, .int 0, .int 0, .null, .int 0, .int 0, .int 0, .int 0, .int 0, .int 0, .int 0, .int 0, .int 0, .int 0])), (q_701, .inr (0, [.int 0, .ref (eA E 0), .int 0])), (q_703, .inr (2, [.ref u_704, .int 0])), (u_704, .inl (eC E 1, 157, .inr (.inl (fun _ => 0))))]) (w1 := [(q_705, .inr (2, [.ref u_706, .int 0])), (u_706, .inl (eC E 1, 157, .inr (.inl (fun _ => 0))))]) hP hD [4] [0, 1, 2, 3] rfl rfl (by decide) (by decide) hk1 hFc hP1 hD1
  have hP : va_P (eD E) vwCl [(h0, .inr (3, [.ref q_701, .ref q_703, .null, .null, .int 0, .int 0, .int 0, .int 0, .null, .int 0, .int 0, .int 0, .int 0, .int 0, .int 0, .int 0, .int 0, .int 0, .int 0])), (q_701, .inr (0, [.int 0, .ref (eA E 0), .int 0])), (q_703, .inr (2, [.ref u_704, .int 0])), (u_704, .inl (eC E 1, 157, .inr (.inl (fun _ => 0)))), (q_705, .inr (2, [.ref u_706, .int 0])), (u_706, .inl (eC E 1, 157, .inr (.inl (fun _ => 0))))] H := hP
  have hD : va_D A [(h0, .inr (3, [.ref q_701, .ref q_703, .null, .null, .int 0, .int 0, .int 0, .int 0, .null, .int 0, .int 0, .int 0, .int 0, .int 0, .int 0, .int 0, .int 0, .int 0, .int 0])), (q_701, .inr (0, [.int 0, .ref (eA E 0), .int 0])), (q_703, .inr (2, [.ref u_704, .int 0])), (u_704, .inl (eC E 1, 157, .inr (.inl (fun _ => 0)))), (q_705, .inr (2, [.ref u_706, .int 0])), (u_706, .inl (eC E 1, 157, .inr (.inl (fun _ => 0))))] := hD
  refine va_putF (D := eD E) (ci := 3) (v := .ref q_705) (ty := .object "PlotKernel$Paper") (C := RX2) (T := TX2) (N := 19) hx hb hta lay_X2 tyX2 tyX2_ok nmX2 hown hKE.1 hP hD hS 0 rfl rfl 2 (by decide) (hta _ tw_69) (fun _ h9 => h9) rfl hin rfl (by decide +kernel) rfl rfl (Nat.le_of_ble_eq_true rfl) dX2_init_34 (fun H locs hP hD hS => ?_)
  have hP : va_P (eD E) vwCl [(h0, .inr (3, [.ref q_701, .ref q_703, .ref q_705, .null, .int 0, .int 0, .int 0, .int 0, .null, .int 0, .int 0, .int 0, .int 0, .int 0, .int 0, .int 0, .int 0, .int 0, .int 0])), (q_701, .inr (0, [.int 0, .ref (eA E 0), .int 0])), (q_703, .inr (2, [.ref u_704, .int 0])), (u_704, .inl (eC E 1, 157, .inr (.inl (fun _ => 0)))), (q_705, .inr (2, [.ref u_706, .int 0])), (u_706, .inl (eC E 1, 157, .inr (.inl (fun _ => 0))))] H := hP
  have hD : va_D A [(h0, .inr (3, [.ref q_701, .ref q_703, .ref q_705, .null, .int 0, .int 0, .int 0, .int 0, .null, .int 0, .int 0, .int 0, .int 0, .int 0, .int 0, .int 0, .int 0, .int 0, .int 0])), (q_701, .inr (0, [.int 0, .ref (eA E 0), .int 0])), (q_703, .inr (2, [.ref u_704, .int 0])), (u_704, .inl (eC E 1, 157, .inr (.inl (fun _ => 0)))), (q_705, .inr (2, [.ref u_706, .int 0])), (u_706, .inl (eC E 1, 157, .inr (.inl (fun _ => 0))))] := hD
  refine lv_aload_n hx hb dX2_init_37 rfl (lv_at hl 0 rfl) ?_
  refine lv_iconst (v := 3) hx hb dX2_init_38 (by decide) ?_
  refine va_newa (atype := .int) (ty := .int) (a0 := (3, .inl (fun _ => 0))) hx hb (hta _ tw_125) rfl hKE.1 hP hD hS hA (fun _ => rfl) (by decide) (by decide) (by decide) (Nat.le_of_ble_eq_true rfl) (Nat.le_of_ble_eq_true rfl) dX2_init_39 (fun q_707 cA H hK9 hP hD hS => ?_)
  have hcA := newI hKE hK9
  subst hcA
  refine W.widen (k := 6) (n := 324) (Nat.le_of_ble_eq_true rfl) (Nat.le_of_ble_eq_true rfl) ?_
  have hw := hw q_707
  have hP : va_P (eD E) vwCl [(h0, .inr (3, [.ref q_701, .ref q_703, .ref q_705, .null, .int 0, .int 0, .int 0, .int 0, .null, .int 0, .int 0, .int 0, .int 0, .int 0, .int 0, .int 0, .int 0, .int 0, .int 0])), (q_701, .inr (0, [.int 0, .ref (eA E 0), .int 0])), (q_703, .inr (2, [.ref u_704, .int 0])), (u_704, .inl (eC E 1, 157, .inr (.inl (fun _ => 0)))), (q_705, .inr (2, [.ref u_706, .int 0])), (u_706, .inl (eC E 1, 157, .inr (.inl (fun _ => 0)))), (q_707, .inl (eC E 0, 3, .inl (fun _ => 0)))] H := hP
  have hD : va_D A [(h0, .inr (3, [.ref q_701, .ref q_703, .ref q_705, .null, .int 0, .int 0, .int 0, .int 0, .null, .int 0, .int 0, .int 0, .int 0, .int 0, .int 0, .int 0, .int 0, .int 0, .int 0])), (q_701, .inr (0, [.int 0, .ref (eA E 0), .int 0])), (q_703, .inr (2, [.ref u_704, .int 0])), (u_704, .inl (eC E 1, 157, .inr (.inl (fun _ => 0)))), (q_705, .inr (2, [.ref u_706, .int 0])), (u_706, .inl (eC E 1, 157, .inr (.inl (fun _ => 0)))), (q_707, .inl (eC E 0, 3, .inl (fun _ => 0)))] := hD
  refine va_putF (D := eD E) (ci := 3) (v := .ref q_707) (ty := .array .int) (C := RX2) (T := TX2) (N := 19) hx hb hta lay_X2 tyX2 tyX2_ok nmX2 hown hKE.1 hP hD hS 0 rfl rfl 3 (by decide) (hta _ tw_70) (fun _ h9 => h9) rfl hin rfl (by decide +kernel) rfl rfl (Nat.le_of_ble_eq_true rfl) dX2_init_41 (fun H locs hP hD hS => ?_)
  have hP : va_P (eD E) vwCl [(h0, .inr (3, [.ref q_701, .ref q_703, .ref q_705, .ref q_707, .int 0, .int 0, .int 0, .int 0, .null, .int 0, .int 0, .int 0, .int 0, .int 0, .int 0, .int 0, .int 0, .int 0, .int 0])), (q_701, .inr (0, [.int 0, .ref (eA E 0), .int 0])), (q_703, .inr (2, [.ref u_704, .int 0])), (u_704, .inl (eC E 1, 157, .inr (.inl (fun _ => 0)))), (q_705, .inr (2, [.ref u_706, .int 0])), (u_706, .inl (eC E 1, 157, .inr (.inl (fun _ => 0)))), (q_707, .inl (eC E 0, 3, .inl (fun _ => 0)))] H := hP
  have hD : va_D A [(h0, .inr (3, [.ref q_701, .ref q_703, .ref q_705, .ref q_707, .int 0, .int 0, .int 0, .int 0, .null, .int 0, .int 0, .int 0, .int 0, .int 0, .int 0, .int 0, .int 0, .int 0, .int 0])), (q_701, .inr (0, [.int 0, .ref (eA E 0), .int 0])), (q_703, .inr (2, [.ref u_704, .int 0])), (u_704, .inl (eC E 1, 157, .inr (.inl (fun _ => 0)))), (q_705, .inr (2, [.ref u_706, .int 0])), (u_706, .inl (eC E 1, 157, .inr (.inl (fun _ => 0)))), (q_707, .inl (eC E 0, 3, .inl (fun _ => 0)))] := hD
  refine lv_iconst (v := 0) hx hb dX2_init_44 (by decide) ?_
  refine lv_istore_n (lv' := [(1, .int 0), (0, .ref h0)]) hx hb dX2_init_45 rfl hl (by decide) rfl (fun ls hl => ?_)
  refine lv_iload_n hx hb dX2_init_46 rfl (lv_at hl 0 rfl) ?_
  refine lv_aload_n hx hb dX2_init_47 rfl (lv_at hl 1 rfl) ?_
  refine va_get (D := eD E) (ci := 3) (v := .ref q_707) (C := RX2) (T := TX2) (N := 19) hx hb hta lay_X2 hown hKE.1 hP 0 rfl rfl 3 (by decide) (hta _ tw_70) (fun _ h9 => h9) rfl dX2_init_48 ?_
  refine va_alen hx hb hKE.1 hP 6 0 rfl rfl (v := 3) (by show Int32.ofNat 3 = 3; decide) dX2_init_51 ?_
  refine lv_icmp_ge (tgt := 70) hx hb dX2_init_52 (by decide) (fun c9 => absurd c9 (by decide)) (fun _ => ?_)
  refine lv_aload_n hx hb dX2_init_55 rfl (lv_at hl 1 rfl) ?_
  refine va_get (D := eD E) (ci := 3) (v := .ref q_707) (C := RX2) (T := TX2) (N := 19) hx hb hta lay_X2 hown hKE.1 hP 0 rfl rfl 3 (by decide) (hta _ tw_70) (fun _ h9 => h9) rfl dX2_init_56 ?_
  refine lv_iload_n hx hb dX2_init_59 rfl (lv_at hl 0 rfl) ?_
  refine lv_sipush (v := 500) hx hb dX2_init_60 (by decide) ?_
  refine va_iast hx hb hKE.1 hP hD hS 6 0 rfl rfl (show vp_in 0 3 from by unfold vp_in; decide) dX2_init_63 (fun H locs hP hD hS => ?_)
  have hP : va_P (eD E) vwCl [(h0, .inr (3, [.ref q_701, .ref q_703, .ref q_705, .ref q_707, .int 0, .int 0, .int 0, .int 0, .null, .int 0, .int 0, .int 0, .int 0, .int 0, .int 0, .int 0, .int 0, .int 0, .int 0])), (q_701, .inr (0, [.int 0, .ref (eA E 0), .int 0])), (q_703, .inr (2, [.ref u_704, .int 0])), (u_704, .inl (eC E 1, 157, .inr (.inl (fun _ => 0)))), (q_705, .inr (2, [.ref u_706, .int 0])), (u_706, .inl (eC E 1, 157, .inr (.inl (fun _ => 0)))), (q_707, .inl (eC E 0, 3, .inl (upd (fun _ => 0) (0 : Int32).toNatClampNeg 500)))] H := hP
  have hD : va_D A [(h0, .inr (3, [.ref q_701, .ref q_703, .ref q_705, .ref q_707, .int 0, .int 0, .int 0, .int 0, .null, .int 0, .int 0, .int 0, .int 0, .int 0, .int 0, .int 0, .int 0, .int 0, .int 0])), (q_701, .inr (0, [.int 0, .ref (eA E 0), .int 0])), (q_703, .inr (2, [.ref u_704, .int 0])), (u_704, .inl (eC E 1, 157, .inr (.inl (fun _ => 0)))), (q_705, .inr (2, [.ref u_706, .int 0])), (u_706, .inl (eC E 1, 157, .inr (.inl (fun _ => 0)))), (q_707, .inl (eC E 0, 3, .inl (upd (fun _ => 0) (0 : Int32).toNatClampNeg 500)))] := hD
  refine lv_iinc (v := 1) (lv' := [(1, .int 1), (0, .ref h0)]) hx hb dX2_init_64 hl (k := 0) rfl (by decide) (by decide) rfl (fun ls hl => ?_)
  refine lv_goto (tgt := 46) hx hb dX2_init_67 (by decide) ?_
  refine lv_iload_n hx hb dX2_init_46 rfl (lv_at hl 0 rfl) ?_
  refine lv_aload_n hx hb dX2_init_47 rfl (lv_at hl 1 rfl) ?_
  refine va_get (D := eD E) (ci := 3) (v := .ref q_707) (C := RX2) (T := TX2) (N := 19) hx hb hta lay_X2 hown hKE.1 hP 0 rfl rfl 3 (by decide) (hta _ tw_70) (fun _ h9 => h9) rfl dX2_init_48 ?_
  refine va_alen hx hb hKE.1 hP 6 0 rfl rfl (v := 3) (by show Int32.ofNat 3 = 3; decide) dX2_init_51 ?_
  refine lv_icmp_ge (tgt := 70) hx hb dX2_init_52 (by decide) (fun c9 => absurd c9 (by decide)) (fun _ => ?_)
  refine lv_aload_n hx hb dX2_init_55 rfl (lv_at hl 1 rfl) ?_
  refine va_get (D := eD E) (ci := 3) (v := .ref q_707) (C := RX2) (T := TX2) (N := 19) hx hb hta lay_X2 hown hKE.1 hP 0 rfl rfl 3 (by decide) (hta _ tw_70) (fun _ h9 => h9) rfl dX2_init_56 ?_
  refine lv_iload_n hx hb dX2_init_59 rfl (lv_at hl 0 rfl) ?_
  refine lv_sipush (v := 500) hx hb dX2_init_60 (by decide) ?_
  refine va_iast hx hb hKE.1 hP hD hS 6 0 rfl rfl (show vp_in 1 3 from by unfold vp_in; decide) dX2_init_63 (fun H locs hP hD hS => ?_)
  have hP : va_P (eD E) vwCl [(h0, .inr (3, [.ref q_701, .ref q_703, .ref q_705, .ref q_707, .int 0, .int 0, .int 0, .int 0, .null, .int 0, .int 0, .int 0, .int 0, .int 0, .int 0, .int 0, .int 0, .int 0, .int 0])), (q_701, .inr (0, [.int 0, .ref (eA E 0), .int 0])), (q_703, .inr (2, [.ref u_704, .int 0])), (u_704, .inl (eC E 1, 157, .inr (.inl (fun _ => 0)))), (q_705, .inr (2, [.ref u_706, .int 0])), (u_706, .inl (eC E 1, 157, .inr (.inl (fun _ => 0)))), (q_707, .inl (eC E 0, 3, .inl (upd (upd (fun _ => 0) (0 : Int32).toNatClampNeg 500) (1 : Int32).toNatClampNeg 500)))] H := hP
  have hD : va_D A [(h0, .inr (3, [.ref q_701, .ref q_703, .ref q_705, .ref q_707, .int 0, .int 0, .int 0, .int 0, .null, .int 0, .int 0, .int 0, .int 0, .int 0, .int 0, .int 0, .int 0, .int 0, .int 0])), (q_701, .inr (0, [.int 0, .ref (eA E 0), .int 0])), (q_703, .inr (2, [.ref u_704, .int 0])), (u_704, .inl (eC E 1, 157, .inr (.inl (fun _ => 0)))), (q_705, .inr (2, [.ref u_706, .int 0])), (u_706, .inl (eC E 1, 157, .inr (.inl (fun _ => 0)))), (q_707, .inl (eC E 0, 3, .inl (upd (upd (fun _ => 0) (0 : Int32).toNatClampNeg 500) (1 : Int32).toNatClampNeg 500)))] := hD
  refine lv_iinc (v := 2) (lv' := [(1, .int 2), (0, .ref h0)]) hx hb dX2_init_64 hl (k := 0) rfl (by decide) (by decide) rfl (fun ls hl => ?_)
  refine lv_goto (tgt := 46) hx hb dX2_init_67 (by decide) ?_
  refine lv_iload_n hx hb dX2_init_46 rfl (lv_at hl 0 rfl) ?_
  refine lv_aload_n hx hb dX2_init_47 rfl (lv_at hl 1 rfl) ?_
  refine va_get (D := eD E) (ci := 3) (v := .ref q_707) (C := RX2) (T := TX2) (N := 19) hx hb hta lay_X2 hown hKE.1 hP 0 rfl rfl 3 (by decide) (hta _ tw_70) (fun _ h9 => h9) rfl dX2_init_48 ?_
  refine va_alen hx hb hKE.1 hP 6 0 rfl rfl (v := 3) (by show Int32.ofNat 3 = 3; decide) dX2_init_51 ?_
  refine lv_icmp_ge (tgt := 70) hx hb dX2_init_52 (by decide) (fun c9 => absurd c9 (by decide)) (fun _ => ?_)
  refine lv_aload_n hx hb dX2_init_55 rfl (lv_at hl 1 rfl) ?_
  refine va_get (D := eD E) (ci := 3) (v := .ref q_707) (C := RX2) (T := TX2) (N := 19) hx hb hta lay_X2 hown hKE.1 hP 0 rfl rfl 3 (by decide) (hta _ tw_70) (fun _ h9 => h9) rfl dX2_init_56 ?_
  refine lv_iload_n hx hb dX2_init_59 rfl (lv_at hl 0 rfl) ?_
  refine lv_sipush (v := 500) hx hb dX2_init_60 (by decide) ?_
  refine va_iast hx hb hKE.1 hP hD hS 6 0 rfl rfl (show vp_in 2 3 from by unfold vp_in; decide) dX2_init_63 (fun H locs hP hD hS => ?_)
  have hP : va_P (eD E) vwCl [(h0, .inr (3, [.ref q_701, .ref q_703, .ref q_705, .ref q_707, .int 0, .int 0, .int 0, .int 0, .null, .int 0, .int 0, .int 0, .int 0, .int 0, .int 0, .int 0, .int 0, .int 0, .int 0])), (q_701, .inr (0, [.int 0, .ref (eA E 0), .int 0])), (q_703, .inr (2, [.ref u_704, .int 0])), (u_704, .inl (eC E 1, 157, .inr (.inl (fun _ => 0)))), (q_705, .inr (2, [.ref u_706, .int 0])), (u_706, .inl (eC E 1, 157, .inr (.inl (fun _ => 0)))), (q_707, .inl (eC E 0, 3, .inl (upd (upd (upd (fun _ => 0) (0 : Int32).toNatClampNeg 500) (1 : Int32).toNatClampNeg 500) (2 : Int32).toNatClampNeg 500)))] H := hP
  have hD : va_D A [(h0, .inr (3, [.ref q_701, .ref q_703, .ref q_705, .ref q_707, .int 0, .int 0, .int 0, .int 0, .null, .int 0, .int 0, .int 0, .int 0, .int 0, .int 0, .int 0, .int 0, .int 0, .int 0])), (q_701, .inr (0, [.int 0, .ref (eA E 0), .int 0])), (q_703, .inr (2, [.ref u_704, .int 0])), (u_704, .inl (eC E 1, 157, .inr (.inl (fun _ => 0)))), (q_705, .inr (2, [.ref u_706, .int 0])), (u_706, .inl (eC E 1, 157, .inr (.inl (fun _ => 0)))), (q_707, .inl (eC E 0, 3, .inl (upd (upd (upd (fun _ => 0) (0 : Int32).toNatClampNeg 500) (1 : Int32).toNatClampNeg 500) (2 : Int32).toNatClampNeg 500)))] := hD
  refine lv_iinc (v := 3) (lv' := [(1, .int 3), (0, .ref h0)]) hx hb dX2_init_64 hl (k := 0) rfl (by decide) (by decide) rfl (fun ls hl => ?_)
  refine lv_goto (tgt := 46) hx hb dX2_init_67 (by decide) ?_
  refine lv_iload_n hx hb dX2_init_46 rfl (lv_at hl 0 rfl) ?_
  refine lv_aload_n hx hb dX2_init_47 rfl (lv_at hl 1 rfl) ?_
  refine va_get (D := eD E) (ci := 3) (v := .ref q_707) (C := RX2) (T := TX2) (N := 19) hx hb hta lay_X2 hown hKE.1 hP 0 rfl rfl 3 (by decide) (hta _ tw_70) (fun _ h9 => h9) rfl dX2_init_48 ?_
  refine va_alen hx hb hKE.1 hP 6 0 rfl rfl (v := 3) (by show Int32.ofNat 3 = 3; decide) dX2_init_51 ?_
  refine lv_icmp_ge (tgt := 70) hx hb dX2_init_52 (by decide) (fun _ => ?_) (fun c9 => absurd (by decide) c9)
  have hP9 : va_P (eD E) vwCl (wX E (fun k => if k = 0 then h0 else if k = 1 then q_701 else if k = 2 then q_703 else if k = 3 then u_704 else if k = 4 then q_705 else if k = 5 then u_706 else q_707) (fun _ => 0) none 0 (eA E 0) 0 [] (fun _ => .inr (0, [])) (fun _ => 0) 0 (fun _ => 0) 0 (upd (upd (upd (fun _ => 0) (0 : Int32).toNatClampNeg 500) (1 : Int32).toNatClampNeg 500) (2 : Int32).toNatClampNeg 500)) H := hP
  have hD9 : va_D A (wX E (fun k => if k = 0 then h0 else if k = 1 then q_701 else if k = 2 then q_703 else if k = 3 then u_704 else if k = 4 then q_705 else if k = 5 then u_706 else q_707) (fun _ => 0) none 0 (eA E 0) 0 [] (fun _ => .inr (0, [])) (fun _ => 0) 0 (fun _ => 0) 0 (upd (upd (upd (fun _ => 0) (0 : Int32).toNatClampNeg 500) (1 : Int32).toNatClampNeg 500) (2 : Int32).toNatClampNeg 500)) := hD
  exact W.vret hx hb hr (fun t ht hW => ⟨⟨(fun k => if k = 0 then h0 else if k = 1 then q_701 else if k = 2 then q_703 else if k = 3 then u_704 else if k = 4 then q_705 else if k = 5 then u_706 else q_707), rfl, hw, by rw [ht]; exact hP9, hD9⟩, hS.F ht⟩) hS.2.2 dX2_init_70
