def wp_X0_init (E : EV) (post : Int32 → Int32 → Int32 → Int32 → Prop) (ck : Int32) (cx : Int32) (cy : Int32) (cp : Int32) (p0 : Int32) (p1 : Int32) (p2 : Int32) (p3 : Int32) : Prop := post p0 p1 p2 p3
set_option maxHeartbeats 4000000 in
set_option maxRecDepth 100000 in
theorem c_X0_init (E : EV) (l : Launch) (ca : Nat) (ck : Int32) (cx : Int32) (cy : Int32) (cp : Int32) (p0 : Int32) (p1 : Int32) (p2 : Int32) (p3 : Int32) (hz : Nat) (post : Int32 → Int32 → Int32 → Int32 → Prop) (hw : wp_X0_init E post ck cx cy cp p0 p1 p2 p3) : Met l yX0_init (Cond.code yX0_init cX0_init 5 none :: ALLW) ({ frames := 1, cells := 0, slots := 0, locals := 12 } : Room) (va_Pc [.ref ca, .int p0, .int p1, .int p2, .int p3] (preM E (wC ca ck cx cy cp) hz)) (va_Qv (fun (u : Int32 × Int32 × Int32 × Int32) => post u.1 u.2.1 u.2.2.1 u.2.2.2) (fun (u : Int32 × Int32 × Int32 × Int32) t => va_P (eD E) vwCl (wC ca u.1 u.2.1 u.2.2.1 u.2.2.2) t.heap ∧ va_D (va_A (wC ca ck cx cy cp) hz) (wC ca u.1 u.2.1 u.2.2.1 u.2.2.2)) (va_A (wC ca ck cx cy cp) hz)) 0 0 (va_A (wC ca ck cx cy cp) hz) := by
  refine Met.ofW (cc := cX0_init) (maxL := 5) (ret := none) (by decide) rfl ?_
  intro p e s m args below meth c s₁ B hml hv
  obtain ⟨rfl, hpre⟩ := hv
  have hx := B.exec
  have hb := B.bytes
  have hr := B.returns
  have hlocks := B.notSynchronized
  have hts := atoms_spec (ws := (Cond.code yX0_init cX0_init 5 none :: ALLW)) B.pre
  have hta : ∀ w ∈ ALLW, w.before ([.ref ca, .int p0, .int p1, .int p2, .int p3] : List Value).toArray s = true := fun w h => hts w (List.mem_cons_of_mem _ h)
  have hown : s.vm.findClass RX0 = some m.cls := findClass_of_methodNamed B.named
  have hin : meth.name = "<init>" := (name_of_methodNamed B.named B.method).1
  obtain ⟨hsz, hP, hKE, hD0, hZ⟩ := hpre
  subst hsz
  have hD := hD0.self (sz := s.heap.size)
  generalize hAe : va_A (wC ca ck cx cy cp) s.heap.size = A at hD hZ ⊢
  have hA : ∀ q : Nat, s.heap.size ≤ q → A q := fun q h => by rw [← hAe]; exact Or.inr h
  have hS : va_S A s.heap s.heap [] := va_S.rf
  have hP : va_P (eD E) vwCl [(ca, .inr (1, [.int ck, .int cx, .int cy, .int cp]))] s.heap := hP
  have hD : va_D A [(ca, .inr (1, [.int ck, .int cx, .int cy, .int cp]))] := hD
  have hl := lv_entry ([.ref ca, .int p0, .int p1, .int p2, .int p3]) (n := 5) (Nat.le_of_ble_eq_true rfl)
  rw [lg_entry_eq]
  generalize (lg_sl ([.ref ca, .int p0, .int p1, .int p2, .int p3]) ++ List.replicate (5 - (lg_sl ([.ref ca, .int p0, .int p1, .int p2, .int p3])).length) Slot.unset).toArray = ls at hl ⊢
  have hl : lv_has ls 5 [(0, .ref ca), (1, .int p0), (2, .int p1), (3, .int p2), (4, .int p3)] := hl
  unfold wp_X0_init at hw
  refine lv_aload_n hx hb dX0_init_0 rfl (lv_at hl 0 rfl) ?_
  refine W.objInit hx hb hown (hta _ tw_387) (hta _ tw_24) (hta _ tw_25) rfl (by rw [hml]; exact hl.1) rfl dX0_init_1 (Nat.le_of_ble_eq_true rfl) (Nat.le_of_ble_eq_true rfl) ?_
  refine W.eq (g2 := F0 m 4 ls []) rfl ?_
  refine lv_aload_n hx hb dX0_init_4 rfl (lv_at hl 0 rfl) ?_
  refine lv_iload_n hx hb dX0_init_5 rfl (lv_at hl 1 rfl) ?_
  refine va_putF (D := eD E) (ci := 1) (v := .int p0) (ty := .int) (C := RX0) (T := TX0) (N := 4) hx hb hta lay_X0 tyX0 tyX0_ok nmX0 hown hKE.1 hP hD hS 0 rfl rfl 0 (by decide) (hta _ tw_388) (fun _ h9 => h9) rfl hin rfl (by decide +kernel) rfl rfl (Nat.le_of_ble_eq_true rfl) dX0_init_6 (fun H locs hP hD hS => ?_)
  have hP : va_P (eD E) vwCl [(ca, .inr (1, [.int p0, .int cx, .int cy, .int cp]))] H := hP
  have hD : va_D A [(ca, .inr (1, [.int p0, .int cx, .int cy, .int cp]))] := hD
  refine lv_aload_n hx hb dX0_init_9 rfl (lv_at hl 0 rfl) ?_
  refine lv_iload_n hx hb dX0_init_10 rfl (lv_at hl 2 rfl) ?_
  refine va_putF (D := eD E) (ci := 1) (v := .int p1) (ty := .int) (C := RX0) (T := TX0) (N := 4) hx hb hta lay_X0 tyX0 tyX0_ok nmX0 hown hKE.1 hP hD hS 0 rfl rfl 1 (by decide) (hta _ tw_390) (fun _ h9 => h9) rfl hin rfl (by decide +kernel) rfl rfl (Nat.le_of_ble_eq_true rfl) dX0_init_11 (fun H locs hP hD hS => ?_)
  have hP : va_P (eD E) vwCl [(ca, .inr (1, [.int p0, .int p1, .int cy, .int cp]))] H := hP
  have hD : va_D A [(ca, .inr (1, [.int p0, .int p1, .int cy, .int cp]))] := hD
  refine lv_aload_n hx hb dX0_init_14 rfl (lv_at hl 0 rfl) ?_
  refine lv_iload_n hx hb dX0_init_15 rfl (lv_at hl 3 rfl) ?_
  refine va_putF (D := eD E) (ci := 1) (v := .int p2) (ty := .int) (C := RX0) (T := TX0) (N := 4) hx hb hta lay_X0 tyX0 tyX0_ok nmX0 hown hKE.1 hP hD hS 0 rfl rfl 2 (by decide) (hta _ tw_392) (fun _ h9 => h9) rfl hin rfl (by decide +kernel) rfl rfl (Nat.le_of_ble_eq_true rfl) dX0_init_16 (fun H locs hP hD hS => ?_)
  have hP : va_P (eD E) vwCl [(ca, .inr (1, [.int p0, .int p1, .int p2, .int cp]))] H := hP
  have hD : va_D A [(ca, .inr (1, [.int p0, .int p1, .int p2, .int cp]))] := hD
  refine lv_aload_n hx hb dX0_init_19 rfl (lv_at hl 0 rfl) ?_
  refine lv_iload hx hb dX0_init_20 (lv_at hl 4 rfl) ?_
  refine va_putF (D := eD E) (ci := 1) (v := .int p3) (ty := .int) (C := RX0) (T := TX0) (N := 4) hx hb hta lay_X0 tyX0 tyX0_ok nmX0 hown hKE.1 hP hD hS 0 rfl rfl 3 (by decide) (hta _ tw_394) (fun _ h9 => h9) rfl hin rfl (by decide +kernel) rfl rfl (Nat.le_of_ble_eq_true rfl) dX0_init_22 (fun H locs hP hD hS => ?_)
  have hP : va_P (eD E) vwCl [(ca, .inr (1, [.int p0, .int p1, .int p2, .int p3]))] H := hP
  have hD : va_D A [(ca, .inr (1, [.int p0, .int p1, .int p2, .int p3]))] := hD
  have hP9 : va_P (eD E) vwCl (wC ca p0 p1 p2 p3) H := hP
  have hD9 : va_D A (wC ca p0 p1 p2 p3) := hD
  exact W.vret hx hb hr (fun t ht hW => ⟨⟨(p0, p1, p2, p3), rfl, hw, ⟨by rw [ht]; exact hP9, hD9⟩⟩, hS.F ht⟩) hS.2.2 dX0_init_25
def wp_X2_endCommand (E : EV) (post : (Nat → Int32) → Option Nat → Int32 → Nat → Int32 → List Nat → (Nat → va_E) → (Nat → Int64) → Int32 → (Nat → Int64) → Int32 → (Nat → Int32) → Prop) (gx : Nat → Int32) (lt : Option Nat) (mo : Int32) (ad : Nat) (ln : Int32) (PL : List Nat) (pf : Nat → va_E) (pw : Nat → Int64) (pk : Int32) (lw : Nat → Int64) (lk : Int32) (ik : Nat → Int32) (p0 : Int32) : Prop := (((gx 4) = 4 → (wp_X2_repeatLatest E (fun (gx_567 : Nat → Int32) (lt_568 : Option Nat) (mo_569 : Int32) (ad_570 : Nat) (ln_571 : Int32) (PL_572 : List Nat) (pf_573 : Nat → va_E) (pw_574 : Nat → Int64) (pk_575 : Int32) (lw_576 : Nat → Int64) (lk_577 : Int32) (ik_578 : Nat → Int32) => post gx_567 lt_568 mo_569 ad_570 ln_571 PL_572 pf_573 pw_574 pk_575 lw_576 lk_577 ik_578) gx lt mo ad ln PL pf pw pk lw lk ik p0)) ∧ (¬ (gx 4) = 4 → (((gx 4) = 3 → (∀ q_540 : Nat, q_540 ∉ PL → ∀ pf_541 : Nat → va_E, pf_541 = va_up pf q_540 (.inr (1, [.int 0, .int 0, .int 0, .int 0])) → (wp_X0_init E (fun (ck_547 : Int32) (cx_548 : Int32) (cy_549 : Int32) (cp_550 : Int32) => (∀ pf_551 : Nat → va_E, pf_551 = va_up pf_541 q_540 (.inr (1, [.int ck_547, .int cx_548, .int cy_549, .int cp_550])) → (wp_X2_queueIfRight E (fun (r_553 : Int32) (gx_554 : Nat → Int32) (lt_555 : Option Nat) (mo_556 : Int32) (ad_557 : Nat) (ln_558 : Int32) (PL_559 : List Nat) (pf_560 : Nat → va_E) (pw_561 : Nat → Int64) (pk_562 : Int32) (lw_563 : Nat → Int64) (lk_564 : Int32) (ik_565 : Nat → Int32) => post gx_554 lt_555 mo_556 ad_557 ln_558 PL_559 pf_560 pw_561 pk_562 lw_563 lk_564 ik_565) gx lt mo ad ln (PL ++ [q_540]) pf_551 pw pk lw lk ik q_540))) 0 0 0 0 3 0 0 p0))) ∧ (¬ (gx 4) = 3 → (∀ q_512 : Nat, q_512 ∉ PL → ∀ pf_513 : Nat → va_E, pf_513 = va_up pf q_512 (.inr (1, [.int 0, .int 0, .int 0, .int 0])) → (wp_X2_signed E (fun r_517 : Int32 => (wp_X2_signed E (fun r_518 : Int32 => (wp_X0_init E (fun (ck_521 : Int32) (cx_522 : Int32) (cy_523 : Int32) (cp_524 : Int32) => (∀ pf_525 : Nat → va_E, pf_525 = va_up pf_513 q_512 (.inr (1, [.int ck_521, .int cx_522, .int cy_523, .int cp_524])) → (wp_X2_queueMotion E (fun (gx_528 : Nat → Int32) (lt_529 : Option Nat) (mo_530 : Int32) (ad_531 : Nat) (ln_532 : Int32) (PL_533 : List Nat) (pf_534 : Nat → va_E) (pw_535 : Nat → Int64) (pk_536 : Int32) (lw_537 : Nat → Int64) (lk_538 : Int32) (ik_539 : Nat → Int32) => post gx_528 lt_529 mo_530 ad_531 ln_532 PL_533 pf_534 pw_535 pk_536 lw_537 lk_538 ik_539) gx lt mo ad ln (PL ++ [q_512]) pf_525 pw pk lw lk ik q_512))) 0 0 0 0 (gx 4) r_517 r_518 0)) p0)) (gx 5)))))))
set_option maxHeartbeats 4000000 in
set_option maxRecDepth 100000 in
theorem c_X2_endCommand (E : EV) (l : Launch) (ax : Nat → Nat) (gx : Nat → Int32) (lt : Option Nat) (mo : Int32) (ad : Nat) (ln : Int32) (PL : List Nat) (pf : Nat → va_E) (pw : Nat → Int64) (pk : Int32) (lw : Nat → Int64) (lk : Int32) (ik : Nat → Int32) (p0 : Int32) (hz : Nat) (post : (Nat → Int32) → Option Nat → Int32 → Nat → Int32 → List Nat → (Nat → va_E) → (Nat → Int64) → Int32 → (Nat → Int64) → Int32 → (Nat → Int32) → Prop) (hw : wp_X2_endCommand E post gx lt mo ad ln PL pf pw pk lw lk ik p0) : Met l yX2_endCommand (Cond.code yX2_endCommand cX2_endCommand 2 none :: ALLW) ({ frames := 9, cells := 9, slots := 288, locals := 192 } : Room) (va_Pc [.ref (ax 0), .int p0] (preM E (wX E ax gx lt mo ad ln PL pf pw pk lw lk ik) hz)) (va_Qv (fun (u : (Nat → Int32) × Option Nat × Int32 × Nat × Int32 × List Nat × (Nat → va_E) × (Nat → Int64) × Int32 × (Nat → Int64) × Int32 × (Nat → Int32)) => post u.1 u.2.1 u.2.2.1 u.2.2.2.1 u.2.2.2.2.1 u.2.2.2.2.2.1 u.2.2.2.2.2.2.1 u.2.2.2.2.2.2.2.1 u.2.2.2.2.2.2.2.2.1 u.2.2.2.2.2.2.2.2.2.1 u.2.2.2.2.2.2.2.2.2.2.1 u.2.2.2.2.2.2.2.2.2.2.2) (fun (u : (Nat → Int32) × Option Nat × Int32 × Nat × Int32 × List Nat × (Nat → va_E) × (Nat → Int64) × Int32 × (Nat → Int64) × Int32 × (Nat → Int32)) t => va_P (eD E) vwCl (wX E ax u.1 u.2.1 u.2.2.1 u.2.2.2.1 u.2.2.2.2.1 u.2.2.2.2.2.1 u.2.2.2.2.2.2.1 u.2.2.2.2.2.2.2.1 u.2.2.2.2.2.2.2.2.1 u.2.2.2.2.2.2.2.2.2.1 u.2.2.2.2.2.2.2.2.2.2.1 u.2.2.2.2.2.2.2.2.2.2.2) t.heap ∧ va_D (va_A (wX E ax gx lt mo ad ln PL pf pw pk lw lk ik) hz) (wX E ax u.1 u.2.1 u.2.2.1 u.2.2.2.1 u.2.2.2.2.1 u.2.2.2.2.2.1 u.2.2.2.2.2.2.1 u.2.2.2.2.2.2.2.1 u.2.2.2.2.2.2.2.2.1 u.2.2.2.2.2.2.2.2.2.1 u.2.2.2.2.2.2.2.2.2.2.1 u.2.2.2.2.2.2.2.2.2.2.2)) (va_A (wX E ax gx lt mo ad ln PL pf pw pk lw lk ik) hz)) 9 288 (va_A (wX E ax gx lt mo ad ln PL pf pw pk lw lk ik) hz) := by
  refine Met.ofW (cc := cX2_endCommand) (maxL := 2) (ret := none) (by decide) rfl ?_
  intro p e s m args below meth c s₁ B hml hv
  obtain ⟨rfl, hpre⟩ := hv
  have hx := B.exec
  have hb := B.bytes
  have hr := B.returns
  have hlocks := B.notSynchronized
  have hts := atoms_spec (ws := (Cond.code yX2_endCommand cX2_endCommand 2 none :: ALLW)) B.pre
  have hta : ∀ w ∈ ALLW, w.before ([.ref (ax 0), .int p0] : List Value).toArray s = true := fun w h => hts w (List.mem_cons_of_mem _ h)
  have hown : s.vm.findClass RX2 = some m.cls := findClass_of_methodNamed B.named
  obtain ⟨hsz, hP, hKE, hD0, hZ⟩ := hpre
  subst hsz
  have hD := hD0.self (sz := s.heap.size)
  generalize hAe : va_A (wX E ax gx lt mo ad ln PL pf pw pk lw lk ik) s.heap.size = A at hD hZ ⊢
  have hA : ∀ q : Nat, s.heap.size ≤ q → A q := fun q h => by rw [← hAe]; exact Or.inr h
  have hS : va_S A s.heap s.heap [] := va_S.rf
  have hP : va_P (eD E) vwCl ([((ax 0), .inr (3, [.ref (ax 1), .ref (ax 2), .ref (ax 4), .ref (ax 6), .int (gx 4), .int (gx 5), .int (gx 6), .int (gx 7), va_rf lt, .int (gx 9), .int (gx 10), .int (gx 11), .int (gx 12), .int (gx 13), .int (gx 14), .int (gx 15), .int (gx 16), .int (gx 17), .int (gx 18)])), ((ax 1), .inr (0, [.int mo, .ref ad, .int ln])), ((ax 2), .inr (2, [.ref (ax 3), .int pk])), ((ax 3), .inl (eC E 1, 157, .inr (.inl pw))), ((ax 4), .inr (2, [.ref (ax 5), .int lk])), ((ax 5), .inl (eC E 1, 157, .inr (.inl lw))), ((ax 6), .inl (eC E 0, 3, .inl ik))] ++ va_pl PL pf) s.heap := hP
  have hD : va_D A ([((ax 0), .inr (3, [.ref (ax 1), .ref (ax 2), .ref (ax 4), .ref (ax 6), .int (gx 4), .int (gx 5), .int (gx 6), .int (gx 7), va_rf lt, .int (gx 9), .int (gx 10), .int (gx 11), .int (gx 12), .int (gx 13), .int (gx 14), .int (gx 15), .int (gx 16), .int (gx 17), .int (gx 18)])), ((ax 1), .inr (0, [.int mo, .ref ad, .int ln])), ((ax 2), .inr (2, [.ref (ax 3), .int pk])), ((ax 3), .inl (eC E 1, 157, .inr (.inl pw))), ((ax 4), .inr (2, [.ref (ax 5), .int lk])), ((ax 5), .inl (eC E 1, 157, .inr (.inl lw))), ((ax 6), .inl (eC E 0, 3, .inl ik))] ++ va_pl PL pf) := hD
  have hl := lv_entry ([.ref (ax 0), .int p0]) (n := 2) (Nat.le_of_ble_eq_true rfl)
  rw [lg_entry_eq]
  generalize (lg_sl ([.ref (ax 0), .int p0]) ++ List.replicate (2 - (lg_sl ([.ref (ax 0), .int p0])).length) Slot.unset).toArray = ls at hl ⊢
  have hl : lv_has ls 2 [(0, .ref (ax 0)), (1, .int p0)] := hl
  unfold wp_X2_endCommand at hw
  refine lv_aload_n hx hb dX2_endCommand_0 rfl (lv_at hl 0 rfl) ?_
  refine va_get (D := eD E) (ci := 3) (v := .int (gx 4)) (C := RX2) (T := TX2) (N := 19) hx hb hta lay_X2 hown hKE.1 hP 0 rfl rfl 4 (by decide) (hta _ tw_71) (fun _ h9 => h9) rfl dX2_endCommand_1 ?_
  refine lv_iconst (v := 4) hx hb dX2_endCommand_4 (by decide) ?_
  refine lv_icmp_ne (tgt := 16) hx hb dX2_endCommand_5 (by decide) (fun c_510 => ?_) (fun c_510 => ?_)
  · have hw := hw.2 c_510
    refine lv_aload_n hx hb dX2_endCommand_16 rfl (lv_at hl 0 rfl) ?_
    refine va_get (D := eD E) (ci := 3) (v := .int (gx 4)) (C := RX2) (T := TX2) (N := 19) hx hb hta lay_X2 hown hKE.1 hP 0 rfl rfl 4 (by decide) (hta _ tw_71) (fun _ h9 => h9) rfl dX2_endCommand_17 ?_
    refine lv_iconst (v := 3) hx hb dX2_endCommand_20 (by decide) ?_
    refine lv_icmp_ne (tgt := 43) hx hb dX2_endCommand_21 (by decide) (fun c_511 => ?_) (fun c_511 => ?_)
    · have hw := hw.2 c_511
      refine lv_aload_n hx hb dX2_endCommand_43 rfl (lv_at hl 0 rfl) ?_
      refine va_new (ci := 1) (fs := [.int 0, .int 0, .int 0, .int 0]) (C := RX0) (T := TX0) (N := 4) hx hb hta lay_X0 tyX0 tyX0_ok hown (hta _ tw_383) (hta _ tw_285) (hta _ tw_17) hKE.1 hP hD hS hA rfl (fun j hj => by rcases (show j = 0 ∨ j = 1 ∨ j = 2 ∨ j = 3 by omega) with rfl | rfl | rfl | rfl <;> rfl) (Nat.le_of_ble_eq_true rfl) (Nat.le_of_ble_eq_true rfl) dX2_endCommand_44 (fun q_512 H hP hD hS => ?_)
      refine W.widen (k := 1) (n := 4) (Nat.le_of_ble_eq_true rfl) (Nat.le_of_ble_eq_true rfl) ?_
      obtain ⟨hqk_514, hP, hD⟩ := pl_push hP hD
      obtain ⟨pf_513, epf_513⟩ : ∃ z : Nat → va_E, z = va_up pf q_512 (.inr (1, [.int 0, .int 0, .int 0, .int 0])) := ⟨_, rfl⟩
      have hw := hw q_512 hqk_514 pf_513 epf_513
      have hP : va_P (eD E) vwCl ([((ax 0), .inr (3, [.ref (ax 1), .ref (ax 2), .ref (ax 4), .ref (ax 6), .int (gx 4), .int (gx 5), .int (gx 6), .int (gx 7), va_rf lt, .int (gx 9), .int (gx 10), .int (gx 11), .int (gx 12), .int (gx 13), .int (gx 14), .int (gx 15), .int (gx 16), .int (gx 17), .int (gx 18)])), ((ax 1), .inr (0, [.int mo, .ref ad, .int ln])), ((ax 2), .inr (2, [.ref (ax 3), .int pk])), ((ax 3), .inl (eC E 1, 157, .inr (.inl pw))), ((ax 4), .inr (2, [.ref (ax 5), .int lk])), ((ax 5), .inl (eC E 1, 157, .inr (.inl lw))), ((ax 6), .inl (eC E 0, 3, .inl ik))] ++ va_pl (PL ++ [q_512]) pf_513) H := by rw [epf_513]; exact hP
      have hD : va_D A ([((ax 0), .inr (3, [.ref (ax 1), .ref (ax 2), .ref (ax 4), .ref (ax 6), .int (gx 4), .int (gx 5), .int (gx 6), .int (gx 7), va_rf lt, .int (gx 9), .int (gx 10), .int (gx 11), .int (gx 12), .int (gx 13), .int (gx 14), .int (gx 15), .int (gx 16), .int (gx 17), .int (gx 18)])), ((ax 1), .inr (0, [.int mo, .ref ad, .int ln])), ((ax 2), .inr (2, [.ref (ax 3), .int pk])), ((ax 3), .inl (eC E 1, 157, .inr (.inl pw))), ((ax 4), .inr (2, [.ref (ax 5), .int lk])), ((ax 5), .inl (eC E 1, 157, .inr (.inl lw))), ((ax 6), .inl (eC E 0, 3, .inl ik))] ++ va_pl (PL ++ [q_512]) pf_513) := by rw [epf_513]; exact hD
      have hf_515 : pf_513 q_512 = .inr (1, [.int 0, .int 0, .int 0, .int 0]) := by rw [epf_513]; exact va_up_self _ _ _
      have hy_516 : q_512 ∈ (PL ++ [q_512]) := List.mem_append_right _ List.mem_cons_self
      refine lv_dup hx hb dX2_endCommand_47 rfl ?_
      refine lv_aload_n hx hb dX2_endCommand_48 rfl (lv_at hl 0 rfl) ?_
      refine va_get (D := eD E) (ci := 3) (v := .int (gx 4)) (C := RX2) (T := TX2) (N := 19) hx hb hta lay_X2 hown hKE.1 hP 0 rfl rfl 4 (by decide) (hta _ tw_71) (fun _ h9 => h9) rfl dX2_endCommand_49 ?_
      refine lv_aload_n hx hb dX2_endCommand_52 rfl (lv_at hl 0 rfl) ?_
      refine va_get (D := eD E) (ci := 3) (v := .int (gx 5)) (C := RX2) (T := TX2) (N := 19) hx hb hta lay_X2 hown hKE.1 hP 0 rfl rfl 5 (by decide) (hta _ tw_72) (fun _ h9 => h9) rfl dX2_endCommand_53 ?_
      have hPc : va_P (eD E) vwCl [] H := va_P_nil
      refine vp_callSi (va_Run.run (va_runS (As := [.int (gx 5)]) (rest := [.int (gx 4), .ref q_512, .ref q_512, .ref (ax 0)]) ⟨hx, hb, hml, hown, hta⟩ (c_X2_signed E l (gx 5) _ hw) (pcS (n := 1) hta tw_407 tw_405 tw_1 tw_406 rfl rfl hd_X2_signed ⟨Nat.le_of_ble_eq_true rfl, Nat.le_of_ble_eq_true rfl⟩) ⟨fbR, fun U hU hW => ⟨rfl, preR.mk hPc hKE hU hW⟩⟩ rfl rfl hl.1 rfl (lv_room (Nat.le_of_ble_eq_true rfl)) dX2_endCommand_56 ⟨Nat.le_of_ble_eq_true rfl, Nat.le_of_ble_eq_true rfl⟩)) (fun r_517 hw => ?_)
      refine lv_iload_n hx hb dX2_endCommand_59 rfl (lv_at hl 1 rfl) ?_
      have hPc : va_P (eD E) vwCl [] H := va_P_nil
      refine vp_callSi (va_Run.run (va_runS (As := [.int p0]) (rest := [.int r_517, .int (gx 4), .ref q_512, .ref q_512, .ref (ax 0)]) ⟨hx, hb, hml, hown, hta⟩ (c_X2_signed E l p0 _ hw) (pcS (n := 1) hta tw_407 tw_405 tw_1 tw_406 rfl rfl hd_X2_signed ⟨Nat.le_of_ble_eq_true rfl, Nat.le_of_ble_eq_true rfl⟩) ⟨fbR, fun U hU hW => ⟨rfl, preR.mk hPc hKE hU hW⟩⟩ rfl rfl hl.1 rfl (lv_room (Nat.le_of_ble_eq_true rfl)) dX2_endCommand_60 ⟨Nat.le_of_ble_eq_true rfl, Nat.le_of_ble_eq_true rfl⟩)) (fun r_518 hw => ?_)
      refine lv_iconst (v := 0) hx hb dX2_endCommand_63 (by decide) ?_
      obtain ⟨i_519, hi_519⟩ := va_pl_get (X := [((ax 0), .inr (3, [.ref (ax 1), .ref (ax 2), .ref (ax 4), .ref (ax 6), .int (gx 4), .int (gx 5), .int (gx 6), .int (gx 7), va_rf lt, .int (gx 9), .int (gx 10), .int (gx 11), .int (gx 12), .int (gx 13), .int (gx 14), .int (gx 15), .int (gx 16), .int (gx 17), .int (gx 18)])), ((ax 1), .inr (0, [.int mo, .ref ad, .int ln])), ((ax 2), .inr (2, [.ref (ax 3), .int pk])), ((ax 3), .inl (eC E 1, 157, .inr (.inl pw))), ((ax 4), .inr (2, [.ref (ax 5), .int lk])), ((ax 5), .inl (eC E 1, 157, .inr (.inl lw))), ((ax 6), .inl (eC E 0, 3, .inl ik))]) (f := pf_513) hy_516
      rw [hf_515] at hi_519
      have hPc : va_P (eD E) vwCl [(q_512, .inr (1, [.int 0, .int 0, .int 0, .int 0]))] H := va_one hP hi_519
      have hDc : va_D A [(q_512, .inr (1, [.int 0, .int 0, .int 0, .int 0]))] := va_D_one hD hi_519
      have hFc : ∀ q, va_A [(q_512, .inr (1, [.int 0, .int 0, .int 0, .int 0]))] H.size q → A q := frP hD hS hA (va_in_one hi_519)
      refine va_callv (va_runIN (As := [.int (gx 4), .int r_517, .int r_518, .int 0]) (rest := [.ref q_512, .ref (ax 0)]) ⟨hx, hb, hml, hown, hta⟩ (c_X0_init E l q_512 0 0 0 0 (gx 4) r_517 r_518 0 H.size _ hw) (pcIN (n := 4) hta tw_386 (hKE.2.1 _ (List.mem_of_getElem? (i := 8) rfl)) tw_17 tw_385 rfl rfl rfl hd_X0_init ⟨Nat.le_of_ble_eq_true rfl, Nat.le_of_ble_eq_true rfl⟩) ⟨fbM, fun U hU hW => ⟨rfl, preM.mk hPc hKE hDc hZ hS hFc hU hW⟩⟩ rfl rfl hl.1 rfl (lv_room (Nat.le_of_ble_eq_true rfl)) dX2_endCommand_64 ⟨Nat.le_of_ble_eq_true rfl, Nat.le_of_ble_eq_true rfl⟩) hS (fun q _ h => hFc q h) hFc (fun u t H locs ht hvm hw hB hz1 hk1 hS => ?_)
      obtain ⟨ck_521, cx_522, cy_523, cp_524⟩ := u
      obtain ⟨hP1, hD1⟩ := hB
      rw [ht] at hP1
      try dsimp only at hw hP1 hD1
      obtain ⟨hP, hD⟩ := jnP hP hD hy_516 hf_515 hk1 hP1
      obtain ⟨pf_525, epf_525⟩ : ∃ z : Nat → va_E, z = va_up pf_513 q_512 (.inr (1, [.int ck_521, .int cx_522, .int cy_523, .int cp_524])) := ⟨_, rfl⟩
      have hw := hw pf_525 epf_525
      have hP : va_P (eD E) vwCl ([((ax 0), .inr (3, [.ref (ax 1), .ref (ax 2), .ref (ax 4), .ref (ax 6), .int (gx 4), .int (gx 5), .int (gx 6), .int (gx 7), va_rf lt, .int (gx 9), .int (gx 10), .int (gx 11), .int (gx 12), .int (gx 13), .int (gx 14), .int (gx 15), .int (gx 16), .int (gx 17), .int (gx 18)])), ((ax 1), .inr (0, [.int mo, .ref ad, .int ln])), ((ax 2), .inr (2, [.ref (ax 3), .int pk])), ((ax 3), .inl (eC E 1, 157, .inr (.inl pw))), ((ax 4), .inr (2, [.ref (ax 5), .int lk])), ((ax 5), .inl (eC E 1, 157, .inr (.inl lw))), ((ax 6), .inl (eC E 0, 3, .inl ik))] ++ va_pl (PL ++ [q_512]) pf_525) H := by rw [epf_525]; exact hP
      have hD : va_D A ([((ax 0), .inr (3, [.ref (ax 1), .ref (ax 2), .ref (ax 4), .ref (ax 6), .int (gx 4), .int (gx 5), .int (gx 6), .int (gx 7), va_rf lt, .int (gx 9), .int (gx 10), .int (gx 11), .int (gx 12), .int (gx 13), .int (gx 14), .int (gx 15), .int (gx 16), .int (gx 17), .int (gx 18)])), ((ax 1), .inr (0, [.int mo, .ref ad, .int ln])), ((ax 2), .inr (2, [.ref (ax 3), .int pk])), ((ax 3), .inl (eC E 1, 157, .inr (.inl pw))), ((ax 4), .inr (2, [.ref (ax 5), .int lk])), ((ax 5), .inl (eC E 1, 157, .inr (.inl lw))), ((ax 6), .inl (eC E 0, 3, .inl ik))] ++ va_pl (PL ++ [q_512]) pf_525) := by rw [epf_525]; exact hD
      have hf_526 : pf_525 q_512 = (.inr (1, [.int ck_521, .int cx_522, .int cy_523, .int cp_524])) := by rw [epf_525]; exact va_up_self _ _ _
      have hPc : va_P (eD E) vwCl (wX E ax gx lt mo ad ln (PL ++ [q_512]) pf_525 pw pk lw lk ik) H := hP
      have hDc : va_D A (wX E ax gx lt mo ad ln (PL ++ [q_512]) pf_525 pw pk lw lk ik) := hD
      have hFc : ∀ q, va_A (wX E ax gx lt mo ad ln (PL ++ [q_512]) pf_525 pw pk lw lk ik) H.size q → A q := frS hDc hS hA
      refine va_callv (va_runV (As := [.ref q_512]) (rest := []) ⟨hx, hb, hml, hown, hta⟩ (c_X2_queueMotion E l ax gx lt mo ad ln (PL ++ [q_512]) pf_525 pw pk lw lk ik q_512 H.size _ hw) (pcV (n := 1) hta tw_411 tw_408 tw_1 tw_410 tp_19 rfl rfl hd_X2_queueMotion ⟨Nat.le_of_ble_eq_true rfl, Nat.le_of_ble_eq_true rfl⟩) ⟨fbM, va_recv hKE.1 hP (ci := 3) (q0 := 0) rfl rfl, fun U hU hW => ⟨rfl, preM.mk hPc hKE hDc hZ hS hFc hU hW⟩⟩ rfl rfl hl.1 rfl (lv_room (Nat.le_of_ble_eq_true rfl)) dX2_endCommand_67 ⟨Nat.le_of_ble_eq_true rfl, Nat.le_of_ble_eq_true rfl⟩) hS (fun q _ h => hFc q h) hFc (fun u t H locs ht hvm hw hB hz1 hk1 hS => ?_)
      obtain ⟨gx_528, lt_529, mo_530, ad_531, ln_532, PL_533, pf_534, pw_535, pk_536, lw_537, lk_538, ik_539⟩ := u
      obtain ⟨hP1, hD1⟩ := hB
      rw [ht] at hP1
      try dsimp only at hw hP1 hD1
      have hP : va_P (eD E) vwCl ([((ax 0), .inr (3, [.ref (ax 1), .ref (ax 2), .ref (ax 4), .ref (ax 6), .int (gx_528 4), .int (gx_528 5), .int (gx_528 6), .int (gx_528 7), va_rf lt_529, .int (gx_528 9), .int (gx_528 10), .int (gx_528 11), .int (gx_528 12), .int (gx_528 13), .int (gx_528 14), .int (gx_528 15), .int (gx_528 16), .int (gx_528 17), .int (gx_528 18)])), ((ax 1), .inr (0, [.int mo_530, .ref ad_531, .int ln_532])), ((ax 2), .inr (2, [.ref (ax 3), .int pk_536])), ((ax 3), .inl (eC E 1, 157, .inr (.inl pw_535))), ((ax 4), .inr (2, [.ref (ax 5), .int lk_538])), ((ax 5), .inl (eC E 1, 157, .inr (.inl lw_537))), ((ax 6), .inl (eC E 0, 3, .inl ik_539))] ++ va_pl PL_533 pf_534) H := hP1
      have hD : va_D A ([((ax 0), .inr (3, [.ref (ax 1), .ref (ax 2), .ref (ax 4), .ref (ax 6), .int (gx_528 4), .int (gx_528 5), .int (gx_528 6), .int (gx_528 7), va_rf lt_529, .int (gx_528 9), .int (gx_528 10), .int (gx_528 11), .int (gx_528 12), .int (gx_528 13), .int (gx_528 14), .int (gx_528 15), .int (gx_528 16), .int (gx_528 17), .int (gx_528 18)])), ((ax 1), .inr (0, [.int mo_530, .ref ad_531, .int ln_532])), ((ax 2), .inr (2, [.ref (ax 3), .int pk_536])), ((ax 3), .inl (eC E 1, 157, .inr (.inl pw_535))), ((ax 4), .inr (2, [.ref (ax 5), .int lk_538])), ((ax 5), .inl (eC E 1, 157, .inr (.inl lw_537))), ((ax 6), .inl (eC E 0, 3, .inl ik_539))] ++ va_pl PL_533 pf_534) := hD1.weaken (fun _ q _ h => hFc q.1 h)
      have hP9 : va_P (eD E) vwCl (wX E ax gx_528 lt_529 mo_530 ad_531 ln_532 PL_533 pf_534 pw_535 pk_536 lw_537 lk_538 ik_539) H := hP
      have hD9 : va_D A (wX E ax gx_528 lt_529 mo_530 ad_531 ln_532 PL_533 pf_534 pw_535 pk_536 lw_537 lk_538 ik_539) := hD
      refine W.widen (k := 9) (n := 288) (Nat.le_of_ble_eq_true rfl) (Nat.le_of_ble_eq_true rfl) ?_
      exact W.vret hx hb hr (fun t ht hW => ⟨⟨(gx_528, lt_529, mo_530, ad_531, ln_532, PL_533, pf_534, pw_535, pk_536, lw_537, lk_538, ik_539), rfl, hw, ⟨by rw [ht]; exact hP9, hD9⟩⟩, hS.F ht⟩) hS.2.2 dX2_endCommand_70
    · have hw := hw.1 c_511
      refine lv_aload_n hx hb dX2_endCommand_24 rfl (lv_at hl 0 rfl) ?_
      refine va_new (ci := 1) (fs := [.int 0, .int 0, .int 0, .int 0]) (C := RX0) (T := TX0) (N := 4) hx hb hta lay_X0 tyX0 tyX0_ok hown (hta _ tw_383) (hta _ tw_285) (hta _ tw_17) hKE.1 hP hD hS hA rfl (fun j hj => by rcases (show j = 0 ∨ j = 1 ∨ j = 2 ∨ j = 3 by omega) with rfl | rfl | rfl | rfl <;> rfl) (Nat.le_of_ble_eq_true rfl) (Nat.le_of_ble_eq_true rfl) dX2_endCommand_25 (fun q_540 H hP hD hS => ?_)
      refine W.widen (k := 1) (n := 4) (Nat.le_of_ble_eq_true rfl) (Nat.le_of_ble_eq_true rfl) ?_
      obtain ⟨hqk_542, hP, hD⟩ := pl_push hP hD
      obtain ⟨pf_541, epf_541⟩ : ∃ z : Nat → va_E, z = va_up pf q_540 (.inr (1, [.int 0, .int 0, .int 0, .int 0])) := ⟨_, rfl⟩
      have hw := hw q_540 hqk_542 pf_541 epf_541
      have hP : va_P (eD E) vwCl ([((ax 0), .inr (3, [.ref (ax 1), .ref (ax 2), .ref (ax 4), .ref (ax 6), .int (gx 4), .int (gx 5), .int (gx 6), .int (gx 7), va_rf lt, .int (gx 9), .int (gx 10), .int (gx 11), .int (gx 12), .int (gx 13), .int (gx 14), .int (gx 15), .int (gx 16), .int (gx 17), .int (gx 18)])), ((ax 1), .inr (0, [.int mo, .ref ad, .int ln])), ((ax 2), .inr (2, [.ref (ax 3), .int pk])), ((ax 3), .inl (eC E 1, 157, .inr (.inl pw))), ((ax 4), .inr (2, [.ref (ax 5), .int lk])), ((ax 5), .inl (eC E 1, 157, .inr (.inl lw))), ((ax 6), .inl (eC E 0, 3, .inl ik))] ++ va_pl (PL ++ [q_540]) pf_541) H := by rw [epf_541]; exact hP
      have hD : va_D A ([((ax 0), .inr (3, [.ref (ax 1), .ref (ax 2), .ref (ax 4), .ref (ax 6), .int (gx 4), .int (gx 5), .int (gx 6), .int (gx 7), va_rf lt, .int (gx 9), .int (gx 10), .int (gx 11), .int (gx 12), .int (gx 13), .int (gx 14), .int (gx 15), .int (gx 16), .int (gx 17), .int (gx 18)])), ((ax 1), .inr (0, [.int mo, .ref ad, .int ln])), ((ax 2), .inr (2, [.ref (ax 3), .int pk])), ((ax 3), .inl (eC E 1, 157, .inr (.inl pw))), ((ax 4), .inr (2, [.ref (ax 5), .int lk])), ((ax 5), .inl (eC E 1, 157, .inr (.inl lw))), ((ax 6), .inl (eC E 0, 3, .inl ik))] ++ va_pl (PL ++ [q_540]) pf_541) := by rw [epf_541]; exact hD
      have hf_543 : pf_541 q_540 = .inr (1, [.int 0, .int 0, .int 0, .int 0]) := by rw [epf_541]; exact va_up_self _ _ _
      have hy_544 : q_540 ∈ (PL ++ [q_540]) := List.mem_append_right _ List.mem_cons_self
      refine lv_dup hx hb dX2_endCommand_28 rfl ?_
      refine lv_iconst (v := 3) hx hb dX2_endCommand_29 (by decide) ?_
      refine lv_iconst (v := 0) hx hb dX2_endCommand_30 (by decide) ?_
      refine lv_iconst (v := 0) hx hb dX2_endCommand_31 (by decide) ?_
      refine lv_iload_n hx hb dX2_endCommand_32 rfl (lv_at hl 1 rfl) ?_
      obtain ⟨i_545, hi_545⟩ := va_pl_get (X := [((ax 0), .inr (3, [.ref (ax 1), .ref (ax 2), .ref (ax 4), .ref (ax 6), .int (gx 4), .int (gx 5), .int (gx 6), .int (gx 7), va_rf lt, .int (gx 9), .int (gx 10), .int (gx 11), .int (gx 12), .int (gx 13), .int (gx 14), .int (gx 15), .int (gx 16), .int (gx 17), .int (gx 18)])), ((ax 1), .inr (0, [.int mo, .ref ad, .int ln])), ((ax 2), .inr (2, [.ref (ax 3), .int pk])), ((ax 3), .inl (eC E 1, 157, .inr (.inl pw))), ((ax 4), .inr (2, [.ref (ax 5), .int lk])), ((ax 5), .inl (eC E 1, 157, .inr (.inl lw))), ((ax 6), .inl (eC E 0, 3, .inl ik))]) (f := pf_541) hy_544
      rw [hf_543] at hi_545
      have hPc : va_P (eD E) vwCl [(q_540, .inr (1, [.int 0, .int 0, .int 0, .int 0]))] H := va_one hP hi_545
      have hDc : va_D A [(q_540, .inr (1, [.int 0, .int 0, .int 0, .int 0]))] := va_D_one hD hi_545
      have hFc : ∀ q, va_A [(q_540, .inr (1, [.int 0, .int 0, .int 0, .int 0]))] H.size q → A q := frP hD hS hA (va_in_one hi_545)
      refine va_callv (va_runIN (As := [.int 3, .int 0, .int 0, .int p0]) (rest := [.ref q_540, .ref (ax 0)]) ⟨hx, hb, hml, hown, hta⟩ (c_X0_init E l q_540 0 0 0 0 3 0 0 p0 H.size _ hw) (pcIN (n := 4) hta tw_386 (hKE.2.1 _ (List.mem_of_getElem? (i := 8) rfl)) tw_17 tw_385 rfl rfl rfl hd_X0_init ⟨Nat.le_of_ble_eq_true rfl, Nat.le_of_ble_eq_true rfl⟩) ⟨fbM, fun U hU hW => ⟨rfl, preM.mk hPc hKE hDc hZ hS hFc hU hW⟩⟩ rfl rfl hl.1 rfl (lv_room (Nat.le_of_ble_eq_true rfl)) dX2_endCommand_33 ⟨Nat.le_of_ble_eq_true rfl, Nat.le_of_ble_eq_true rfl⟩) hS (fun q _ h => hFc q h) hFc (fun u t H locs ht hvm hw hB hz1 hk1 hS => ?_)
      obtain ⟨ck_547, cx_548, cy_549, cp_550⟩ := u
      obtain ⟨hP1, hD1⟩ := hB
      rw [ht] at hP1
      try dsimp only at hw hP1 hD1
      obtain ⟨hP, hD⟩ := jnP hP hD hy_544 hf_543 hk1 hP1
      obtain ⟨pf_551, epf_551⟩ : ∃ z : Nat → va_E, z = va_up pf_541 q_540 (.inr (1, [.int ck_547, .int cx_548, .int cy_549, .int cp_550])) := ⟨_, rfl⟩
      have hw := hw pf_551 epf_551
      have hP : va_P (eD E) vwCl ([((ax 0), .inr (3, [.ref (ax 1), .ref (ax 2), .ref (ax 4), .ref (ax 6), .int (gx 4), .int (gx 5), .int (gx 6), .int (gx 7), va_rf lt, .int (gx 9), .int (gx 10), .int (gx 11), .int (gx 12), .int (gx 13), .int (gx 14), .int (gx 15), .int (gx 16), .int (gx 17), .int (gx 18)])), ((ax 1), .inr (0, [.int mo, .ref ad, .int ln])), ((ax 2), .inr (2, [.ref (ax 3), .int pk])), ((ax 3), .inl (eC E 1, 157, .inr (.inl pw))), ((ax 4), .inr (2, [.ref (ax 5), .int lk])), ((ax 5), .inl (eC E 1, 157, .inr (.inl lw))), ((ax 6), .inl (eC E 0, 3, .inl ik))] ++ va_pl (PL ++ [q_540]) pf_551) H := by rw [epf_551]; exact hP
      have hD : va_D A ([((ax 0), .inr (3, [.ref (ax 1), .ref (ax 2), .ref (ax 4), .ref (ax 6), .int (gx 4), .int (gx 5), .int (gx 6), .int (gx 7), va_rf lt, .int (gx 9), .int (gx 10), .int (gx 11), .int (gx 12), .int (gx 13), .int (gx 14), .int (gx 15), .int (gx 16), .int (gx 17), .int (gx 18)])), ((ax 1), .inr (0, [.int mo, .ref ad, .int ln])), ((ax 2), .inr (2, [.ref (ax 3), .int pk])), ((ax 3), .inl (eC E 1, 157, .inr (.inl pw))), ((ax 4), .inr (2, [.ref (ax 5), .int lk])), ((ax 5), .inl (eC E 1, 157, .inr (.inl lw))), ((ax 6), .inl (eC E 0, 3, .inl ik))] ++ va_pl (PL ++ [q_540]) pf_551) := by rw [epf_551]; exact hD
      have hf_552 : pf_551 q_540 = (.inr (1, [.int ck_547, .int cx_548, .int cy_549, .int cp_550])) := by rw [epf_551]; exact va_up_self _ _ _
      have hPc : va_P (eD E) vwCl (wX E ax gx lt mo ad ln (PL ++ [q_540]) pf_551 pw pk lw lk ik) H := hP
      have hDc : va_D A (wX E ax gx lt mo ad ln (PL ++ [q_540]) pf_551 pw pk lw lk ik) := hD
      have hFc : ∀ q, va_A (wX E ax gx lt mo ad ln (PL ++ [q_540]) pf_551 pw pk lw lk ik) H.size q → A q := frS hDc hS hA
      refine va_calli (va_runV (As := [.ref q_540]) (rest := []) ⟨hx, hb, hml, hown, hta⟩ (c_X2_queueIfRight E l ax gx lt mo ad ln (PL ++ [q_540]) pf_551 pw pk lw lk ik q_540 H.size _ hw) (pcV (n := 1) hta tw_277 tw_274 tw_1 tw_276 tp_6 rfl rfl hd_X2_queueIfRight ⟨Nat.le_of_ble_eq_true rfl, Nat.le_of_ble_eq_true rfl⟩) ⟨fbM, va_recv hKE.1 hP (ci := 3) (q0 := 0) rfl rfl, fun U hU hW => ⟨rfl, preM.mk hPc hKE hDc hZ hS hFc hU hW⟩⟩ rfl rfl hl.1 rfl (lv_room (Nat.le_of_ble_eq_true rfl)) dX2_endCommand_36 ⟨Nat.le_of_ble_eq_true rfl, Nat.le_of_ble_eq_true rfl⟩) hS (fun q _ h => hFc q h) hFc (fun r_553 u t H locs ht hvm hw hB hz1 hk1 hS => ?_)
      obtain ⟨gx_554, lt_555, mo_556, ad_557, ln_558, PL_559, pf_560, pw_561, pk_562, lw_563, lk_564, ik_565⟩ := u
      obtain ⟨hP1, hD1⟩ := hB
      rw [ht] at hP1
      try dsimp only at hw hP1 hD1
      have hP : va_P (eD E) vwCl ([((ax 0), .inr (3, [.ref (ax 1), .ref (ax 2), .ref (ax 4), .ref (ax 6), .int (gx_554 4), .int (gx_554 5), .int (gx_554 6), .int (gx_554 7), va_rf lt_555, .int (gx_554 9), .int (gx_554 10), .int (gx_554 11), .int (gx_554 12), .int (gx_554 13), .int (gx_554 14), .int (gx_554 15), .int (gx_554 16), .int (gx_554 17), .int (gx_554 18)])), ((ax 1), .inr (0, [.int mo_556, .ref ad_557, .int ln_558])), ((ax 2), .inr (2, [.ref (ax 3), .int pk_562])), ((ax 3), .inl (eC E 1, 157, .inr (.inl pw_561))), ((ax 4), .inr (2, [.ref (ax 5), .int lk_564])), ((ax 5), .inl (eC E 1, 157, .inr (.inl lw_563))), ((ax 6), .inl (eC E 0, 3, .inl ik_565))] ++ va_pl PL_559 pf_560) H := hP1
      have hD : va_D A ([((ax 0), .inr (3, [.ref (ax 1), .ref (ax 2), .ref (ax 4), .ref (ax 6), .int (gx_554 4), .int (gx_554 5), .int (gx_554 6), .int (gx_554 7), va_rf lt_555, .int (gx_554 9), .int (gx_554 10), .int (gx_554 11), .int (gx_554 12), .int (gx_554 13), .int (gx_554 14), .int (gx_554 15), .int (gx_554 16), .int (gx_554 17), .int (gx_554 18)])), ((ax 1), .inr (0, [.int mo_556, .ref ad_557, .int ln_558])), ((ax 2), .inr (2, [.ref (ax 3), .int pk_562])), ((ax 3), .inl (eC E 1, 157, .inr (.inl pw_561))), ((ax 4), .inr (2, [.ref (ax 5), .int lk_564])), ((ax 5), .inl (eC E 1, 157, .inr (.inl lw_563))), ((ax 6), .inl (eC E 0, 3, .inl ik_565))] ++ va_pl PL_559 pf_560) := hD1.weaken (fun _ q _ h => hFc q.1 h)
      refine lv_pop hx hb dX2_endCommand_39 rfl ?_
      refine lv_goto (tgt := 70) hx hb dX2_endCommand_40 (by decide) ?_
      have hP9 : va_P (eD E) vwCl (wX E ax gx_554 lt_555 mo_556 ad_557 ln_558 PL_559 pf_560 pw_561 pk_562 lw_563 lk_564 ik_565) H := hP
      have hD9 : va_D A (wX E ax gx_554 lt_555 mo_556 ad_557 ln_558 PL_559 pf_560 pw_561 pk_562 lw_563 lk_564 ik_565) := hD
      refine W.widen (k := 9) (n := 288) (Nat.le_of_ble_eq_true rfl) (Nat.le_of_ble_eq_true rfl) ?_
      exact W.vret hx hb hr (fun t ht hW => ⟨⟨(gx_554, lt_555, mo_556, ad_557, ln_558, PL_559, pf_560, pw_561, pk_562, lw_563, lk_564, ik_565), rfl, hw, ⟨by rw [ht]; exact hP9, hD9⟩⟩, hS.F ht⟩) hS.2.2 dX2_endCommand_70
  · have hw := hw.1 c_510
    refine lv_aload_n hx hb dX2_endCommand_8 rfl (lv_at hl 0 rfl) ?_
    refine lv_iload_n hx hb dX2_endCommand_9 rfl (lv_at hl 1 rfl) ?_
    have hPc : va_P (eD E) vwCl (wX E ax gx lt mo ad ln PL pf pw pk lw lk ik) s.heap := hP
    have hDc : va_D A (wX E ax gx lt mo ad ln PL pf pw pk lw lk ik) := hD
    have hFc : ∀ q, va_A (wX E ax gx lt mo ad ln PL pf pw pk lw lk ik) s.heap.size q → A q := frS hDc hS hA
    refine va_callv (va_runV (As := [.int p0]) (rest := []) ⟨hx, hb, hml, hown, hta⟩ (c_X2_repeatLatest E l ax gx lt mo ad ln PL pf pw pk lw lk ik p0 s.heap.size _ hw) (pcV (n := 1) hta tw_273 tw_270 tw_1 tw_272 tp_5 rfl rfl hd_X2_repeatLatest ⟨Nat.le_of_ble_eq_true rfl, Nat.le_of_ble_eq_true rfl⟩) ⟨fbM, va_recv hKE.1 hP (ci := 3) (q0 := 0) rfl rfl, fun U hU hW => ⟨rfl, preM.mk hPc hKE hDc hZ hS hFc hU hW⟩⟩ rfl rfl hl.1 rfl (lv_room (Nat.le_of_ble_eq_true rfl)) dX2_endCommand_10 ⟨Nat.le_of_ble_eq_true rfl, Nat.le_of_ble_eq_true rfl⟩) hS (fun q _ h => hFc q h) hFc (fun u t H locs ht hvm hw hB hz1 hk1 hS => ?_)
    obtain ⟨gx_567, lt_568, mo_569, ad_570, ln_571, PL_572, pf_573, pw_574, pk_575, lw_576, lk_577, ik_578⟩ := u
    obtain ⟨hP1, hD1⟩ := hB
    rw [ht] at hP1
    try dsimp only at hw hP1 hD1
    have hP : va_P (eD E) vwCl ([((ax 0), .inr (3, [.ref (ax 1), .ref (ax 2), .ref (ax 4), .ref (ax 6), .int (gx_567 4), .int (gx_567 5), .int (gx_567 6), .int (gx_567 7), va_rf lt_568, .int (gx_567 9), .int (gx_567 10), .int (gx_567 11), .int (gx_567 12), .int (gx_567 13), .int (gx_567 14), .int (gx_567 15), .int (gx_567 16), .int (gx_567 17), .int (gx_567 18)])), ((ax 1), .inr (0, [.int mo_569, .ref ad_570, .int ln_571])), ((ax 2), .inr (2, [.ref (ax 3), .int pk_575])), ((ax 3), .inl (eC E 1, 157, .inr (.inl pw_574))), ((ax 4), .inr (2, [.ref (ax 5), .int lk_577])), ((ax 5), .inl (eC E 1, 157, .inr (.inl lw_576))), ((ax 6), .inl (eC E 0, 3, .inl ik_578))] ++ va_pl PL_572 pf_573) H := hP1
    have hD : va_D A ([((ax 0), .inr (3, [.ref (ax 1), .ref (ax 2), .ref (ax 4), .ref (ax 6), .int (gx_567 4), .int (gx_567 5), .int (gx_567 6), .int (gx_567 7), va_rf lt_568, .int (gx_567 9), .int (gx_567 10), .int (gx_567 11), .int (gx_567 12), .int (gx_567 13), .int (gx_567 14), .int (gx_567 15), .int (gx_567 16), .int (gx_567 17), .int (gx_567 18)])), ((ax 1), .inr (0, [.int mo_569, .ref ad_570, .int ln_571])), ((ax 2), .inr (2, [.ref (ax 3), .int pk_575])), ((ax 3), .inl (eC E 1, 157, .inr (.inl pw_574))), ((ax 4), .inr (2, [.ref (ax 5), .int lk_577])), ((ax 5), .inl (eC E 1, 157, .inr (.inl lw_576))), ((ax 6), .inl (eC E 0, 3, .inl ik_578))] ++ va_pl PL_572 pf_573) := hD1.weaken (fun _ q _ h => hFc q.1 h)
    refine lv_goto (tgt := 70) hx hb dX2_endCommand_13 (by decide) ?_
    have hP9 : va_P (eD E) vwCl (wX E ax gx_567 lt_568 mo_569 ad_570 ln_571 PL_572 pf_573 pw_574 pk_575 lw_576 lk_577 ik_578) H := hP
    have hD9 : va_D A (wX E ax gx_567 lt_568 mo_569 ad_570 ln_571 PL_572 pf_573 pw_574 pk_575 lw_576 lk_577 ik_578) := hD
    exact W.vret hx hb hr (fun t ht hW => ⟨⟨(gx_567, lt_568, mo_569, ad_570, ln_571, PL_572, pf_573, pw_574, pk_575, lw_576, lk_577, ik_578), rfl, hw, ⟨by rw [ht]; exact hP9, hD9⟩⟩, hS.F ht⟩) hS.2.2 dX2_endCommand_70
def wp_X2_takeByte (E : EV) (post : (Nat → Int32) → Option Nat → Int32 → Nat → Int32 → List Nat → (Nat → va_E) → (Nat → Int64) → Int32 → (Nat → Int64) → Int32 → (Nat → Int32) → Prop) (gx : Nat → Int32) (lt : Option Nat) (mo : Int32) (ad : Nat) (ln : Int32) (PL : List Nat) (pf : Nat → va_E) (pw : Nat → Int64) (pk : Int32) (lw : Nat → Int64) (lk : Int32) (ik : Nat → Int32) (p0 : Int32) : Prop := (((gx 6) = 0 → (wp_X2_beginCommand E (fun (gx_610 : Nat → Int32) (lt_611 : Option Nat) (mo_612 : Int32) (ad_613 : Nat) (ln_614 : Int32) (PL_615 : List Nat) (pf_616 : Nat → va_E) (pw_617 : Nat → Int64) (pk_618 : Int32) (lw_619 : Nat → Int64) (lk_620 : Int32) (ik_621 : Nat → Int32) => post gx_610 lt_611 mo_612 ad_613 ln_614 PL_615 pf_616 pw_617 pk_618 lw_619 lk_620 ik_621) gx lt mo ad ln PL pf pw pk lw lk ik p0)) ∧ (¬ (gx 6) = 0 → (((gx 6) = 1 → (((gx 4) = 1 → post (upd (upd gx 5 p0) 6 2) lt mo ad ln PL pf pw pk lw lk ik) ∧ (¬ (gx 4) = 1 → (((gx 4) = 2 → post (upd (upd gx 5 p0) 6 2) lt mo ad ln PL pf pw pk lw lk ik) ∧ (¬ (gx 4) = 2 → (wp_X2_endCommand E (fun (gx_597 : Nat → Int32) (lt_598 : Option Nat) (mo_599 : Int32) (ad_600 : Nat) (ln_601 : Int32) (PL_602 : List Nat) (pf_603 : Nat → va_E) (pw_604 : Nat → Int64) (pk_605 : Int32) (lw_606 : Nat → Int64) (lk_607 : Int32) (ik_608 : Nat → Int32) => post gx_597 lt_598 mo_599 ad_600 ln_601 PL_602 pf_603 pw_604 pk_605 lw_606 lk_607 ik_608) (upd gx 6 0) lt mo ad ln PL pf pw pk lw lk ik p0)))))) ∧ (¬ (gx 6) = 1 → (wp_X2_endCommand E (fun (gx_582 : Nat → Int32) (lt_583 : Option Nat) (mo_584 : Int32) (ad_585 : Nat) (ln_586 : Int32) (PL_587 : List Nat) (pf_588 : Nat → va_E) (pw_589 : Nat → Int64) (pk_590 : Int32) (lw_591 : Nat → Int64) (lk_592 : Int32) (ik_593 : Nat → Int32) => post gx_582 lt_583 mo_584 ad_585 ln_586 PL_587 pf_588 pw_589 pk_590 lw_591 lk_592 ik_593) (upd gx 6 0) lt mo ad ln PL pf pw pk lw lk ik p0)))))
set_option maxHeartbeats 4000000 in
set_option maxRecDepth 100000 in
theorem c_X2_takeByte (E : EV) (l : Launch) (ax : Nat → Nat) (gx : Nat → Int32) (lt : Option Nat) (mo : Int32) (ad : Nat) (ln : Int32) (PL : List Nat) (pf : Nat → va_E) (pw : Nat → Int64) (pk : Int32) (lw : Nat → Int64) (lk : Int32) (ik : Nat → Int32) (p0 : Int32) (hz : Nat) (post : (Nat → Int32) → Option Nat → Int32 → Nat → Int32 → List Nat → (Nat → va_E) → (Nat → Int64) → Int32 → (Nat → Int64) → Int32 → (Nat → Int32) → Prop) (hw : wp_X2_takeByte E post gx lt mo ad ln PL pf pw pk lw lk ik p0) : Met l yX2_takeByte (Cond.code yX2_takeByte cX2_takeByte 2 none :: ALLW) ({ frames := 10, cells := 9, slots := 288, locals := 213 } : Room) (va_Pc [.ref (ax 0), .int p0] (preM E (wX E ax gx lt mo ad ln PL pf pw pk lw lk ik) hz)) (va_Qv (fun (u : (Nat → Int32) × Option Nat × Int32 × Nat × Int32 × List Nat × (Nat → va_E) × (Nat → Int64) × Int32 × (Nat → Int64) × Int32 × (Nat → Int32)) => post u.1 u.2.1 u.2.2.1 u.2.2.2.1 u.2.2.2.2.1 u.2.2.2.2.2.1 u.2.2.2.2.2.2.1 u.2.2.2.2.2.2.2.1 u.2.2.2.2.2.2.2.2.1 u.2.2.2.2.2.2.2.2.2.1 u.2.2.2.2.2.2.2.2.2.2.1 u.2.2.2.2.2.2.2.2.2.2.2) (fun (u : (Nat → Int32) × Option Nat × Int32 × Nat × Int32 × List Nat × (Nat → va_E) × (Nat → Int64) × Int32 × (Nat → Int64) × Int32 × (Nat → Int32)) t => va_P (eD E) vwCl (wX E ax u.1 u.2.1 u.2.2.1 u.2.2.2.1 u.2.2.2.2.1 u.2.2.2.2.2.1 u.2.2.2.2.2.2.1 u.2.2.2.2.2.2.2.1 u.2.2.2.2.2.2.2.2.1 u.2.2.2.2.2.2.2.2.2.1 u.2.2.2.2.2.2.2.2.2.2.1 u.2.2.2.2.2.2.2.2.2.2.2) t.heap ∧ va_D (va_A (wX E ax gx lt mo ad ln PL pf pw pk lw lk ik) hz) (wX E ax u.1 u.2.1 u.2.2.1 u.2.2.2.1 u.2.2.2.2.1 u.2.2.2.2.2.1 u.2.2.2.2.2.2.1 u.2.2.2.2.2.2.2.1 u.2.2.2.2.2.2.2.2.1 u.2.2.2.2.2.2.2.2.2.1 u.2.2.2.2.2.2.2.2.2.2.1 u.2.2.2.2.2.2.2.2.2.2.2)) (va_A (wX E ax gx lt mo ad ln PL pf pw pk lw lk ik) hz)) 9 288 (va_A (wX E ax gx lt mo ad ln PL pf pw pk lw lk ik) hz) := by
  refine Met.ofW (cc := cX2_takeByte) (maxL := 2) (ret := none) (by decide) rfl ?_
  intro p e s m args below meth c s₁ B hml hv
  obtain ⟨rfl, hpre⟩ := hv
  have hx := B.exec
  have hb := B.bytes
  have hr := B.returns
  have hlocks := B.notSynchronized
  have hts := atoms_spec (ws := (Cond.code yX2_takeByte cX2_takeByte 2 none :: ALLW)) B.pre
  have hta : ∀ w ∈ ALLW, w.before ([.ref (ax 0), .int p0] : List Value).toArray s = true := fun w h => hts w (List.mem_cons_of_mem _ h)
  have hown : s.vm.findClass RX2 = some m.cls := findClass_of_methodNamed B.named
  obtain ⟨hsz, hP, hKE, hD0, hZ⟩ := hpre
  subst hsz
  have hD := hD0.self (sz := s.heap.size)
  generalize hAe : va_A (wX E ax gx lt mo ad ln PL pf pw pk lw lk ik) s.heap.size = A at hD hZ ⊢
  have hA : ∀ q : Nat, s.heap.size ≤ q → A q := fun q h => by rw [← hAe]; exact Or.inr h
  have hS : va_S A s.heap s.heap [] := va_S.rf
  have hP : va_P (eD E) vwCl ([((ax 0), .inr (3, [.ref (ax 1), .ref (ax 2), .ref (ax 4), .ref (ax 6), .int (gx 4), .int (gx 5), .int (gx 6), .int (gx 7), va_rf lt, .int (gx 9), .int (gx 10), .int (gx 11), .int (gx 12), .int (gx 13), .int (gx 14), .int (gx 15), .int (gx 16), .int (gx 17), .int (gx 18)])), ((ax 1), .inr (0, [.int mo, .ref ad, .int ln])), ((ax 2), .inr (2, [.ref (ax 3), .int pk])), ((ax 3), .inl (eC E 1, 157, .inr (.inl pw))), ((ax 4), .inr (2, [.ref (ax 5), .int lk])), ((ax 5), .inl (eC E 1, 157, .inr (.inl lw))), ((ax 6), .inl (eC E 0, 3, .inl ik))] ++ va_pl PL pf) s.heap := hP
  have hD : va_D A ([((ax 0), .inr (3, [.ref (ax 1), .ref (ax 2), .ref (ax 4), .ref (ax 6), .int (gx 4), .int (gx 5), .int (gx 6), .int (gx 7), va_rf lt, .int (gx 9), .int (gx 10), .int (gx 11), .int (gx 12), .int (gx 13), .int (gx 14), .int (gx 15), .int (gx 16), .int (gx 17), .int (gx 18)])), ((ax 1), .inr (0, [.int mo, .ref ad, .int ln])), ((ax 2), .inr (2, [.ref (ax 3), .int pk])), ((ax 3), .inl (eC E 1, 157, .inr (.inl pw))), ((ax 4), .inr (2, [.ref (ax 5), .int lk])), ((ax 5), .inl (eC E 1, 157, .inr (.inl lw))), ((ax 6), .inl (eC E 0, 3, .inl ik))] ++ va_pl PL pf) := hD
  have hl := lv_entry ([.ref (ax 0), .int p0]) (n := 2) (Nat.le_of_ble_eq_true rfl)
  rw [lg_entry_eq]
  generalize (lg_sl ([.ref (ax 0), .int p0]) ++ List.replicate (2 - (lg_sl ([.ref (ax 0), .int p0])).length) Slot.unset).toArray = ls at hl ⊢
  have hl : lv_has ls 2 [(0, .ref (ax 0)), (1, .int p0)] := hl
  unfold wp_X2_takeByte at hw
  refine lv_aload_n hx hb dX2_takeByte_0 rfl (lv_at hl 0 rfl) ?_
  refine va_get (D := eD E) (ci := 3) (v := .int (gx 6)) (C := RX2) (T := TX2) (N := 19) hx hb hta lay_X2 hown hKE.1 hP 0 rfl rfl 6 (by decide) (hta _ tw_73) (fun _ h9 => h9) rfl dX2_takeByte_1 ?_
  refine lv_if_ne (tgt := 15) hx hb dX2_takeByte_4 (by decide) (fun c_579 => ?_) (fun c_579 => ?_)
  · have hw := hw.2 c_579
    refine lv_aload_n hx hb dX2_takeByte_15 rfl (lv_at hl 0 rfl) ?_
    refine va_get (D := eD E) (ci := 3) (v := .int (gx 6)) (C := RX2) (T := TX2) (N := 19) hx hb hta lay_X2 hown hKE.1 hP 0 rfl rfl 6 (by decide) (hta _ tw_73) (fun _ h9 => h9) rfl dX2_takeByte_16 ?_
    refine lv_iconst (v := 1) hx hb dX2_takeByte_19 (by decide) ?_
    refine lv_icmp_ne (tgt := 52) hx hb dX2_takeByte_20 (by decide) (fun c_580 => ?_) (fun c_580 => ?_)
    · have hw := hw.2 c_580
      refine lv_aload_n hx hb dX2_takeByte_52 rfl (lv_at hl 0 rfl) ?_
      refine lv_iconst (v := 0) hx hb dX2_takeByte_53 (by decide) ?_
      refine va_put (D := eD E) (ci := 3) (v := .int 0) (ty := .int) (C := RX2) (T := TX2) (N := 19) hx hb hta lay_X2 tyX2 tyX2_ok nmX2 hown hKE.1 hP hD hS 0 rfl rfl 6 (by decide) (hta _ tw_73) (fun _ h9 => h9) rfl (by decide +kernel) rfl rfl (Nat.le_of_ble_eq_true rfl) dX2_takeByte_54 (fun H locs hP hD hS => ?_)
      have hP : va_P (eD E) vwCl ([((ax 0), .inr (3, [.ref (ax 1), .ref (ax 2), .ref (ax 4), .ref (ax 6), .int (gx 4), .int (gx 5), .int 0, .int (gx 7), va_rf lt, .int (gx 9), .int (gx 10), .int (gx 11), .int (gx 12), .int (gx 13), .int (gx 14), .int (gx 15), .int (gx 16), .int (gx 17), .int (gx 18)])), ((ax 1), .inr (0, [.int mo, .ref ad, .int ln])), ((ax 2), .inr (2, [.ref (ax 3), .int pk])), ((ax 3), .inl (eC E 1, 157, .inr (.inl pw))), ((ax 4), .inr (2, [.ref (ax 5), .int lk])), ((ax 5), .inl (eC E 1, 157, .inr (.inl lw))), ((ax 6), .inl (eC E 0, 3, .inl ik))] ++ va_pl PL pf) H := hP
      have hD : va_D A ([((ax 0), .inr (3, [.ref (ax 1), .ref (ax 2), .ref (ax 4), .ref (ax 6), .int (gx 4), .int (gx 5), .int 0, .int (gx 7), va_rf lt, .int (gx 9), .int (gx 10), .int (gx 11), .int (gx 12), .int (gx 13), .int (gx 14), .int (gx 15), .int (gx 16), .int (gx 17), .int (gx 18)])), ((ax 1), .inr (0, [.int mo, .ref ad, .int ln])), ((ax 2), .inr (2, [.ref (ax 3), .int pk])), ((ax 3), .inl (eC E 1, 157, .inr (.inl pw))), ((ax 4), .inr (2, [.ref (ax 5), .int lk])), ((ax 5), .inl (eC E 1, 157, .inr (.inl lw))), ((ax 6), .inl (eC E 0, 3, .inl ik))] ++ va_pl PL pf) := hD
      refine lv_aload_n hx hb dX2_takeByte_57 rfl (lv_at hl 0 rfl) ?_
      refine lv_iload_n hx hb dX2_takeByte_58 rfl (lv_at hl 1 rfl) ?_
      have hPc : va_P (eD E) vwCl (wX E ax (upd gx 6 0) lt mo ad ln PL pf pw pk lw lk ik) H := hP
      have hDc : va_D A (wX E ax (upd gx 6 0) lt mo ad ln PL pf pw pk lw lk ik) := hD
      have hFc : ∀ q, va_A (wX E ax (upd gx 6 0) lt mo ad ln PL pf pw pk lw lk ik) H.size q → A q := frS hDc hS hA
      refine va_callv (va_runV (As := [.int p0]) (rest := []) ⟨hx, hb, hml, hown, hta⟩ (c_X2_endCommand E l ax (upd gx 6 0) lt mo ad ln PL pf pw pk lw lk ik p0 H.size _ hw) (pcV (n := 1) hta tw_269 tw_266 tw_1 tw_268 tp_4 rfl rfl hd_X2_endCommand ⟨Nat.le_of_ble_eq_true rfl, Nat.le_of_ble_eq_true rfl⟩) ⟨fbM, va_recv hKE.1 hP (ci := 3) (q0 := 0) rfl rfl, fun U hU hW => ⟨rfl, preM.mk hPc hKE hDc hZ hS hFc hU hW⟩⟩ rfl rfl hl.1 rfl (lv_room (Nat.le_of_ble_eq_true rfl)) dX2_takeByte_59 ⟨Nat.le_of_ble_eq_true rfl, Nat.le_of_ble_eq_true rfl⟩) hS (fun q _ h => hFc q h) hFc (fun u t H locs ht hvm hw hB hz1 hk1 hS => ?_)
      obtain ⟨gx_582, lt_583, mo_584, ad_585, ln_586, PL_587, pf_588, pw_589, pk_590, lw_591, lk_592, ik_593⟩ := u
      obtain ⟨hP1, hD1⟩ := hB
      rw [ht] at hP1
      try dsimp only at hw hP1 hD1
      have hP : va_P (eD E) vwCl ([((ax 0), .inr (3, [.ref (ax 1), .ref (ax 2), .ref (ax 4), .ref (ax 6), .int (gx_582 4), .int (gx_582 5), .int (gx_582 6), .int (gx_582 7), va_rf lt_583, .int (gx_582 9), .int (gx_582 10), .int (gx_582 11), .int (gx_582 12), .int (gx_582 13), .int (gx_582 14), .int (gx_582 15), .int (gx_582 16), .int (gx_582 17), .int (gx_582 18)])), ((ax 1), .inr (0, [.int mo_584, .ref ad_585, .int ln_586])), ((ax 2), .inr (2, [.ref (ax 3), .int pk_590])), ((ax 3), .inl (eC E 1, 157, .inr (.inl pw_589))), ((ax 4), .inr (2, [.ref (ax 5), .int lk_592])), ((ax 5), .inl (eC E 1, 157, .inr (.inl lw_591))), ((ax 6), .inl (eC E 0, 3, .inl ik_593))] ++ va_pl PL_587 pf_588) H := hP1
      have hD : va_D A ([((ax 0), .inr (3, [.ref (ax 1), .ref (ax 2), .ref (ax 4), .ref (ax 6), .int (gx_582 4), .int (gx_582 5), .int (gx_582 6), .int (gx_582 7), va_rf lt_583, .int (gx_582 9), .int (gx_582 10), .int (gx_582 11), .int (gx_582 12), .int (gx_582 13), .int (gx_582 14), .int (gx_582 15), .int (gx_582 16), .int (gx_582 17), .int (gx_582 18)])), ((ax 1), .inr (0, [.int mo_584, .ref ad_585, .int ln_586])), ((ax 2), .inr (2, [.ref (ax 3), .int pk_590])), ((ax 3), .inl (eC E 1, 157, .inr (.inl pw_589))), ((ax 4), .inr (2, [.ref (ax 5), .int lk_592])), ((ax 5), .inl (eC E 1, 157, .inr (.inl lw_591))), ((ax 6), .inl (eC E 0, 3, .inl ik_593))] ++ va_pl PL_587 pf_588) := hD1.weaken (fun _ q _ h => hFc q.1 h)
      have hP9 : va_P (eD E) vwCl (wX E ax gx_582 lt_583 mo_584 ad_585 ln_586 PL_587 pf_588 pw_589 pk_590 lw_591 lk_592 ik_593) H := hP
      have hD9 : va_D A (wX E ax gx_582 lt_583 mo_584 ad_585 ln_586 PL_587 pf_588 pw_589 pk_590 lw_591 lk_592 ik_593) := hD
      exact W.vret hx hb hr (fun t ht hW => ⟨⟨(gx_582, lt_583, mo_584, ad_585, ln_586, PL_587, pf_588, pw_589, pk_590, lw_591, lk_592, ik_593), rfl, hw, ⟨by rw [ht]; exact hP9, hD9⟩⟩, hS.F ht⟩) hS.2.2 dX2_takeByte_62
    · have hw := hw.1 c_580
      refine lv_aload_n hx hb dX2_takeByte_23 rfl (lv_at hl 0 rfl) ?_
      refine va_get (D := eD E) (ci := 3) (v := .int (gx 4)) (C := RX2) (T := TX2) (N := 19) hx hb hta lay_X2 hown hKE.1 hP 0 rfl rfl 4 (by decide) (hta _ tw_71) (fun _ h9 => h9) rfl dX2_takeByte_24 ?_
      refine lv_iconst (v := 1) hx hb dX2_takeByte_27 (by decide) ?_
      refine lv_icmp_eq (tgt := 39) hx hb dX2_takeByte_28 (by decide) (fun c_594 => ?_) (fun c_594 => ?_)
      · have hw := hw.1 c_594
        refine lv_aload_n hx hb dX2_takeByte_39 rfl (lv_at hl 0 rfl) ?_
        refine lv_iload_n hx hb dX2_takeByte_40 rfl (lv_at hl 1 rfl) ?_
        refine va_put (D := eD E) (ci := 3) (v := .int p0) (ty := .int) (C := RX2) (T := TX2) (N := 19) hx hb hta lay_X2 tyX2 tyX2_ok nmX2 hown hKE.1 hP hD hS 0 rfl rfl 5 (by decide) (hta _ tw_72) (fun _ h9 => h9) rfl (by decide +kernel) rfl rfl (Nat.le_of_ble_eq_true rfl) dX2_takeByte_41 (fun H locs hP hD hS => ?_)
        have hP : va_P (eD E) vwCl ([((ax 0), .inr (3, [.ref (ax 1), .ref (ax 2), .ref (ax 4), .ref (ax 6), .int (gx 4), .int p0, .int (gx 6), .int (gx 7), va_rf lt, .int (gx 9), .int (gx 10), .int (gx 11), .int (gx 12), .int (gx 13), .int (gx 14), .int (gx 15), .int (gx 16), .int (gx 17), .int (gx 18)])), ((ax 1), .inr (0, [.int mo, .ref ad, .int ln])), ((ax 2), .inr (2, [.ref (ax 3), .int pk])), ((ax 3), .inl (eC E 1, 157, .inr (.inl pw))), ((ax 4), .inr (2, [.ref (ax 5), .int lk])), ((ax 5), .inl (eC E 1, 157, .inr (.inl lw))), ((ax 6), .inl (eC E 0, 3, .inl ik))] ++ va_pl PL pf) H := hP
        have hD : va_D A ([((ax 0), .inr (3, [.ref (ax 1), .ref (ax 2), .ref (ax 4), .ref (ax 6), .int (gx 4), .int p0, .int (gx 6), .int (gx 7), va_rf lt, .int (gx 9), .int (gx 10), .int (gx 11), .int (gx 12), .int (gx 13), .int (gx 14), .int (gx 15), .int (gx 16), .int (gx 17), .int (gx 18)])), ((ax 1), .inr (0, [.int mo, .ref ad, .int ln])), ((ax 2), .inr (2, [.ref (ax 3), .int pk])), ((ax 3), .inl (eC E 1, 157, .inr (.inl pw))), ((ax 4), .inr (2, [.ref (ax 5), .int lk])), ((ax 5), .inl (eC E 1, 157, .inr (.inl lw))), ((ax 6), .inl (eC E 0, 3, .inl ik))] ++ va_pl PL pf) := hD
        refine lv_aload_n hx hb dX2_takeByte_44 rfl (lv_at hl 0 rfl) ?_
        refine lv_iconst (v := 2) hx hb dX2_takeByte_45 (by decide) ?_
        refine va_put (D := eD E) (ci := 3) (v := .int 2) (ty := .int) (C := RX2) (T := TX2) (N := 19) hx hb hta lay_X2 tyX2 tyX2_ok nmX2 hown hKE.1 hP hD hS 0 rfl rfl 6 (by decide) (hta _ tw_73) (fun _ h9 => h9) rfl (by decide +kernel) rfl rfl (Nat.le_of_ble_eq_true rfl) dX2_takeByte_46 (fun H locs hP hD hS => ?_)
        have hP : va_P (eD E) vwCl ([((ax 0), .inr (3, [.ref (ax 1), .ref (ax 2), .ref (ax 4), .ref (ax 6), .int (gx 4), .int p0, .int 2, .int (gx 7), va_rf lt, .int (gx 9), .int (gx 10), .int (gx 11), .int (gx 12), .int (gx 13), .int (gx 14), .int (gx 15), .int (gx 16), .int (gx 17), .int (gx 18)])), ((ax 1), .inr (0, [.int mo, .ref ad, .int ln])), ((ax 2), .inr (2, [.ref (ax 3), .int pk])), ((ax 3), .inl (eC E 1, 157, .inr (.inl pw))), ((ax 4), .inr (2, [.ref (ax 5), .int lk])), ((ax 5), .inl (eC E 1, 157, .inr (.inl lw))), ((ax 6), .inl (eC E 0, 3, .inl ik))] ++ va_pl PL pf) H := hP
        have hD : va_D A ([((ax 0), .inr (3, [.ref (ax 1), .ref (ax 2), .ref (ax 4), .ref (ax 6), .int (gx 4), .int p0, .int 2, .int (gx 7), va_rf lt, .int (gx 9), .int (gx 10), .int (gx 11), .int (gx 12), .int (gx 13), .int (gx 14), .int (gx 15), .int (gx 16), .int (gx 17), .int (gx 18)])), ((ax 1), .inr (0, [.int mo, .ref ad, .int ln])), ((ax 2), .inr (2, [.ref (ax 3), .int pk])), ((ax 3), .inl (eC E 1, 157, .inr (.inl pw))), ((ax 4), .inr (2, [.ref (ax 5), .int lk])), ((ax 5), .inl (eC E 1, 157, .inr (.inl lw))), ((ax 6), .inl (eC E 0, 3, .inl ik))] ++ va_pl PL pf) := hD
        refine lv_goto (tgt := 62) hx hb dX2_takeByte_49 (by decide) ?_
        have hP9 : va_P (eD E) vwCl (wX E ax (upd (upd gx 5 p0) 6 2) lt mo ad ln PL pf pw pk lw lk ik) H := hP
        have hD9 : va_D A (wX E ax (upd (upd gx 5 p0) 6 2) lt mo ad ln PL pf pw pk lw lk ik) := hD
        refine W.widen (k := 9) (n := 288) (Nat.le_of_ble_eq_true rfl) (Nat.le_of_ble_eq_true rfl) ?_
        exact W.vret hx hb hr (fun t ht hW => ⟨⟨((upd (upd gx 5 p0) 6 2), lt, mo, ad, ln, PL, pf, pw, pk, lw, lk, ik), rfl, hw, ⟨by rw [ht]; exact hP9, hD9⟩⟩, hS.F ht⟩) hS.2.2 dX2_takeByte_62
      · have hw := hw.2 c_594
        refine lv_aload_n hx hb dX2_takeByte_31 rfl (lv_at hl 0 rfl) ?_
        refine va_get (D := eD E) (ci := 3) (v := .int (gx 4)) (C := RX2) (T := TX2) (N := 19) hx hb hta lay_X2 hown hKE.1 hP 0 rfl rfl 4 (by decide) (hta _ tw_71) (fun _ h9 => h9) rfl dX2_takeByte_32 ?_
        refine lv_iconst (v := 2) hx hb dX2_takeByte_35 (by decide) ?_
        refine lv_icmp_ne (tgt := 52) hx hb dX2_takeByte_36 (by decide) (fun c_595 => ?_) (fun c_595 => ?_)
        · have hw := hw.2 c_595
          refine lv_aload_n hx hb dX2_takeByte_52 rfl (lv_at hl 0 rfl) ?_
          refine lv_iconst (v := 0) hx hb dX2_takeByte_53 (by decide) ?_
          refine va_put (D := eD E) (ci := 3) (v := .int 0) (ty := .int) (C := RX2) (T := TX2) (N := 19) hx hb hta lay_X2 tyX2 tyX2_ok nmX2 hown hKE.1 hP hD hS 0 rfl rfl 6 (by decide) (hta _ tw_73) (fun _ h9 => h9) rfl (by decide +kernel) rfl rfl (Nat.le_of_ble_eq_true rfl) dX2_takeByte_54 (fun H locs hP hD hS => ?_)
          have hP : va_P (eD E) vwCl ([((ax 0), .inr (3, [.ref (ax 1), .ref (ax 2), .ref (ax 4), .ref (ax 6), .int (gx 4), .int (gx 5), .int 0, .int (gx 7), va_rf lt, .int (gx 9), .int (gx 10), .int (gx 11), .int (gx 12), .int (gx 13), .int (gx 14), .int (gx 15), .int (gx 16), .int (gx 17), .int (gx 18)])), ((ax 1), .inr (0, [.int mo, .ref ad, .int ln])), ((ax 2), .inr (2, [.ref (ax 3), .int pk])), ((ax 3), .inl (eC E 1, 157, .inr (.inl pw))), ((ax 4), .inr (2, [.ref (ax 5), .int lk])), ((ax 5), .inl (eC E 1, 157, .inr (.inl lw))), ((ax 6), .inl (eC E 0, 3, .inl ik))] ++ va_pl PL pf) H := hP
          have hD : va_D A ([((ax 0), .inr (3, [.ref (ax 1), .ref (ax 2), .ref (ax 4), .ref (ax 6), .int (gx 4), .int (gx 5), .int 0, .int (gx 7), va_rf lt, .int (gx 9), .int (gx 10), .int (gx 11), .int (gx 12), .int (gx 13), .int (gx 14), .int (gx 15), .int (gx 16), .int (gx 17), .int (gx 18)])), ((ax 1), .inr (0, [.int mo, .ref ad, .int ln])), ((ax 2), .inr (2, [.ref (ax 3), .int pk])), ((ax 3), .inl (eC E 1, 157, .inr (.inl pw))), ((ax 4), .inr (2, [.ref (ax 5), .int lk])), ((ax 5), .inl (eC E 1, 157, .inr (.inl lw))), ((ax 6), .inl (eC E 0, 3, .inl ik))] ++ va_pl PL pf) := hD
          refine lv_aload_n hx hb dX2_takeByte_57 rfl (lv_at hl 0 rfl) ?_
          refine lv_iload_n hx hb dX2_takeByte_58 rfl (lv_at hl 1 rfl) ?_
          have hPc : va_P (eD E) vwCl (wX E ax (upd gx 6 0) lt mo ad ln PL pf pw pk lw lk ik) H := hP
          have hDc : va_D A (wX E ax (upd gx 6 0) lt mo ad ln PL pf pw pk lw lk ik) := hD
          have hFc : ∀ q, va_A (wX E ax (upd gx 6 0) lt mo ad ln PL pf pw pk lw lk ik) H.size q → A q := frS hDc hS hA
          refine va_callv (va_runV (As := [.int p0]) (rest := []) ⟨hx, hb, hml, hown, hta⟩ (c_X2_endCommand E l ax (upd gx 6 0) lt mo ad ln PL pf pw pk lw lk ik p0 H.size _ hw) (pcV (n := 1) hta tw_269 tw_266 tw_1 tw_268 tp_4 rfl rfl hd_X2_endCommand ⟨Nat.le_of_ble_eq_true rfl, Nat.le_of_ble_eq_true rfl⟩) ⟨fbM, va_recv hKE.1 hP (ci := 3) (q0 := 0) rfl rfl, fun U hU hW => ⟨rfl, preM.mk hPc hKE hDc hZ hS hFc hU hW⟩⟩ rfl rfl hl.1 rfl (lv_room (Nat.le_of_ble_eq_true rfl)) dX2_takeByte_59 ⟨Nat.le_of_ble_eq_true rfl, Nat.le_of_ble_eq_true rfl⟩) hS (fun q _ h => hFc q h) hFc (fun u t H locs ht hvm hw hB hz1 hk1 hS => ?_)
          obtain ⟨gx_597, lt_598, mo_599, ad_600, ln_601, PL_602, pf_603, pw_604, pk_605, lw_606, lk_607, ik_608⟩ := u
          obtain ⟨hP1, hD1⟩ := hB
          rw [ht] at hP1
          try dsimp only at hw hP1 hD1
          have hP : va_P (eD E) vwCl ([((ax 0), .inr (3, [.ref (ax 1), .ref (ax 2), .ref (ax 4), .ref (ax 6), .int (gx_597 4), .int (gx_597 5), .int (gx_597 6), .int (gx_597 7), va_rf lt_598, .int (gx_597 9), .int (gx_597 10), .int (gx_597 11), .int (gx_597 12), .int (gx_597 13), .int (gx_597 14), .int (gx_597 15), .int (gx_597 16), .int (gx_597 17), .int (gx_597 18)])), ((ax 1), .inr (0, [.int mo_599, .ref ad_600, .int ln_601])), ((ax 2), .inr (2, [.ref (ax 3), .int pk_605])), ((ax 3), .inl (eC E 1, 157, .inr (.inl pw_604))), ((ax 4), .inr (2, [.ref (ax 5), .int lk_607])), ((ax 5), .inl (eC E 1, 157, .inr (.inl lw_606))), ((ax 6), .inl (eC E 0, 3, .inl ik_608))] ++ va_pl PL_602 pf_603) H := hP1
          have hD : va_D A ([((ax 0), .inr (3, [.ref (ax 1), .ref (ax 2), .ref (ax 4), .ref (ax 6), .int (gx_597 4), .int (gx_597 5), .int (gx_597 6), .int (gx_597 7), va_rf lt_598, .int (gx_597 9), .int (gx_597 10), .int (gx_597 11), .int (gx_597 12), .int (gx_597 13), .int (gx_597 14), .int (gx_597 15), .int (gx_597 16), .int (gx_597 17), .int (gx_597 18)])), ((ax 1), .inr (0, [.int mo_599, .ref ad_600, .int ln_601])), ((ax 2), .inr (2, [.ref (ax 3), .int pk_605])), ((ax 3), .inl (eC E 1, 157, .inr (.inl pw_604))), ((ax 4), .inr (2, [.ref (ax 5), .int lk_607])), ((ax 5), .inl (eC E 1, 157, .inr (.inl lw_606))), ((ax 6), .inl (eC E 0, 3, .inl ik_608))] ++ va_pl PL_602 pf_603) := hD1.weaken (fun _ q _ h => hFc q.1 h)
          have hP9 : va_P (eD E) vwCl (wX E ax gx_597 lt_598 mo_599 ad_600 ln_601 PL_602 pf_603 pw_604 pk_605 lw_606 lk_607 ik_608) H := hP
          have hD9 : va_D A (wX E ax gx_597 lt_598 mo_599 ad_600 ln_601 PL_602 pf_603 pw_604 pk_605 lw_606 lk_607 ik_608) := hD
          exact W.vret hx hb hr (fun t ht hW => ⟨⟨(gx_597, lt_598, mo_599, ad_600, ln_601, PL_602, pf_603, pw_604, pk_605, lw_606, lk_607, ik_608), rfl, hw, ⟨by rw [ht]; exact hP9, hD9⟩⟩, hS.F ht⟩) hS.2.2 dX2_takeByte_62
        · have hw := hw.1 c_595
          refine lv_aload_n hx hb dX2_takeByte_39 rfl (lv_at hl 0 rfl) ?_
          refine lv_iload_n hx hb dX2_takeByte_40 rfl (lv_at hl 1 rfl) ?_
          refine va_put (D := eD E) (ci := 3) (v := .int p0) (ty := .int) (C := RX2) (T := TX2) (N := 19) hx hb hta lay_X2 tyX2 tyX2_ok nmX2 hown hKE.1 hP hD hS 0 rfl rfl 5 (by decide) (hta _ tw_72) (fun _ h9 => h9) rfl (by decide +kernel) rfl rfl (Nat.le_of_ble_eq_true rfl) dX2_takeByte_41 (fun H locs hP hD hS => ?_)
          have hP : va_P (eD E) vwCl ([((ax 0), .inr (3, [.ref (ax 1), .ref (ax 2), .ref (ax 4), .ref (ax 6), .int (gx 4), .int p0, .int (gx 6), .int (gx 7), va_rf lt, .int (gx 9), .int (gx 10), .int (gx 11), .int (gx 12), .int (gx 13), .int (gx 14), .int (gx 15), .int (gx 16), .int (gx 17), .int (gx 18)])), ((ax 1), .inr (0, [.int mo, .ref ad, .int ln])), ((ax 2), .inr (2, [.ref (ax 3), .int pk])), ((ax 3), .inl (eC E 1, 157, .inr (.inl pw))), ((ax 4), .inr (2, [.ref (ax 5), .int lk])), ((ax 5), .inl (eC E 1, 157, .inr (.inl lw))), ((ax 6), .inl (eC E 0, 3, .inl ik))] ++ va_pl PL pf) H := hP
          have hD : va_D A ([((ax 0), .inr (3, [.ref (ax 1), .ref (ax 2), .ref (ax 4), .ref (ax 6), .int (gx 4), .int p0, .int (gx 6), .int (gx 7), va_rf lt, .int (gx 9), .int (gx 10), .int (gx 11), .int (gx 12), .int (gx 13), .int (gx 14), .int (gx 15), .int (gx 16), .int (gx 17), .int (gx 18)])), ((ax 1), .inr (0, [.int mo, .ref ad, .int ln])), ((ax 2), .inr (2, [.ref (ax 3), .int pk])), ((ax 3), .inl (eC E 1, 157, .inr (.inl pw))), ((ax 4), .inr (2, [.ref (ax 5), .int lk])), ((ax 5), .inl (eC E 1, 157, .inr (.inl lw))), ((ax 6), .inl (eC E 0, 3, .inl ik))] ++ va_pl PL pf) := hD
          refine lv_aload_n hx hb dX2_takeByte_44 rfl (lv_at hl 0 rfl) ?_
          refine lv_iconst (v := 2) hx hb dX2_takeByte_45 (by decide) ?_
          refine va_put (D := eD E) (ci := 3) (v := .int 2) (ty := .int) (C := RX2) (T := TX2) (N := 19) hx hb hta lay_X2 tyX2 tyX2_ok nmX2 hown hKE.1 hP hD hS 0 rfl rfl 6 (by decide) (hta _ tw_73) (fun _ h9 => h9) rfl (by decide +kernel) rfl rfl (Nat.le_of_ble_eq_true rfl) dX2_takeByte_46 (fun H locs hP hD hS => ?_)
          have hP : va_P (eD E) vwCl ([((ax 0), .inr (3, [.ref (ax 1), .ref (ax 2), .ref (ax 4), .ref (ax 6), .int (gx 4), .int p0, .int 2, .int (gx 7), va_rf lt, .int (gx 9), .int (gx 10), .int (gx 11), .int (gx 12), .int (gx 13), .int (gx 14), .int (gx 15), .int (gx 16), .int (gx 17), .int (gx 18)])), ((ax 1), .inr (0, [.int mo, .ref ad, .int ln])), ((ax 2), .inr (2, [.ref (ax 3), .int pk])), ((ax 3), .inl (eC E 1, 157, .inr (.inl pw))), ((ax 4), .inr (2, [.ref (ax 5), .int lk])), ((ax 5), .inl (eC E 1, 157, .inr (.inl lw))), ((ax 6), .inl (eC E 0, 3, .inl ik))] ++ va_pl PL pf) H := hP
          have hD : va_D A ([((ax 0), .inr (3, [.ref (ax 1), .ref (ax 2), .ref (ax 4), .ref (ax 6), .int (gx 4), .int p0, .int 2, .int (gx 7), va_rf lt, .int (gx 9), .int (gx 10), .int (gx 11), .int (gx 12), .int (gx 13), .int (gx 14), .int (gx 15), .int (gx 16), .int (gx 17), .int (gx 18)])), ((ax 1), .inr (0, [.int mo, .ref ad, .int ln])), ((ax 2), .inr (2, [.ref (ax 3), .int pk])), ((ax 3), .inl (eC E 1, 157, .inr (.inl pw))), ((ax 4), .inr (2, [.ref (ax 5), .int lk])), ((ax 5), .inl (eC E 1, 157, .inr (.inl lw))), ((ax 6), .inl (eC E 0, 3, .inl ik))] ++ va_pl PL pf) := hD
          refine lv_goto (tgt := 62) hx hb dX2_takeByte_49 (by decide) ?_
          have hP9 : va_P (eD E) vwCl (wX E ax (upd (upd gx 5 p0) 6 2) lt mo ad ln PL pf pw pk lw lk ik) H := hP
          have hD9 : va_D A (wX E ax (upd (upd gx 5 p0) 6 2) lt mo ad ln PL pf pw pk lw lk ik) := hD
          refine W.widen (k := 9) (n := 288) (Nat.le_of_ble_eq_true rfl) (Nat.le_of_ble_eq_true rfl) ?_
          exact W.vret hx hb hr (fun t ht hW => ⟨⟨((upd (upd gx 5 p0) 6 2), lt, mo, ad, ln, PL, pf, pw, pk, lw, lk, ik), rfl, hw, ⟨by rw [ht]; exact hP9, hD9⟩⟩, hS.F ht⟩) hS.2.2 dX2_takeByte_62
  · have hw := hw.1 c_579
    refine lv_aload_n hx hb dX2_takeByte_7 rfl (lv_at hl 0 rfl) ?_
    refine lv_iload_n hx hb dX2_takeByte_8 rfl (lv_at hl 1 rfl) ?_
    have hPc : va_P (eD E) vwCl (wX E ax gx lt mo ad ln PL pf pw pk lw lk ik) s.heap := hP
    have hDc : va_D A (wX E ax gx lt mo ad ln PL pf pw pk lw lk ik) := hD
    have hFc : ∀ q, va_A (wX E ax gx lt mo ad ln PL pf pw pk lw lk ik) s.heap.size q → A q := frS hDc hS hA
    refine va_callv (va_runV (As := [.int p0]) (rest := []) ⟨hx, hb, hml, hown, hta⟩ (c_X2_beginCommand E l ax gx lt mo ad ln PL pf pw pk lw lk ik p0 s.heap.size _ hw) (pcV (n := 1) hta tw_265 tw_262 tw_1 tw_264 tp_3 rfl rfl hd_X2_beginCommand ⟨Nat.le_of_ble_eq_true rfl, Nat.le_of_ble_eq_true rfl⟩) ⟨fbM, va_recv hKE.1 hP (ci := 3) (q0 := 0) rfl rfl, fun U hU hW => ⟨rfl, preM.mk hPc hKE hDc hZ hS hFc hU hW⟩⟩ rfl rfl hl.1 rfl (lv_room (Nat.le_of_ble_eq_true rfl)) dX2_takeByte_9 ⟨Nat.le_of_ble_eq_true rfl, Nat.le_of_ble_eq_true rfl⟩) hS (fun q _ h => hFc q h) hFc (fun u t H locs ht hvm hw hB hz1 hk1 hS => ?_)
    obtain ⟨gx_610, lt_611, mo_612, ad_613, ln_614, PL_615, pf_616, pw_617, pk_618, lw_619, lk_620, ik_621⟩ := u
    obtain ⟨hP1, hD1⟩ := hB
    rw [ht] at hP1
    try dsimp only at hw hP1 hD1
    have hP : va_P (eD E) vwCl ([((ax 0), .inr (3, [.ref (ax 1), .ref (ax 2), .ref (ax 4), .ref (ax 6), .int (gx_610 4), .int (gx_610 5), .int (gx_610 6), .int (gx_610 7), va_rf lt_611, .int (gx_610 9), .int (gx_610 10), .int (gx_610 11), .int (gx_610 12), .int (gx_610 13), .int (gx_610 14), .int (gx_610 15), .int (gx_610 16), .int (gx_610 17), .int (gx_610 18)])), ((ax 1), .inr (0, [.int mo_612, .ref ad_613, .int ln_614])), ((ax 2), .inr (2, [.ref (ax 3), .int pk_618])), ((ax 3), .inl (eC E 1, 157, .inr (.inl pw_617))), ((ax 4), .inr (2, [.ref (ax 5), .int lk_620])), ((ax 5), .inl (eC E 1, 157, .inr (.inl lw_619))), ((ax 6), .inl (eC E 0, 3, .inl ik_621))] ++ va_pl PL_615 pf_616) H := hP1
    have hD : va_D A ([((ax 0), .inr (3, [.ref (ax 1), .ref (ax 2), .ref (ax 4), .ref (ax 6), .int (gx_610 4), .int (gx_610 5), .int (gx_610 6), .int (gx_610 7), va_rf lt_611, .int (gx_610 9), .int (gx_610 10), .int (gx_610 11), .int (gx_610 12), .int (gx_610 13), .int (gx_610 14), .int (gx_610 15), .int (gx_610 16), .int (gx_610 17), .int (gx_610 18)])), ((ax 1), .inr (0, [.int mo_612, .ref ad_613, .int ln_614])), ((ax 2), .inr (2, [.ref (ax 3), .int pk_618])), ((ax 3), .inl (eC E 1, 157, .inr (.inl pw_617))), ((ax 4), .inr (2, [.ref (ax 5), .int lk_620])), ((ax 5), .inl (eC E 1, 157, .inr (.inl lw_619))), ((ax 6), .inl (eC E 0, 3, .inl ik_621))] ++ va_pl PL_615 pf_616) := hD1.weaken (fun _ q _ h => hFc q.1 h)
    refine lv_goto (tgt := 62) hx hb dX2_takeByte_12 (by decide) ?_
    have hP9 : va_P (eD E) vwCl (wX E ax gx_610 lt_611 mo_612 ad_613 ln_614 PL_615 pf_616 pw_617 pk_618 lw_619 lk_620 ik_621) H := hP
    have hD9 : va_D A (wX E ax gx_610 lt_611 mo_612 ad_613 ln_614 PL_615 pf_616 pw_617 pk_618 lw_619 lk_620 ik_621) := hD
    refine W.widen (k := 9) (n := 288) (Nat.le_of_ble_eq_true rfl) (Nat.le_of_ble_eq_true rfl) ?_
    exact W.vret hx hb hr (fun t ht hW => ⟨⟨(gx_610, lt_611, mo_612, ad_613, ln_614, PL_615, pf_616, pw_617, pk_618, lw_619, lk_620, ik_621), rfl, hw, ⟨by rw [ht]; exact hP9, hD9⟩⟩, hS.F ht⟩) hS.2.2 dX2_takeByte_62
def wp_X2_feed (E : EV) (post : Int32 → (Nat → Int32) → Option Nat → Int32 → Nat → Int32 → List Nat → (Nat → va_E) → (Nat → Int64) → Int32 → (Nat → Int64) → Int32 → (Nat → Int32) → Prop) (postX : String → Prop) (gx : Nat → Int32) (lt : Option Nat) (mo : Int32) (ad : Nat) (ln : Int32) (PL : List Nat) (pf : Nat → va_E) (pw : Nat → Int64) (pk : Int32) (lw : Nat → Int64) (lk : Int32) (ik : Nat → Int32) (p0 : Int32) : Prop := ((p0 < 0 → postX sIA) ∧ (¬ (p0 < 0) → ((p0 ≤ 255 → (wp_Jx4a65c_size_8abf5 E (fun r_624 : Int32 => ((r_624 < 8 → (wp_X2_takeByte E (fun (gx_627 : Nat → Int32) (lt_628 : Option Nat) (mo_629 : Int32) (ad_630 : Nat) (ln_631 : Int32) (PL_632 : List Nat) (pf_633 : Nat → va_E) (pw_634 : Nat → Int64) (pk_635 : Int32) (lw_636 : Nat → Int64) (lk_637 : Int32) (ik_638 : Nat → Int32) => post 1 gx_627 lt_628 mo_629 ad_630 ln_631 PL_632 pf_633 pw_634 pk_635 lw_636 lk_637 ik_638) gx lt mo ad ln PL pf pw pk lw lk ik p0)) ∧ (¬ (r_624 < 8) → post 0 gx lt mo ad ln PL pf pw pk lw lk ik))) mo ad ln PL pf)) ∧ (¬ (p0 ≤ 255) → postX sIA))))
set_option maxHeartbeats 4000000 in
set_option maxRecDepth 100000 in
theorem c_X2_feed (E : EV) (l : Launch) (ax : Nat → Nat) (gx : Nat → Int32) (lt : Option Nat) (mo : Int32) (ad : Nat) (ln : Int32) (PL : List Nat) (pf : Nat → va_E) (pw : Nat → Int64) (pk : Int32) (lw : Nat → Int64) (lk : Int32) (ik : Nat → Int32) (p0 : Int32) (hz : Nat) (post : Int32 → (Nat → Int32) → Option Nat → Int32 → Nat → Int32 → List Nat → (Nat → va_E) → (Nat → Int64) → Int32 → (Nat → Int64) → Int32 → (Nat → Int32) → Prop) (postX : String → Prop) (hw : wp_X2_feed E post postX gx lt mo ad ln PL pf pw pk lw lk ik p0) (hst : l.stackTraces = false) : vx_Met l yX2_feed (Cond.code yX2_feed cX2_feed 2 (some .boolean) :: ALLW) ({ frames := 11, cells := 9, slots := 288, locals := 234 } : Room) (va_Pc [.ref (ax 0), .int p0] (preM E (wX E ax gx lt mo ad ln PL pf pw pk lw lk ik) hz)) (va_Qi (fun (r : Int32) (u : (Nat → Int32) × Option Nat × Int32 × Nat × Int32 × List Nat × (Nat → va_E) × (Nat → Int64) × Int32 × (Nat → Int64) × Int32 × (Nat → Int32)) => post r u.1 u.2.1 u.2.2.1 u.2.2.2.1 u.2.2.2.2.1 u.2.2.2.2.2.1 u.2.2.2.2.2.2.1 u.2.2.2.2.2.2.2.1 u.2.2.2.2.2.2.2.2.1 u.2.2.2.2.2.2.2.2.2.1 u.2.2.2.2.2.2.2.2.2.2.1 u.2.2.2.2.2.2.2.2.2.2.2) (fun (u : (Nat → Int32) × Option Nat × Int32 × Nat × Int32 × List Nat × (Nat → va_E) × (Nat → Int64) × Int32 × (Nat → Int64) × Int32 × (Nat → Int32)) t => va_P (eD E) vwCl (wX E ax u.1 u.2.1 u.2.2.1 u.2.2.2.1 u.2.2.2.2.1 u.2.2.2.2.2.1 u.2.2.2.2.2.2.1 u.2.2.2.2.2.2.2.1 u.2.2.2.2.2.2.2.2.1 u.2.2.2.2.2.2.2.2.2.1 u.2.2.2.2.2.2.2.2.2.2.1 u.2.2.2.2.2.2.2.2.2.2.2) t.heap ∧ va_D (va_A (wX E ax gx lt mo ad ln PL pf pw pk lw lk ik) hz) (wX E ax u.1 u.2.1 u.2.2.1 u.2.2.2.1 u.2.2.2.2.1 u.2.2.2.2.2.1 u.2.2.2.2.2.2.1 u.2.2.2.2.2.2.2.1 u.2.2.2.2.2.2.2.2.1 u.2.2.2.2.2.2.2.2.2.1 u.2.2.2.2.2.2.2.2.2.2.1 u.2.2.2.2.2.2.2.2.2.2.2)) (va_A (wX E ax gx lt mo ad ln PL pf pw pk lw lk ik) hz)) (vx_X (fun _ : Unit => True) (fun E9 (_ : Unit) t => postX E9 ∧ va_P (eD E) vwCl (wX E ax gx lt mo ad ln PL pf pw pk lw lk ik) t.heap ∧ va_D (va_A (wX E ax gx lt mo ad ln PL pf pw pk lw lk ik) hz) (wX E ax gx lt mo ad ln PL pf pw pk lw lk ik)) (va_A (wX E ax gx lt mo ad ln PL pf pw pk lw lk ik) hz)) 9 288 (va_A (wX E ax gx lt mo ad ln PL pf pw pk lw lk ik) hz) := by
  refine vx_ofW (cc := cX2_feed) (maxL := 2) (ret := (some .boolean)) (by decide) rfl ?_
  intro p e s m args below meth c s₁ B hml htab hv
  obtain ⟨rfl, hpre⟩ := hv
  have hx := B.exec
  have hb := B.bytes
  have hr := B.returns
  have hlocks := B.notSynchronized
  have hts := atoms_spec (ws := (Cond.code yX2_feed cX2_feed 2 (some .boolean) :: ALLW)) B.pre
  have hta : ∀ w ∈ ALLW, w.before ([.ref (ax 0), .int p0] : List Value).toArray s = true := fun w h => hts w (List.mem_cons_of_mem _ h)
  have hown : s.vm.findClass RX2 = some m.cls := findClass_of_methodNamed B.named
  obtain ⟨hsz, hP, hKE, hD0, hZ⟩ := hpre
  subst hsz
  have hD := hD0.self (sz := s.heap.size)
  generalize hAe : va_A (wX E ax gx lt mo ad ln PL pf pw pk lw lk ik) s.heap.size = A at hD hZ ⊢
  have hA : ∀ q : Nat, s.heap.size ≤ q → A q := fun q h => by rw [← hAe]; exact Or.inr h
  have hS : va_S A s.heap s.heap [] := va_S.rf
  have hP : va_P (eD E) vwCl ([((ax 0), .inr (3, [.ref (ax 1), .ref (ax 2), .ref (ax 4), .ref (ax 6), .int (gx 4), .int (gx 5), .int (gx 6), .int (gx 7), va_rf lt, .int (gx 9), .int (gx 10), .int (gx 11), .int (gx 12), .int (gx 13), .int (gx 14), .int (gx 15), .int (gx 16), .int (gx 17), .int (gx 18)])), ((ax 1), .inr (0, [.int mo, .ref ad, .int ln])), ((ax 2), .inr (2, [.ref (ax 3), .int pk])), ((ax 3), .inl (eC E 1, 157, .inr (.inl pw))), ((ax 4), .inr (2, [.ref (ax 5), .int lk])), ((ax 5), .inl (eC E 1, 157, .inr (.inl lw))), ((ax 6), .inl (eC E 0, 3, .inl ik))] ++ va_pl PL pf) s.heap := hP
  have hD : va_D A ([((ax 0), .inr (3, [.ref (ax 1), .ref (ax 2), .ref (ax 4), .ref (ax 6), .int (gx 4), .int (gx 5), .int (gx 6), .int (gx 7), va_rf lt, .int (gx 9), .int (gx 10), .int (gx 11), .int (gx 12), .int (gx 13), .int (gx 14), .int (gx 15), .int (gx 16), .int (gx 17), .int (gx 18)])), ((ax 1), .inr (0, [.int mo, .ref ad, .int ln])), ((ax 2), .inr (2, [.ref (ax 3), .int pk])), ((ax 3), .inl (eC E 1, 157, .inr (.inl pw))), ((ax 4), .inr (2, [.ref (ax 5), .int lk])), ((ax 5), .inl (eC E 1, 157, .inr (.inl lw))), ((ax 6), .inl (eC E 0, 3, .inl ik))] ++ va_pl PL pf) := hD
  have hl := lv_entry ([.ref (ax 0), .int p0]) (n := 2) (Nat.le_of_ble_eq_true rfl)
  rw [lg_entry_eq]
  generalize (lg_sl ([.ref (ax 0), .int p0]) ++ List.replicate (2 - (lg_sl ([.ref (ax 0), .int p0])).length) Slot.unset).toArray = ls at hl ⊢
  have hl : lv_has ls 2 [(0, .ref (ax 0)), (1, .int p0)] := hl
  unfold wp_X2_feed at hw
  refine lv_iload_n hx hb dX2_feed_0 rfl (lv_at hl 1 rfl) ?_
  refine lv_if_lt (tgt := 11) hx hb dX2_feed_1 (by decide) (fun c_622 => ?_) (fun c_622 => ?_)
  · have hw := hw.1 c_622
    have hP9 : va_P (eD E) vwCl (wX E ax gx lt mo ad ln PL pf pw pk lw lk ik) s.heap := hP
    have hD9 : va_D A (wX E ax gx lt mo ad ln PL pf pw pk lw lk ik) := hD
    exact vx_throwS (own := RX2) (cls := sIA) (text := "a byte is 0 to 255") (names := nmE) hx hb hst hown fit_ia fit_E (hta _ tw_238) (hta _ tw_13) hKE.2.2.2.2.2.1.2.1 (hat_ia hta hKE) ot_ia hZ.2.2.1 hZ.2.2.2 hS (hl.1.trans hml.symm) dX2_feed_11 dX2_feed_14 dX2_feed_15 dX2_feed_17 dX2_feed_20 (fun x hx9 => (htab x hx9).elim) (Nat.le_of_ble_eq_true rfl) (Nat.le_of_ble_eq_true rfl) (Nat.le_of_ble_eq_true rfl) (Nat.le_of_ble_eq_true rfl) hlocks (fun t hal hz hk => ⟨(), trivial, ⟨hw, hP9.kept (fun k q hq => hk q.1 (hP9 k q hq).lt), hD9⟩, Nat.le_trans hS.1 hz, fun q h1 h2 => (hk q (Nat.lt_of_lt_of_le h1 hS.1)).trans (hS.2.1 q h1 h2)⟩) hS.2.2 (Nat.le_of_ble_eq_true rfl) (Nat.le_of_ble_eq_true rfl)
  · have hw := hw.2 c_622
    refine lv_iload_n hx hb dX2_feed_4 rfl (lv_at hl 1 rfl) ?_
    refine lv_sipush (v := 255) hx hb dX2_feed_5 (by decide) ?_
    refine lv_icmp_le (tgt := 21) hx hb dX2_feed_8 (by decide) (fun c_623 => ?_) (fun c_623 => ?_)
    · have hw := hw.1 c_623
      refine lv_aload_n hx hb dX2_feed_21 rfl (lv_at hl 0 rfl) ?_
      refine va_get (D := eD E) (ci := 3) (v := .ref (ax 1)) (C := RX2) (T := TX2) (N := 19) hx hb hta lay_X2 hown hKE.1 hP 0 rfl rfl 0 (by decide) (hta _ tw_67) (fun _ h9 => h9) rfl dX2_feed_22 ?_
      have hPc : va_P (eD E) vwCl ([((ax 1), .inr (0, [.int mo, .ref ad, .int ln]))] ++ va_pl PL pf) s.heap := hP.part [1] rfl
      refine vp_callSi (va_Run.run (va_runV (As := []) (rest := []) ⟨hx, hb, hml, hown, hta⟩ (c_Jx4a65c_size_8abf5 E l (ax 1) mo ad ln PL pf _ hw) (pcV (n := 0) hta tw_257 tw_254 tw_4 tw_255 tw_256 rfl rfl hd_Jx4a65c_size_8abf5 ⟨Nat.le_of_ble_eq_true rfl, Nat.le_of_ble_eq_true rfl⟩) ⟨fbR, va_recv hKE.1 hP (ci := 0) (q0 := 1) rfl rfl, fun U hU hW => ⟨rfl, preR.mk hPc hKE hU hW⟩⟩ rfl rfl hl.1 rfl (lv_room (Nat.le_of_ble_eq_true rfl)) dX2_feed_25 ⟨Nat.le_of_ble_eq_true rfl, Nat.le_of_ble_eq_true rfl⟩)) (fun r_624 hw => ?_)
      refine lv_bipush (v := 8) hx hb dX2_feed_28 (by decide) ?_
      refine lv_icmp_lt (tgt := 35) hx hb dX2_feed_30 (by decide) (fun c_625 => ?_) (fun c_625 => ?_)
      · have hw := hw.1 c_625
        refine lv_aload_n hx hb dX2_feed_35 rfl (lv_at hl 0 rfl) ?_
        refine lv_iload_n hx hb dX2_feed_36 rfl (lv_at hl 1 rfl) ?_
        have hPc : va_P (eD E) vwCl (wX E ax gx lt mo ad ln PL pf pw pk lw lk ik) s.heap := hP
        have hDc : va_D A (wX E ax gx lt mo ad ln PL pf pw pk lw lk ik) := hD
        have hFc : ∀ q, va_A (wX E ax gx lt mo ad ln PL pf pw pk lw lk ik) s.heap.size q → A q := frS hDc hS hA
        refine va_callv (va_runV (As := [.int p0]) (rest := []) ⟨hx, hb, hml, hown, hta⟩ (c_X2_takeByte E l ax gx lt mo ad ln PL pf pw pk lw lk ik p0 s.heap.size _ hw) (pcV (n := 1) hta tw_261 tw_258 tw_1 tw_260 tp_2 rfl rfl hd_X2_takeByte ⟨Nat.le_of_ble_eq_true rfl, Nat.le_of_ble_eq_true rfl⟩) ⟨fbM, va_recv hKE.1 hP (ci := 3) (q0 := 0) rfl rfl, fun U hU hW => ⟨rfl, preM.mk hPc hKE hDc hZ hS hFc hU hW⟩⟩ rfl rfl hl.1 rfl (lv_room (Nat.le_of_ble_eq_true rfl)) dX2_feed_37 ⟨Nat.le_of_ble_eq_true rfl, Nat.le_of_ble_eq_true rfl⟩) hS (fun q _ h => hFc q h) hFc (fun u t H locs ht hvm hw hB hz1 hk1 hS => ?_)
        obtain ⟨gx_627, lt_628, mo_629, ad_630, ln_631, PL_632, pf_633, pw_634, pk_635, lw_636, lk_637, ik_638⟩ := u
        obtain ⟨hP1, hD1⟩ := hB
        rw [ht] at hP1
        try dsimp only at hw hP1 hD1
        have hP : va_P (eD E) vwCl ([((ax 0), .inr (3, [.ref (ax 1), .ref (ax 2), .ref (ax 4), .ref (ax 6), .int (gx_627 4), .int (gx_627 5), .int (gx_627 6), .int (gx_627 7), va_rf lt_628, .int (gx_627 9), .int (gx_627 10), .int (gx_627 11), .int (gx_627 12), .int (gx_627 13), .int (gx_627 14), .int (gx_627 15), .int (gx_627 16), .int (gx_627 17), .int (gx_627 18)])), ((ax 1), .inr (0, [.int mo_629, .ref ad_630, .int ln_631])), ((ax 2), .inr (2, [.ref (ax 3), .int pk_635])), ((ax 3), .inl (eC E 1, 157, .inr (.inl pw_634))), ((ax 4), .inr (2, [.ref (ax 5), .int lk_637])), ((ax 5), .inl (eC E 1, 157, .inr (.inl lw_636))), ((ax 6), .inl (eC E 0, 3, .inl ik_638))] ++ va_pl PL_632 pf_633) H := hP1
        have hD : va_D A ([((ax 0), .inr (3, [.ref (ax 1), .ref (ax 2), .ref (ax 4), .ref (ax 6), .int (gx_627 4), .int (gx_627 5), .int (gx_627 6), .int (gx_627 7), va_rf lt_628, .int (gx_627 9), .int (gx_627 10), .int (gx_627 11), .int (gx_627 12), .int (gx_627 13), .int (gx_627 14), .int (gx_627 15), .int (gx_627 16), .int (gx_627 17), .int (gx_627 18)])), ((ax 1), .inr (0, [.int mo_629, .ref ad_630, .int ln_631])), ((ax 2), .inr (2, [.ref (ax 3), .int pk_635])), ((ax 3), .inl (eC E 1, 157, .inr (.inl pw_634))), ((ax 4), .inr (2, [.ref (ax 5), .int lk_637])), ((ax 5), .inl (eC E 1, 157, .inr (.inl lw_636))), ((ax 6), .inl (eC E 0, 3, .inl ik_638))] ++ va_pl PL_632 pf_633) := hD1.weaken (fun _ q _ h => hFc q.1 h)
        refine lv_iconst (v := 1) hx hb dX2_feed_40 (by decide) ?_
        have hP9 : va_P (eD E) vwCl (wX E ax gx_627 lt_628 mo_629 ad_630 ln_631 PL_632 pf_633 pw_634 pk_635 lw_636 lk_637 ik_638) H := hP
        have hD9 : va_D A (wX E ax gx_627 lt_628 mo_629 ad_630 ln_631 PL_632 pf_633 pw_634 pk_635 lw_636 lk_637 ik_638) := hD
        refine vx_ret ?_
        exact W.zret (v := 1) hx hb hr rfl (fun t ht hW => ⟨⟨1, (gx_627, lt_628, mo_629, ad_630, ln_631, PL_632, pf_633, pw_634, pk_635, lw_636, lk_637, ik_638), rfl, hw, ⟨by rw [ht]; exact hP9, hD9⟩⟩, hS.F ht⟩) hS.2.2 dX2_feed_41
      · have hw := hw.2 c_625
        refine lv_iconst (v := 0) hx hb dX2_feed_33 (by decide) ?_
        have hP9 : va_P (eD E) vwCl (wX E ax gx lt mo ad ln PL pf pw pk lw lk ik) s.heap := hP
        have hD9 : va_D A (wX E ax gx lt mo ad ln PL pf pw pk lw lk ik) := hD
        refine W.widen (k := 9) (n := 288) (Nat.le_of_ble_eq_true rfl) (Nat.le_of_ble_eq_true rfl) ?_
        refine vx_ret ?_
        exact W.zret (v := 0) hx hb hr rfl (fun t ht hW => ⟨⟨0, (gx, lt, mo, ad, ln, PL, pf, pw, pk, lw, lk, ik), rfl, hw, ⟨by rw [ht]; exact hP9, hD9⟩⟩, hS.F ht⟩) hS.2.2 dX2_feed_34
    · have hw := hw.2 c_623
      have hP9 : va_P (eD E) vwCl (wX E ax gx lt mo ad ln PL pf pw pk lw lk ik) s.heap := hP
      have hD9 : va_D A (wX E ax gx lt mo ad ln PL pf pw pk lw lk ik) := hD
      exact vx_throwS (own := RX2) (cls := sIA) (text := "a byte is 0 to 255") (names := nmE) hx hb hst hown fit_ia fit_E (hta _ tw_238) (hta _ tw_13) hKE.2.2.2.2.2.1.2.1 (hat_ia hta hKE) ot_ia hZ.2.2.1 hZ.2.2.2 hS (hl.1.trans hml.symm) dX2_feed_11 dX2_feed_14 dX2_feed_15 dX2_feed_17 dX2_feed_20 (fun x hx9 => (htab x hx9).elim) (Nat.le_of_ble_eq_true rfl) (Nat.le_of_ble_eq_true rfl) (Nat.le_of_ble_eq_true rfl) (Nat.le_of_ble_eq_true rfl) hlocks (fun t hal hz hk => ⟨(), trivial, ⟨hw, hP9.kept (fun k q hq => hk q.1 (hP9 k q hq).lt), hD9⟩, Nat.le_trans hS.1 hz, fun q h1 h2 => (hk q (Nat.lt_of_lt_of_le h1 hS.1)).trans (hS.2.1 q h1 h2)⟩) hS.2.2 (Nat.le_of_ble_eq_true rfl) (Nat.le_of_ble_eq_true rfl)
def wp_X2_tick_L37 (E : EV) (post : Int32 → (Nat → Int32) → Option Nat → Int32 → Nat → Int32 → List Nat → (Nat → va_E) → (Nat → Int64) → Int32 → (Nat → Int64) → Int32 → (Nat → Int32) → Prop)   : Nat → (Nat → Int32) → Option Nat → Int32 → Nat → Int32 → List Nat → (Nat → va_E) → (Nat → Int64) → Int32 → (Nat → Int64) → Int32 → (Nat → Int32) → Int32 → Int32 → Int32 → Int32 → Prop
  | 0, _, _, _, _, _, _, _, _, _, _, _, _, _, _, _, _ => False
  | n + 1, gx_L, lt_L, mo_L, ad_L, ln_L, PL_L, pf_L, pw_L, pk_L, lw_L, lk_L, ik_L, x1, x2, x3, x4 => ((x1 ≤ x4 → post (((gx_L 17) + (gx_L 18)) - x2) gx_L lt_L mo_L ad_L ln_L PL_L pf_L pw_L pk_L lw_L lk_L ik_L) ∧ (¬ (x1 ≤ x4) → ((x3 = 0 → post (((gx_L 17) + (gx_L 18)) - x2) gx_L lt_L mo_L ad_L ln_L PL_L pf_L pw_L pk_L lw_L lk_L ik_L) ∧ (¬ (x3 = 0) → (wp_X2_doTick E (fun (r_643 : Int32) (gx_644 : Nat → Int32) (lt_645 : Option Nat) (mo_646 : Int32) (ad_647 : Nat) (ln_648 : Int32) (PL_649 : List Nat) (pf_650 : Nat → va_E) (pw_651 : Nat → Int64) (pk_652 : Int32) (lw_653 : Nat → Int64) (lk_654 : Int32) (ik_655 : Nat → Int32) => (wp_X2_tick_L37 E post n gx_644 lt_645 mo_646 ad_647 ln_648 PL_649 pf_650 pw_651 pk_652 lw_653 lk_654 ik_655 x1 x2 r_643 (x4 + 1))) gx_L lt_L mo_L ad_L ln_L PL_L pf_L pw_L pk_L lw_L lk_L ik_L)))))
def wp_X2_tick (E : EV) (post : Int32 → (Nat → Int32) → Option Nat → Int32 → Nat → Int32 → List Nat → (Nat → va_E) → (Nat → Int64) → Int32 → (Nat → Int64) → Int32 → (Nat → Int32) → Prop) (postX : String → Prop) (gx : Nat → Int32) (lt : Option Nat) (mo : Int32) (ad : Nat) (ln : Int32) (PL : List Nat) (pf : Nat → va_E) (pw : Nat → Int64) (pk : Int32) (lw : Nat → Int64) (lk : Int32) (ik : Nat → Int32) (p0 : Int32) : Prop := ((p0 < 1 → postX sIA) ∧ (¬ (p0 < 1) → ((p0 ≤ 1000 → (∃ n : Nat, wp_X2_tick_L37 E post n gx lt mo ad ln PL pf pw pk lw lk ik p0 ((gx 17) + (gx 18)) 1 0)) ∧ (¬ (p0 ≤ 1000) → postX sIA))))
set_option maxHeartbeats 4000000 in
set_option maxRecDepth 100000 in
theorem c_X2_tick (E : EV) (l : Launch) (ax : Nat → Nat) (gx : Nat → Int32) (lt : Option Nat) (mo : Int32) (ad : Nat) (ln : Int32) (PL : List Nat) (pf : Nat → va_E) (pw : Nat → Int64) (pk : Int32) (lw : Nat → Int64) (lk : Int32) (ik : Nat → Int32) (p0 : Int32) (hz : Nat) (post : Int32 → (Nat → Int32) → Option Nat → Int32 → Nat → Int32 → List Nat → (Nat → va_E) → (Nat → Int64) → Int32 → (Nat → Int64) → Int32 → (Nat → Int32) → Prop) (postX : String → Prop) (hw : wp_X2_tick E post postX gx lt mo ad ln PL pf pw pk lw lk ik p0) (hst : l.stackTraces = false) : vx_Met l yX2_tick (Cond.code yX2_tick cX2_tick 5 (some .int) :: ALLW) ({ frames := 8, cells := 1, slots := 6, locals := 167 } : Room) (va_Pc [.ref (ax 0), .int p0] (preM E (wX E ax gx lt mo ad ln PL pf pw pk lw lk ik) hz)) (va_Qi (fun (r : Int32) (u : (Nat → Int32) × Option Nat × Int32 × Nat × Int32 × List Nat × (Nat → va_E) × (Nat → Int64) × Int32 × (Nat → Int64) × Int32 × (Nat → Int32)) => post r u.1 u.2.1 u.2.2.1 u.2.2.2.1 u.2.2.2.2.1 u.2.2.2.2.2.1 u.2.2.2.2.2.2.1 u.2.2.2.2.2.2.2.1 u.2.2.2.2.2.2.2.2.1 u.2.2.2.2.2.2.2.2.2.1 u.2.2.2.2.2.2.2.2.2.2.1 u.2.2.2.2.2.2.2.2.2.2.2) (fun (u : (Nat → Int32) × Option Nat × Int32 × Nat × Int32 × List Nat × (Nat → va_E) × (Nat → Int64) × Int32 × (Nat → Int64) × Int32 × (Nat → Int32)) t => va_P (eD E) vwCl (wX E ax u.1 u.2.1 u.2.2.1 u.2.2.2.1 u.2.2.2.2.1 u.2.2.2.2.2.1 u.2.2.2.2.2.2.1 u.2.2.2.2.2.2.2.1 u.2.2.2.2.2.2.2.2.1 u.2.2.2.2.2.2.2.2.2.1 u.2.2.2.2.2.2.2.2.2.2.1 u.2.2.2.2.2.2.2.2.2.2.2) t.heap ∧ va_D (va_A (wX E ax gx lt mo ad ln PL pf pw pk lw lk ik) hz) (wX E ax u.1 u.2.1 u.2.2.1 u.2.2.2.1 u.2.2.2.2.1 u.2.2.2.2.2.1 u.2.2.2.2.2.2.1 u.2.2.2.2.2.2.2.1 u.2.2.2.2.2.2.2.2.1 u.2.2.2.2.2.2.2.2.2.1 u.2.2.2.2.2.2.2.2.2.2.1 u.2.2.2.2.2.2.2.2.2.2.2)) (va_A (wX E ax gx lt mo ad ln PL pf pw pk lw lk ik) hz)) (vx_X (fun _ : Unit => True) (fun E9 (_ : Unit) t => postX E9 ∧ va_P (eD E) vwCl (wX E ax gx lt mo ad ln PL pf pw pk lw lk ik) t.heap ∧ va_D (va_A (wX E ax gx lt mo ad ln PL pf pw pk lw lk ik) hz) (wX E ax gx lt mo ad ln PL pf pw pk lw lk ik)) (va_A (wX E ax gx lt mo ad ln PL pf pw pk lw lk ik) hz)) 1 6 (va_A (wX E ax gx lt mo ad ln PL pf pw pk lw lk ik) hz) := by
  refine vx_ofW (cc := cX2_tick) (maxL := 5) (ret := (some .int)) (by decide) rfl ?_
  intro p e s m args below meth c s₁ B hml htab hv
  obtain ⟨rfl, hpre⟩ := hv
  have hx := B.exec
  have hb := B.bytes
  have hr := B.returns
  have hlocks := B.notSynchronized
  have hts := atoms_spec (ws := (Cond.code yX2_tick cX2_tick 5 (some .int) :: ALLW)) B.pre
  have hta : ∀ w ∈ ALLW, w.before ([.ref (ax 0), .int p0] : List Value).toArray s = true := fun w h => hts w (List.mem_cons_of_mem _ h)
  have hown : s.vm.findClass RX2 = some m.cls := findClass_of_methodNamed B.named
  obtain ⟨hsz, hP, hKE, hD0, hZ⟩ := hpre
  subst hsz
  have hD := hD0.self (sz := s.heap.size)
  generalize hAe : va_A (wX E ax gx lt mo ad ln PL pf pw pk lw lk ik) s.heap.size = A at hD hZ ⊢
  have hA : ∀ q : Nat, s.heap.size ≤ q → A q := fun q h => by rw [← hAe]; exact Or.inr h
  have hS : va_S A s.heap s.heap [] := va_S.rf
  have hP : va_P (eD E) vwCl ([((ax 0), .inr (3, [.ref (ax 1), .ref (ax 2), .ref (ax 4), .ref (ax 6), .int (gx 4), .int (gx 5), .int (gx 6), .int (gx 7), va_rf lt, .int (gx 9), .int (gx 10), .int (gx 11), .int (gx 12), .int (gx 13), .int (gx 14), .int (gx 15), .int (gx 16), .int (gx 17), .int (gx 18)])), ((ax 1), .inr (0, [.int mo, .ref ad, .int ln])), ((ax 2), .inr (2, [.ref (ax 3), .int pk])), ((ax 3), .inl (eC E 1, 157, .inr (.inl pw))), ((ax 4), .inr (2, [.ref (ax 5), .int lk])), ((ax 5), .inl (eC E 1, 157, .inr (.inl lw))), ((ax 6), .inl (eC E 0, 3, .inl ik))] ++ va_pl PL pf) s.heap := hP
  have hD : va_D A ([((ax 0), .inr (3, [.ref (ax 1), .ref (ax 2), .ref (ax 4), .ref (ax 6), .int (gx 4), .int (gx 5), .int (gx 6), .int (gx 7), va_rf lt, .int (gx 9), .int (gx 10), .int (gx 11), .int (gx 12), .int (gx 13), .int (gx 14), .int (gx 15), .int (gx 16), .int (gx 17), .int (gx 18)])), ((ax 1), .inr (0, [.int mo, .ref ad, .int ln])), ((ax 2), .inr (2, [.ref (ax 3), .int pk])), ((ax 3), .inl (eC E 1, 157, .inr (.inl pw))), ((ax 4), .inr (2, [.ref (ax 5), .int lk])), ((ax 5), .inl (eC E 1, 157, .inr (.inl lw))), ((ax 6), .inl (eC E 0, 3, .inl ik))] ++ va_pl PL pf) := hD
  have hl := lv_entry ([.ref (ax 0), .int p0]) (n := 5) (Nat.le_of_ble_eq_true rfl)
  rw [lg_entry_eq]
  generalize (lg_sl ([.ref (ax 0), .int p0]) ++ List.replicate (5 - (lg_sl ([.ref (ax 0), .int p0])).length) Slot.unset).toArray = ls at hl ⊢
  have hl : lv_has ls 5 [(0, .ref (ax 0)), (1, .int p0)] := hl
  have loop_37 : ∀ (n : Nat) (gx_L : Nat → Int32) (lt_L : Option Nat) (mo_L : Int32) (ad_L : Nat) (ln_L : Int32) (PL_L : List Nat) (pf_L : Nat → va_E) (pw_L : Nat → Int64) (pk_L : Int32) (lw_L : Nat → Int64) (lk_L : Int32) (ik_L : Nat → Int32) (x1 : Int32) (x2 : Int32) (x3 : Int32) (x4 : Int32), wp_X2_tick_L37 E post n gx_L lt_L mo_L ad_L ln_L PL_L pf_L pw_L pk_L lw_L lk_L ik_L x1 x2 x3 x4 → ∀ (H : Heap) (locs : List Loc), va_P (eD E) vwCl ([((ax 0), .inr (3, [.ref (ax 1), .ref (ax 2), .ref (ax 4), .ref (ax 6), .int (gx_L 4), .int (gx_L 5), .int (gx_L 6), .int (gx_L 7), va_rf lt_L, .int (gx_L 9), .int (gx_L 10), .int (gx_L 11), .int (gx_L 12), .int (gx_L 13), .int (gx_L 14), .int (gx_L 15), .int (gx_L 16), .int (gx_L 17), .int (gx_L 18)])), ((ax 1), .inr (0, [.int mo_L, .ref ad_L, .int ln_L])), ((ax 2), .inr (2, [.ref (ax 3), .int pk_L])), ((ax 3), .inl (eC E 1, 157, .inr (.inl pw_L))), ((ax 4), .inr (2, [.ref (ax 5), .int lk_L])), ((ax 5), .inl (eC E 1, 157, .inr (.inl lw_L))), ((ax 6), .inl (eC E 0, 3, .inl ik_L))] ++ va_pl PL_L pf_L) H → va_D A ([((ax 0), .inr (3, [.ref (ax 1), .ref (ax 2), .ref (ax 4), .ref (ax 6), .int (gx_L 4), .int (gx_L 5), .int (gx_L 6), .int (gx_L 7), va_rf lt_L, .int (gx_L 9), .int (gx_L 10), .int (gx_L 11), .int (gx_L 12), .int (gx_L 13), .int (gx_L 14), .int (gx_L 15), .int (gx_L 16), .int (gx_L 17), .int (gx_L 18)])), ((ax 1), .inr (0, [.int mo_L, .ref ad_L, .int ln_L])), ((ax 2), .inr (2, [.ref (ax 3), .int pk_L])), ((ax 3), .inl (eC E 1, 157, .inr (.inl pw_L))), ((ax 4), .inr (2, [.ref (ax 5), .int lk_L])), ((ax 5), .inl (eC E 1, 157, .inr (.inl lw_L))), ((ax 6), .inl (eC E 0, 3, .inl ik_L))] ++ va_pl PL_L pf_L) → va_S A s.heap H locs → ∀ (ls : Array Slot), lv_has ls 5 [(0, .ref (ax 0)), (1, .int x1), (2, .int x2), (3, .int x3), (4, .int x4)] → W p l e (headSpec (Cond.code yX2_tick cX2_tick 5 (some .int) :: ALLW) ({ frames := 8, cells := 1, slots := 6, locals := 167 } : Room)).room s m ([.ref (ax 0), .int p0] : List Value).toArray below meth c H locs 0 0 (vx_MQ below (va_Qi (fun (r : Int32) (u : (Nat → Int32) × Option Nat × Int32 × Nat × Int32 × List Nat × (Nat → va_E) × (Nat → Int64) × Int32 × (Nat → Int64) × Int32 × (Nat → Int32)) => post r u.1 u.2.1 u.2.2.1 u.2.2.2.1 u.2.2.2.2.1 u.2.2.2.2.2.1 u.2.2.2.2.2.2.1 u.2.2.2.2.2.2.2.1 u.2.2.2.2.2.2.2.2.1 u.2.2.2.2.2.2.2.2.2.1 u.2.2.2.2.2.2.2.2.2.2.1 u.2.2.2.2.2.2.2.2.2.2.2) (fun (u : (Nat → Int32) × Option Nat × Int32 × Nat × Int32 × List Nat × (Nat → va_E) × (Nat → Int64) × Int32 × (Nat → Int64) × Int32 × (Nat → Int32)) t => va_P (eD E) vwCl (wX E ax u.1 u.2.1 u.2.2.1 u.2.2.2.1 u.2.2.2.2.1 u.2.2.2.2.2.1 u.2.2.2.2.2.2.1 u.2.2.2.2.2.2.2.1 u.2.2.2.2.2.2.2.2.1 u.2.2.2.2.2.2.2.2.2.1 u.2.2.2.2.2.2.2.2.2.2.1 u.2.2.2.2.2.2.2.2.2.2.2) t.heap ∧ va_D A (wX E ax u.1 u.2.1 u.2.2.1 u.2.2.2.1 u.2.2.2.2.1 u.2.2.2.2.2.1 u.2.2.2.2.2.2.1 u.2.2.2.2.2.2.2.1 u.2.2.2.2.2.2.2.2.1 u.2.2.2.2.2.2.2.2.2.1 u.2.2.2.2.2.2.2.2.2.2.1 u.2.2.2.2.2.2.2.2.2.2.2)) A) (vx_X (fun _ : Unit => True) (fun E9 (_ : Unit) t => postX E9 ∧ va_P (eD E) vwCl (wX E ax gx lt mo ad ln PL pf pw pk lw lk ik) t.heap ∧ va_D A (wX E ax gx lt mo ad ln PL pf pw pk lw lk ik)) A) ([.ref (ax 0), .int p0] : List Value).toArray s 1 6 A) (F0 m 37 ls []) := by
    intro n
    induction n with
    | zero => intro gx_L lt_L mo_L ad_L ln_L PL_L pf_L pw_L pk_L lw_L lk_L ik_L x1 x2 x3 x4 hw; exact hw.elim
    | succ n ih =>
      intro gx_L lt_L mo_L ad_L ln_L PL_L pf_L pw_L pk_L lw_L lk_L ik_L x1 x2 x3 x4 hw H locs hP hD hS ls hl
      unfold wp_X2_tick_L37 at hw
      refine lv_iload hx hb dX2_tick_37 (lv_at hl 4 rfl) ?_
      refine lv_iload_n hx hb dX2_tick_39 rfl (lv_at hl 1 rfl) ?_
      refine lv_icmp_ge (tgt := 58) hx hb dX2_tick_40 (by decide) (fun c_641 => ?_) (fun c_641 => ?_)
      · have hw := hw.1 c_641
        refine lv_aload_n hx hb dX2_tick_58 rfl (lv_at hl 0 rfl) ?_
        refine va_get (D := eD E) (ci := 3) (v := .int (gx_L 17)) (C := RX2) (T := TX2) (N := 19) hx hb hta lay_X2 hown hKE.1 hP 0 rfl rfl 17 (by decide) (hta _ tw_84) (fun _ h9 => h9) rfl dX2_tick_59 ?_
        refine lv_aload_n hx hb dX2_tick_62 rfl (lv_at hl 0 rfl) ?_
        refine va_get (D := eD E) (ci := 3) (v := .int (gx_L 18)) (C := RX2) (T := TX2) (N := 19) hx hb hta lay_X2 hown hKE.1 hP 0 rfl rfl 18 (by decide) (hta _ tw_85) (fun _ h9 => h9) rfl dX2_tick_63 ?_
        refine lv_iadd hx hb dX2_tick_66 ?_
        refine lv_iload_n hx hb dX2_tick_67 rfl (lv_at hl 2 rfl) ?_
        refine lv_isub hx hb dX2_tick_68 ?_
        have hP9 : va_P (eD E) vwCl (wX E ax gx_L lt_L mo_L ad_L ln_L PL_L pf_L pw_L pk_L lw_L lk_L ik_L) H := hP
        have hD9 : va_D A (wX E ax gx_L lt_L mo_L ad_L ln_L PL_L pf_L pw_L pk_L lw_L lk_L ik_L) := hD
        refine W.widen (k := 1) (n := 6) (Nat.le_of_ble_eq_true rfl) (Nat.le_of_ble_eq_true rfl) ?_
        refine vx_ret ?_
        exact W.iret (v := (((gx_L 17) + (gx_L 18)) - x2)) hx hb hr (fun t ht hW => ⟨⟨(((gx_L 17) + (gx_L 18)) - x2), (gx_L, lt_L, mo_L, ad_L, ln_L, PL_L, pf_L, pw_L, pk_L, lw_L, lk_L, ik_L), rfl, hw, ⟨by rw [ht]; exact hP9, hD9⟩⟩, hS.F ht⟩) hS.2.2 dX2_tick_69
      · have hw := hw.2 c_641
        refine lv_iload_n hx hb dX2_tick_43 rfl (lv_at hl 3 rfl) ?_
        refine lv_if_eq (tgt := 58) hx hb dX2_tick_44 (by decide) (fun c_642 => ?_) (fun c_642 => ?_)
        · have hw := hw.1 c_642
          refine lv_aload_n hx hb dX2_tick_58 rfl (lv_at hl 0 rfl) ?_
          refine va_get (D := eD E) (ci := 3) (v := .int (gx_L 17)) (C := RX2) (T := TX2) (N := 19) hx hb hta lay_X2 hown hKE.1 hP 0 rfl rfl 17 (by decide) (hta _ tw_84) (fun _ h9 => h9) rfl dX2_tick_59 ?_
          refine lv_aload_n hx hb dX2_tick_62 rfl (lv_at hl 0 rfl) ?_
          refine va_get (D := eD E) (ci := 3) (v := .int (gx_L 18)) (C := RX2) (T := TX2) (N := 19) hx hb hta lay_X2 hown hKE.1 hP 0 rfl rfl 18 (by decide) (hta _ tw_85) (fun _ h9 => h9) rfl dX2_tick_63 ?_
          refine lv_iadd hx hb dX2_tick_66 ?_
          refine lv_iload_n hx hb dX2_tick_67 rfl (lv_at hl 2 rfl) ?_
          refine lv_isub hx hb dX2_tick_68 ?_
          have hP9 : va_P (eD E) vwCl (wX E ax gx_L lt_L mo_L ad_L ln_L PL_L pf_L pw_L pk_L lw_L lk_L ik_L) H := hP
          have hD9 : va_D A (wX E ax gx_L lt_L mo_L ad_L ln_L PL_L pf_L pw_L pk_L lw_L lk_L ik_L) := hD
          refine W.widen (k := 1) (n := 6) (Nat.le_of_ble_eq_true rfl) (Nat.le_of_ble_eq_true rfl) ?_
          refine vx_ret ?_
          exact W.iret (v := (((gx_L 17) + (gx_L 18)) - x2)) hx hb hr (fun t ht hW => ⟨⟨(((gx_L 17) + (gx_L 18)) - x2), (gx_L, lt_L, mo_L, ad_L, ln_L, PL_L, pf_L, pw_L, pk_L, lw_L, lk_L, ik_L), rfl, hw, ⟨by rw [ht]; exact hP9, hD9⟩⟩, hS.F ht⟩) hS.2.2 dX2_tick_69
        · have hw := hw.2 c_642
          refine lv_aload_n hx hb dX2_tick_47 rfl (lv_at hl 0 rfl) ?_
          have hPc : va_P (eD E) vwCl (wX E ax gx_L lt_L mo_L ad_L ln_L PL_L pf_L pw_L pk_L lw_L lk_L ik_L) H := hP
          have hDc : va_D A (wX E ax gx_L lt_L mo_L ad_L ln_L PL_L pf_L pw_L pk_L lw_L lk_L ik_L) := hD
          have hFc : ∀ q, va_A (wX E ax gx_L lt_L mo_L ad_L ln_L PL_L pf_L pw_L pk_L lw_L lk_L ik_L) H.size q → A q := frS hDc hS hA
          refine va_calli (va_runV (As := []) (rest := []) ⟨hx, hb, hml, hown, hta⟩ (c_X2_doTick E l ax gx_L lt_L mo_L ad_L ln_L PL_L pf_L pw_L pk_L lw_L lk_L ik_L H.size _ hw) (pcV (n := 0) hta tw_420 tw_417 tw_1 tw_419 tp_20 rfl rfl hd_X2_doTick ⟨Nat.le_of_ble_eq_true rfl, Nat.le_of_ble_eq_true rfl⟩) ⟨fbM, va_recv hKE.1 hP (ci := 3) (q0 := 0) rfl rfl, fun U hU hW => ⟨rfl, preM.mk hPc hKE hDc hZ hS hFc hU hW⟩⟩ rfl rfl hl.1 rfl (lv_room (Nat.le_of_ble_eq_true rfl)) dX2_tick_48 ⟨Nat.le_of_ble_eq_true rfl, Nat.le_of_ble_eq_true rfl⟩) hS (fun q _ h => hFc q h) hFc (fun r_643 u t H locs ht hvm hw hB hz1 hk1 hS => ?_)
          obtain ⟨gx_644, lt_645, mo_646, ad_647, ln_648, PL_649, pf_650, pw_651, pk_652, lw_653, lk_654, ik_655⟩ := u
          obtain ⟨hP1, hD1⟩ := hB
          rw [ht] at hP1
          try dsimp only at hw hP1 hD1
          have hP : va_P (eD E) vwCl ([((ax 0), .inr (3, [.ref (ax 1), .ref (ax 2), .ref (ax 4), .ref (ax 6), .int (gx_644 4), .int (gx_644 5), .int (gx_644 6), .int (gx_644 7), va_rf lt_645, .int (gx_644 9), .int (gx_644 10), .int (gx_644 11), .int (gx_644 12), .int (gx_644 13), .int (gx_644 14), .int (gx_644 15), .int (gx_644 16), .int (gx_644 17), .int (gx_644 18)])), ((ax 1), .inr (0, [.int mo_646, .ref ad_647, .int ln_648])), ((ax 2), .inr (2, [.ref (ax 3), .int pk_652])), ((ax 3), .inl (eC E 1, 157, .inr (.inl pw_651))), ((ax 4), .inr (2, [.ref (ax 5), .int lk_654])), ((ax 5), .inl (eC E 1, 157, .inr (.inl lw_653))), ((ax 6), .inl (eC E 0, 3, .inl ik_655))] ++ va_pl PL_649 pf_650) H := hP1
          have hD : va_D A ([((ax 0), .inr (3, [.ref (ax 1), .ref (ax 2), .ref (ax 4), .ref (ax 6), .int (gx_644 4), .int (gx_644 5), .int (gx_644 6), .int (gx_644 7), va_rf lt_645, .int (gx_644 9), .int (gx_644 10), .int (gx_644 11), .int (gx_644 12), .int (gx_644 13), .int (gx_644 14), .int (gx_644 15), .int (gx_644 16), .int (gx_644 17), .int (gx_644 18)])), ((ax 1), .inr (0, [.int mo_646, .ref ad_647, .int ln_648])), ((ax 2), .inr (2, [.ref (ax 3), .int pk_652])), ((ax 3), .inl (eC E 1, 157, .inr (.inl pw_651))), ((ax 4), .inr (2, [.ref (ax 5), .int lk_654])), ((ax 5), .inl (eC E 1, 157, .inr (.inl lw_653))), ((ax 6), .inl (eC E 0, 3, .inl ik_655))] ++ va_pl PL_649 pf_650) := hD1.weaken (fun _ q _ h => hFc q.1 h)
          refine lv_istore_n (lv' := [(3, .int r_643), (0, .ref (ax 0)), (1, .int x1), (2, .int x2), (4, .int x4)]) hx hb dX2_tick_51 rfl hl (by decide) rfl (fun ls hl => ?_)
          refine lv_iinc (v := (x4 + 1)) (lv' := [(4, .int (x4 + 1)), (3, .int r_643), (0, .ref (ax 0)), (1, .int x1), (2, .int x2)]) hx hb dX2_tick_52 hl (k := 4) rfl rfl (by decide) rfl (fun ls hl => ?_)
          refine lv_goto (tgt := 37) hx hb dX2_tick_55 (by decide) ?_
          exact ih gx_644 lt_645 mo_646 ad_647 ln_648 PL_649 pf_650 pw_651 pk_652 lw_653 lk_654 ik_655 x1 x2 r_643 (x4 + 1) hw _ _ hP hD hS ls (lv_sub hl [2, 3, 4, 1, 0] rfl)
  unfold wp_X2_tick at hw
  refine lv_iload_n hx hb dX2_tick_0 rfl (lv_at hl 1 rfl) ?_
  refine lv_iconst (v := 1) hx hb dX2_tick_1 (by decide) ?_
  refine lv_icmp_lt (tgt := 12) hx hb dX2_tick_2 (by decide) (fun c_639 => ?_) (fun c_639 => ?_)
  · have hw := hw.1 c_639
    have hP9 : va_P (eD E) vwCl (wX E ax gx lt mo ad ln PL pf pw pk lw lk ik) s.heap := hP
    have hD9 : va_D A (wX E ax gx lt mo ad ln PL pf pw pk lw lk ik) := hD
    exact vx_throwS (own := RX2) (cls := sIA) (text := "ticks are 1 to 1000") (names := nmE) hx hb hst hown fit_ia fit_E (hta _ tw_238) (hta _ tw_13) hKE.2.2.2.2.2.1.2.2.1 (hat_ia hta hKE) ot_ia hZ.2.2.1 hZ.2.2.2 hS (hl.1.trans hml.symm) dX2_tick_12 dX2_tick_15 dX2_tick_16 dX2_tick_18 dX2_tick_21 (fun x hx9 => (htab x hx9).elim) (Nat.le_of_ble_eq_true rfl) (Nat.le_of_ble_eq_true rfl) (Nat.le_of_ble_eq_true rfl) (Nat.le_of_ble_eq_true rfl) hlocks (fun t hal hz hk => ⟨(), trivial, ⟨hw, hP9.kept (fun k q hq => hk q.1 (hP9 k q hq).lt), hD9⟩, Nat.le_trans hS.1 hz, fun q h1 h2 => (hk q (Nat.lt_of_lt_of_le h1 hS.1)).trans (hS.2.1 q h1 h2)⟩) hS.2.2 (Nat.le_of_ble_eq_true rfl) (Nat.le_of_ble_eq_true rfl)
  · have hw := hw.2 c_639
    refine lv_iload_n hx hb dX2_tick_5 rfl (lv_at hl 1 rfl) ?_
    refine lv_sipush (v := 1000) hx hb dX2_tick_6 (by decide) ?_
    refine lv_icmp_le (tgt := 22) hx hb dX2_tick_9 (by decide) (fun c_640 => ?_) (fun c_640 => ?_)
    · have hw := hw.1 c_640
      refine lv_aload_n hx hb dX2_tick_22 rfl (lv_at hl 0 rfl) ?_
      refine va_get (D := eD E) (ci := 3) (v := .int (gx 17)) (C := RX2) (T := TX2) (N := 19) hx hb hta lay_X2 hown hKE.1 hP 0 rfl rfl 17 (by decide) (hta _ tw_84) (fun _ h9 => h9) rfl dX2_tick_23 ?_
      refine lv_aload_n hx hb dX2_tick_26 rfl (lv_at hl 0 rfl) ?_
      refine va_get (D := eD E) (ci := 3) (v := .int (gx 18)) (C := RX2) (T := TX2) (N := 19) hx hb hta lay_X2 hown hKE.1 hP 0 rfl rfl 18 (by decide) (hta _ tw_85) (fun _ h9 => h9) rfl dX2_tick_27 ?_
      refine lv_iadd hx hb dX2_tick_30 ?_
      refine lv_istore_n (lv' := [(2, .int ((gx 17) + (gx 18))), (0, .ref (ax 0)), (1, .int p0)]) hx hb dX2_tick_31 rfl hl (by decide) rfl (fun ls hl => ?_)
      refine lv_iconst (v := 1) hx hb dX2_tick_32 (by decide) ?_
      refine lv_istore_n (lv' := [(3, .int 1), (2, .int ((gx 17) + (gx 18))), (0, .ref (ax 0)), (1, .int p0)]) hx hb dX2_tick_33 rfl hl (by decide) rfl (fun ls hl => ?_)
      refine lv_iconst (v := 0) hx hb dX2_tick_34 (by decide) ?_
      refine lv_istore (lv' := [(4, .int 0), (3, .int 1), (2, .int ((gx 17) + (gx 18))), (0, .ref (ax 0)), (1, .int p0)]) hx hb dX2_tick_35 hl (by decide) rfl (fun ls hl => ?_)
      obtain ⟨n_656, hw⟩ := hw
      exact loop_37 n_656 gx lt mo ad ln PL pf pw pk lw lk ik p0 ((gx 17) + (gx 18)) 1 0 hw _ _ hP hD hS ls (lv_sub hl [3, 4, 2, 1, 0] rfl)
    · have hw := hw.2 c_640
      have hP9 : va_P (eD E) vwCl (wX E ax gx lt mo ad ln PL pf pw pk lw lk ik) s.heap := hP
      have hD9 : va_D A (wX E ax gx lt mo ad ln PL pf pw pk lw lk ik) := hD
      exact vx_throwS (own := RX2) (cls := sIA) (text := "ticks are 1 to 1000") (names := nmE) hx hb hst hown fit_ia fit_E (hta _ tw_238) (hta _ tw_13) hKE.2.2.2.2.2.1.2.2.1 (hat_ia hta hKE) ot_ia hZ.2.2.1 hZ.2.2.2 hS (hl.1.trans hml.symm) dX2_tick_12 dX2_tick_15 dX2_tick_16 dX2_tick_18 dX2_tick_21 (fun x hx9 => (htab x hx9).elim) (Nat.le_of_ble_eq_true rfl) (Nat.le_of_ble_eq_true rfl) (Nat.le_of_ble_eq_true rfl) (Nat.le_of_ble_eq_true rfl) hlocks (fun t hal hz hk => ⟨(), trivial, ⟨hw, hP9.kept (fun k q hq => hk q.1 (hP9 k q hq).lt), hD9⟩, Nat.le_trans hS.1 hz, fun q h1 h2 => (hk q (Nat.lt_of_lt_of_le h1 hS.1)).trans (hS.2.1 q h1 h2)⟩) hS.2.2 (Nat.le_of_ble_eq_true rfl) (Nat.le_of_ble_eq_true rfl)
def wp_X2_refill (E : EV) (post : Int32 → (Nat → Int32) → Option Nat → Int32 → Nat → Int32 → List Nat → (Nat → va_E) → (Nat → Int64) → Int32 → (Nat → Int64) → Int32 → (Nat → Int32) → Prop) (postX : String → Prop) (gx : Nat → Int32) (lt : Option Nat) (mo : Int32) (ad : Nat) (ln : Int32) (PL : List Nat) (pf : Nat → va_E) (pw : Nat → Int64) (pk : Int32) (lw : Nat → Int64) (lk : Int32) (ik : Nat → Int32) (p0 : Int32) : Prop := (wp_X2_hasPen E (fun r_657 : Int32 => ((r_657 = 0 → postX sIB) ∧ (¬ (r_657 = 0) → (wp_X2_inkOf E (fun r_659 : Int32 => (wp_X2_setInk E (fun (gx_661 : Nat → Int32) (lt_662 : Option Nat) (mo_663 : Int32) (ad_664 : Nat) (ln_665 : Int32) (PL_666 : List Nat) (pf_667 : Nat → va_E) (pw_668 : Nat → Int64) (pk_669 : Int32) (lw_670 : Nat → Int64) (lk_671 : Int32) (ik_672 : Nat → Int32) => post r_659 gx_661 lt_662 mo_663 ad_664 ln_665 PL_666 pf_667 pw_668 pk_669 lw_670 lk_671 ik_672) gx lt mo ad ln PL pf pw pk lw lk ik p0 500)) gx lt mo ad ln PL pf pw pk lw lk ik p0)))) p0)
set_option maxHeartbeats 4000000 in
set_option maxRecDepth 100000 in
theorem c_X2_refill (E : EV) (l : Launch) (ax : Nat → Nat) (gx : Nat → Int32) (lt : Option Nat) (mo : Int32) (ad : Nat) (ln : Int32) (PL : List Nat) (pf : Nat → va_E) (pw : Nat → Int64) (pk : Int32) (lw : Nat → Int64) (lk : Int32) (ik : Nat → Int32) (p0 : Int32) (hz : Nat) (post : Int32 → (Nat → Int32) → Option Nat → Int32 → Nat → Int32 → List Nat → (Nat → va_E) → (Nat → Int64) → Int32 → (Nat → Int64) → Int32 → (Nat → Int32) → Prop) (postX : String → Prop) (hw : wp_X2_refill E post postX gx lt mo ad ln PL pf pw pk lw lk ik p0) (hst : l.stackTraces = false) : vx_Met l yX2_refill (Cond.code yX2_refill cX2_refill 3 (some .int) :: ALLW) ({ frames := 7, cells := 1, slots := 6, locals := 120 } : Room) (va_Pc [.ref (ax 0), .int p0] (preM E (wX E ax gx lt mo ad ln PL pf pw pk lw lk ik) hz)) (va_Qi (fun (r : Int32) (u : (Nat → Int32) × Option Nat × Int32 × Nat × Int32 × List Nat × (Nat → va_E) × (Nat → Int64) × Int32 × (Nat → Int64) × Int32 × (Nat → Int32)) => post r u.1 u.2.1 u.2.2.1 u.2.2.2.1 u.2.2.2.2.1 u.2.2.2.2.2.1 u.2.2.2.2.2.2.1 u.2.2.2.2.2.2.2.1 u.2.2.2.2.2.2.2.2.1 u.2.2.2.2.2.2.2.2.2.1 u.2.2.2.2.2.2.2.2.2.2.1 u.2.2.2.2.2.2.2.2.2.2.2) (fun (u : (Nat → Int32) × Option Nat × Int32 × Nat × Int32 × List Nat × (Nat → va_E) × (Nat → Int64) × Int32 × (Nat → Int64) × Int32 × (Nat → Int32)) t => va_P (eD E) vwCl (wX E ax u.1 u.2.1 u.2.2.1 u.2.2.2.1 u.2.2.2.2.1 u.2.2.2.2.2.1 u.2.2.2.2.2.2.1 u.2.2.2.2.2.2.2.1 u.2.2.2.2.2.2.2.2.1 u.2.2.2.2.2.2.2.2.2.1 u.2.2.2.2.2.2.2.2.2.2.1 u.2.2.2.2.2.2.2.2.2.2.2) t.heap ∧ va_D (va_A (wX E ax gx lt mo ad ln PL pf pw pk lw lk ik) hz) (wX E ax u.1 u.2.1 u.2.2.1 u.2.2.2.1 u.2.2.2.2.1 u.2.2.2.2.2.1 u.2.2.2.2.2.2.1 u.2.2.2.2.2.2.2.1 u.2.2.2.2.2.2.2.2.1 u.2.2.2.2.2.2.2.2.2.1 u.2.2.2.2.2.2.2.2.2.2.1 u.2.2.2.2.2.2.2.2.2.2.2)) (va_A (wX E ax gx lt mo ad ln PL pf pw pk lw lk ik) hz)) (vx_X (fun _ : Unit => True) (fun E9 (_ : Unit) t => postX E9 ∧ va_P (eD E) vwCl (wX E ax gx lt mo ad ln PL pf pw pk lw lk ik) t.heap ∧ va_D (va_A (wX E ax gx lt mo ad ln PL pf pw pk lw lk ik) hz) (wX E ax gx lt mo ad ln PL pf pw pk lw lk ik)) (va_A (wX E ax gx lt mo ad ln PL pf pw pk lw lk ik) hz)) 1 6 (va_A (wX E ax gx lt mo ad ln PL pf pw pk lw lk ik) hz) := by
  refine vx_ofW (cc := cX2_refill) (maxL := 3) (ret := (some .int)) (by decide) rfl ?_
  intro p e s m args below meth c s₁ B hml htab hv
  obtain ⟨rfl, hpre⟩ := hv
  have hx := B.exec
  have hb := B.bytes
  have hr := B.returns
  have hlocks := B.notSynchronized
  have hts := atoms_spec (ws := (Cond.code yX2_refill cX2_refill 3 (some .int) :: ALLW)) B.pre
  have hta : ∀ w ∈ ALLW, w.before ([.ref (ax 0), .int p0] : List Value).toArray s = true := fun w h => hts w (List.mem_cons_of_mem _ h)
  have hown : s.vm.findClass RX2 = some m.cls := findClass_of_methodNamed B.named
  obtain ⟨hsz, hP, hKE, hD0, hZ⟩ := hpre
  subst hsz
  have hD := hD0.self (sz := s.heap.size)
  generalize hAe : va_A (wX E ax gx lt mo ad ln PL pf pw pk lw lk ik) s.heap.size = A at hD hZ ⊢
  have hA : ∀ q : Nat, s.heap.size ≤ q → A q := fun q h => by rw [← hAe]; exact Or.inr h
  have hS : va_S A s.heap s.heap [] := va_S.rf
  have hP : va_P (eD E) vwCl ([((ax 0), .inr (3, [.ref (ax 1), .ref (ax 2), .ref (ax 4), .ref (ax 6), .int (gx 4), .int (gx 5), .int (gx 6), .int (gx 7), va_rf lt, .int (gx 9), .int (gx 10), .int (gx 11), .int (gx 12), .int (gx 13), .int (gx 14), .int (gx 15), .int (gx 16), .int (gx 17), .int (gx 18)])), ((ax 1), .inr (0, [.int mo, .ref ad, .int ln])), ((ax 2), .inr (2, [.ref (ax 3), .int pk])), ((ax 3), .inl (eC E 1, 157, .inr (.inl pw))), ((ax 4), .inr (2, [.ref (ax 5), .int lk])), ((ax 5), .inl (eC E 1, 157, .inr (.inl lw))), ((ax 6), .inl (eC E 0, 3, .inl ik))] ++ va_pl PL pf) s.heap := hP
  have hD : va_D A ([((ax 0), .inr (3, [.ref (ax 1), .ref (ax 2), .ref (ax 4), .ref (ax 6), .int (gx 4), .int (gx 5), .int (gx 6), .int (gx 7), va_rf lt, .int (gx 9), .int (gx 10), .int (gx 11), .int (gx 12), .int (gx 13), .int (gx 14), .int (gx 15), .int (gx 16), .int (gx 17), .int (gx 18)])), ((ax 1), .inr (0, [.int mo, .ref ad, .int ln])), ((ax 2), .inr (2, [.ref (ax 3), .int pk])), ((ax 3), .inl (eC E 1, 157, .inr (.inl pw))), ((ax 4), .inr (2, [.ref (ax 5), .int lk])), ((ax 5), .inl (eC E 1, 157, .inr (.inl lw))), ((ax 6), .inl (eC E 0, 3, .inl ik))] ++ va_pl PL pf) := hD
  have hl := lv_entry ([.ref (ax 0), .int p0]) (n := 3) (Nat.le_of_ble_eq_true rfl)
  rw [lg_entry_eq]
  generalize (lg_sl ([.ref (ax 0), .int p0]) ++ List.replicate (3 - (lg_sl ([.ref (ax 0), .int p0])).length) Slot.unset).toArray = ls at hl ⊢
  have hl : lv_has ls 3 [(0, .ref (ax 0)), (1, .int p0)] := hl
  unfold wp_X2_refill at hw
  refine lv_iload_n hx hb dX2_refill_0 rfl (lv_at hl 1 rfl) ?_
  have hPc : va_P (eD E) vwCl [] s.heap := va_P_nil
  refine vp_callSi (va_Run.run (va_runS (As := [.int p0]) (rest := []) ⟨hx, hb, hml, hown, hta⟩ (c_X2_hasPen E l p0 _ hw) (pcS (n := 1) hta tw_144 tw_142 tw_1 tw_143 rfl rfl hd_X2_hasPen ⟨Nat.le_of_ble_eq_true rfl, Nat.le_of_ble_eq_true rfl⟩) ⟨fbR, fun U hU hW => ⟨rfl, preR.mk hPc hKE hU hW⟩⟩ rfl rfl hl.1 rfl (lv_room (Nat.le_of_ble_eq_true rfl)) dX2_refill_1 ⟨Nat.le_of_ble_eq_true rfl, Nat.le_of_ble_eq_true rfl⟩)) (fun r_657 hw => ?_)
  refine lv_if_ne (tgt := 17) hx hb dX2_refill_4 (by decide) (fun c_658 => ?_) (fun c_658 => ?_)
  · have hw := hw.2 c_658
    refine lv_aload_n hx hb dX2_refill_17 rfl (lv_at hl 0 rfl) ?_
    refine lv_iload_n hx hb dX2_refill_18 rfl (lv_at hl 1 rfl) ?_
    have hPc : va_P (eD E) vwCl (wX E ax gx lt mo ad ln PL pf pw pk lw lk ik) s.heap := hP
    refine vp_callSi (va_Run.run (va_runV (As := [.int p0]) (rest := []) ⟨hx, hb, hml, hown, hta⟩ (c_X2_inkOf E l ax gx lt mo ad ln PL pf pw pk lw lk ik p0 _ hw) (pcV (n := 1) hta tw_215 tw_212 tw_1 tw_214 tp_1 rfl rfl hd_X2_inkOf ⟨Nat.le_of_ble_eq_true rfl, Nat.le_of_ble_eq_true rfl⟩) ⟨fbR, va_recv hKE.1 hP (ci := 3) (q0 := 0) rfl rfl, fun U hU hW => ⟨rfl, preR.mk hPc hKE hU hW⟩⟩ rfl rfl hl.1 rfl (lv_room (Nat.le_of_ble_eq_true rfl)) dX2_refill_19 ⟨Nat.le_of_ble_eq_true rfl, Nat.le_of_ble_eq_true rfl⟩)) (fun r_659 hw => ?_)
    refine lv_istore_n (lv' := [(2, .int r_659), (0, .ref (ax 0)), (1, .int p0)]) hx hb dX2_refill_22 rfl hl (by decide) rfl (fun ls hl => ?_)
    refine lv_aload_n hx hb dX2_refill_23 rfl (lv_at hl 1 rfl) ?_
    refine lv_iload_n hx hb dX2_refill_24 rfl (lv_at hl 2 rfl) ?_
    refine lv_sipush (v := 500) hx hb dX2_refill_25 (by decide) ?_
    have hPc : va_P (eD E) vwCl (wX E ax gx lt mo ad ln PL pf pw pk lw lk ik) s.heap := hP
    have hDc : va_D A (wX E ax gx lt mo ad ln PL pf pw pk lw lk ik) := hD
    have hFc : ∀ q, va_A (wX E ax gx lt mo ad ln PL pf pw pk lw lk ik) s.heap.size q → A q := frS hDc hS hA
    refine va_callv (va_runV (As := [.int p0, .int 500]) (rest := []) ⟨hx, hb, hml, hown, hta⟩ (c_X2_setInk E l ax gx lt mo ad ln PL pf pw pk lw lk ik p0 500 s.heap.size _ hw) (pcV (n := 2) hta tw_487 tw_484 tw_1 tw_486 tp_31 rfl rfl hd_X2_setInk ⟨Nat.le_of_ble_eq_true rfl, Nat.le_of_ble_eq_true rfl⟩) ⟨fbM, va_recv hKE.1 hP (ci := 3) (q0 := 0) rfl rfl, fun U hU hW => ⟨rfl, preM.mk hPc hKE hDc hZ hS hFc hU hW⟩⟩ rfl rfl hl.1 rfl (lv_room (Nat.le_of_ble_eq_true rfl)) dX2_refill_28 ⟨Nat.le_of_ble_eq_true rfl, Nat.le_of_ble_eq_true rfl⟩) hS (fun q _ h => hFc q h) hFc (fun u t H locs ht hvm hw hB hz1 hk1 hS => ?_)
    obtain ⟨gx_661, lt_662, mo_663, ad_664, ln_665, PL_666, pf_667, pw_668, pk_669, lw_670, lk_671, ik_672⟩ := u
    obtain ⟨hP1, hD1⟩ := hB
    rw [ht] at hP1
    try dsimp only at hw hP1 hD1
    have hP : va_P (eD E) vwCl ([((ax 0), .inr (3, [.ref (ax 1), .ref (ax 2), .ref (ax 4), .ref (ax 6), .int (gx_661 4), .int (gx_661 5), .int (gx_661 6), .int (gx_661 7), va_rf lt_662, .int (gx_661 9), .int (gx_661 10), .int (gx_661 11), .int (gx_661 12), .int (gx_661 13), .int (gx_661 14), .int (gx_661 15), .int (gx_661 16), .int (gx_661 17), .int (gx_661 18)])), ((ax 1), .inr (0, [.int mo_663, .ref ad_664, .int ln_665])), ((ax 2), .inr (2, [.ref (ax 3), .int pk_669])), ((ax 3), .inl (eC E 1, 157, .inr (.inl pw_668))), ((ax 4), .inr (2, [.ref (ax 5), .int lk_671])), ((ax 5), .inl (eC E 1, 157, .inr (.inl lw_670))), ((ax 6), .inl (eC E 0, 3, .inl ik_672))] ++ va_pl PL_666 pf_667) H := hP1
    have hD : va_D A ([((ax 0), .inr (3, [.ref (ax 1), .ref (ax 2), .ref (ax 4), .ref (ax 6), .int (gx_661 4), .int (gx_661 5), .int (gx_661 6), .int (gx_661 7), va_rf lt_662, .int (gx_661 9), .int (gx_661 10), .int (gx_661 11), .int (gx_661 12), .int (gx_661 13), .int (gx_661 14), .int (gx_661 15), .int (gx_661 16), .int (gx_661 17), .int (gx_661 18)])), ((ax 1), .inr (0, [.int mo_663, .ref ad_664, .int ln_665])), ((ax 2), .inr (2, [.ref (ax 3), .int pk_669])), ((ax 3), .inl (eC E 1, 157, .inr (.inl pw_668))), ((ax 4), .inr (2, [.ref (ax 5), .int lk_671])), ((ax 5), .inl (eC E 1, 157, .inr (.inl lw_670))), ((ax 6), .inl (eC E 0, 3, .inl ik_672))] ++ va_pl PL_666 pf_667) := hD1.weaken (fun _ q _ h => hFc q.1 h)
    refine lv_iload_n hx hb dX2_refill_31 rfl (lv_at hl 0 rfl) ?_
    have hP9 : va_P (eD E) vwCl (wX E ax gx_661 lt_662 mo_663 ad_664 ln_665 PL_666 pf_667 pw_668 pk_669 lw_670 lk_671 ik_672) H := hP
    have hD9 : va_D A (wX E ax gx_661 lt_662 mo_663 ad_664 ln_665 PL_666 pf_667 pw_668 pk_669 lw_670 lk_671 ik_672) := hD
    refine W.widen (k := 1) (n := 6) (Nat.le_of_ble_eq_true rfl) (Nat.le_of_ble_eq_true rfl) ?_
    refine vx_ret ?_
    exact W.iret (v := r_659) hx hb hr (fun t ht hW => ⟨⟨r_659, (gx_661, lt_662, mo_663, ad_664, ln_665, PL_666, pf_667, pw_668, pk_669, lw_670, lk_671, ik_672), rfl, hw, ⟨by rw [ht]; exact hP9, hD9⟩⟩, hS.F ht⟩) hS.2.2 dX2_refill_32
  · have hw := hw.1 c_658
    have hP9 : va_P (eD E) vwCl (wX E ax gx lt mo ad ln PL pf pw pk lw lk ik) s.heap := hP
    have hD9 : va_D A (wX E ax gx lt mo ad ln PL pf pw pk lw lk ik) := hD
    exact vx_throwS (own := RX2) (cls := sIB) (text := "a pen is 0 to 2") (names := nmE) hx hb hst hown fit_ib fit_E (hta _ tw_145) (hta _ tw_12) hKE.2.2.2.2.2.1.1 (hat_ib hta hKE) ot_ib hZ.2.2.1 hZ.2.2.2 hS (hl.1.trans hml.symm) dX2_refill_7 dX2_refill_10 dX2_refill_11 dX2_refill_13 dX2_refill_16 (fun x hx9 => (htab x hx9).elim) (Nat.le_of_ble_eq_true rfl) (Nat.le_of_ble_eq_true rfl) (Nat.le_of_ble_eq_true rfl) (Nat.le_of_ble_eq_true rfl) hlocks (fun t hal hz hk => ⟨(), trivial, ⟨hw, hP9.kept (fun k q hq => hk q.1 (hP9 k q hq).lt), hD9⟩, Nat.le_trans hS.1 hz, fun q h1 h2 => (hk q (Nat.lt_of_lt_of_le h1 hS.1)).trans (hS.2.1 q h1 h2)⟩) hS.2.2 (Nat.le_of_ble_eq_true rfl) (Nat.le_of_ble_eq_true rfl)
def wp_X2_pour (E : EV) (post : Int32 → (Nat → Int32) → Option Nat → Int32 → Nat → Int32 → List Nat → (Nat → va_E) → (Nat → Int64) → Int32 → (Nat → Int64) → Int32 → (Nat → Int32) → Prop) (postX : String → Prop) (gx : Nat → Int32) (lt : Option Nat) (mo : Int32) (ad : Nat) (ln : Int32) (PL : List Nat) (pf : Nat → va_E) (pw : Nat → Int64) (pk : Int32) (lw : Nat → Int64) (lk : Int32) (ik : Nat → Int32) (p0 : Int32) (p1 : Int32) : Prop := (wp_X2_hasPen E (fun r_673 : Int32 => ((r_673 = 0 → postX sIB) ∧ (¬ (r_673 = 0) → ((p1 < 1 → postX sIA) ∧ (¬ (p1 < 1) → ((p1 ≤ 500 → (wp_X2_inkOf E (fun r_677 : Int32 => (wp_X2_setInk E (fun (gx_679 : Nat → Int32) (lt_680 : Option Nat) (mo_681 : Int32) (ad_682 : Nat) (ln_683 : Int32) (PL_684 : List Nat) (pf_685 : Nat → va_E) (pw_686 : Nat → Int64) (pk_687 : Int32) (lw_688 : Nat → Int64) (lk_689 : Int32) (ik_690 : Nat → Int32) => post (if 0 < (r_677 - p1) then (r_677 - p1) else 0) gx_679 lt_680 mo_681 ad_682 ln_683 PL_684 pf_685 pw_686 pk_687 lw_688 lk_689 ik_690) gx lt mo ad ln PL pf pw pk lw lk ik p0 (if 0 < (r_677 - p1) then (r_677 - p1) else 0))) gx lt mo ad ln PL pf pw pk lw lk ik p0)) ∧ (¬ (p1 ≤ 500) → postX sIA))))))) p0)
set_option maxHeartbeats 4000000 in
set_option maxRecDepth 100000 in
theorem c_X2_pour (E : EV) (l : Launch) (ax : Nat → Nat) (gx : Nat → Int32) (lt : Option Nat) (mo : Int32) (ad : Nat) (ln : Int32) (PL : List Nat) (pf : Nat → va_E) (pw : Nat → Int64) (pk : Int32) (lw : Nat → Int64) (lk : Int32) (ik : Nat → Int32) (p0 : Int32) (p1 : Int32) (hz : Nat) (post : Int32 → (Nat → Int32) → Option Nat → Int32 → Nat → Int32 → List Nat → (Nat → va_E) → (Nat → Int64) → Int32 → (Nat → Int64) → Int32 → (Nat → Int32) → Prop) (postX : String → Prop) (hw : wp_X2_pour E post postX gx lt mo ad ln PL pf pw pk lw lk ik p0 p1) (hst : l.stackTraces = false) : vx_Met l yX2_pour (Cond.code yX2_pour cX2_pour 4 (some .int) :: ALLW) ({ frames := 7, cells := 1, slots := 6, locals := 120 } : Room) (va_Pc [.ref (ax 0), .int p0, .int p1] (preM E (wX E ax gx lt mo ad ln PL pf pw pk lw lk ik) hz)) (va_Qi (fun (r : Int32) (u : (Nat → Int32) × Option Nat × Int32 × Nat × Int32 × List Nat × (Nat → va_E) × (Nat → Int64) × Int32 × (Nat → Int64) × Int32 × (Nat → Int32)) => post r u.1 u.2.1 u.2.2.1 u.2.2.2.1 u.2.2.2.2.1 u.2.2.2.2.2.1 u.2.2.2.2.2.2.1 u.2.2.2.2.2.2.2.1 u.2.2.2.2.2.2.2.2.1 u.2.2.2.2.2.2.2.2.2.1 u.2.2.2.2.2.2.2.2.2.2.1 u.2.2.2.2.2.2.2.2.2.2.2) (fun (u : (Nat → Int32) × Option Nat × Int32 × Nat × Int32 × List Nat × (Nat → va_E) × (Nat → Int64) × Int32 × (Nat → Int64) × Int32 × (Nat → Int32)) t => va_P (eD E) vwCl (wX E ax u.1 u.2.1 u.2.2.1 u.2.2.2.1 u.2.2.2.2.1 u.2.2.2.2.2.1 u.2.2.2.2.2.2.1 u.2.2.2.2.2.2.2.1 u.2.2.2.2.2.2.2.2.1 u.2.2.2.2.2.2.2.2.2.1 u.2.2.2.2.2.2.2.2.2.2.1 u.2.2.2.2.2.2.2.2.2.2.2) t.heap ∧ va_D (va_A (wX E ax gx lt mo ad ln PL pf pw pk lw lk ik) hz) (wX E ax u.1 u.2.1 u.2.2.1 u.2.2.2.1 u.2.2.2.2.1 u.2.2.2.2.2.1 u.2.2.2.2.2.2.1 u.2.2.2.2.2.2.2.1 u.2.2.2.2.2.2.2.2.1 u.2.2.2.2.2.2.2.2.2.1 u.2.2.2.2.2.2.2.2.2.2.1 u.2.2.2.2.2.2.2.2.2.2.2)) (va_A (wX E ax gx lt mo ad ln PL pf pw pk lw lk ik) hz)) (vx_X (fun _ : Unit => True) (fun E9 (_ : Unit) t => postX E9 ∧ va_P (eD E) vwCl (wX E ax gx lt mo ad ln PL pf pw pk lw lk ik) t.heap ∧ va_D (va_A (wX E ax gx lt mo ad ln PL pf pw pk lw lk ik) hz) (wX E ax gx lt mo ad ln PL pf pw pk lw lk ik)) (va_A (wX E ax gx lt mo ad ln PL pf pw pk lw lk ik) hz)) 1 6 (va_A (wX E ax gx lt mo ad ln PL pf pw pk lw lk ik) hz) := by
  refine vx_ofW (cc := cX2_pour) (maxL := 4) (ret := (some .int)) (by decide) rfl ?_
  intro p e s m args below meth c s₁ B hml htab hv
  obtain ⟨rfl, hpre⟩ := hv
  have hx := B.exec
  have hb := B.bytes
  have hr := B.returns
  have hlocks := B.notSynchronized
  have hts := atoms_spec (ws := (Cond.code yX2_pour cX2_pour 4 (some .int) :: ALLW)) B.pre
  have hta : ∀ w ∈ ALLW, w.before ([.ref (ax 0), .int p0, .int p1] : List Value).toArray s = true := fun w h => hts w (List.mem_cons_of_mem _ h)
  have hown : s.vm.findClass RX2 = some m.cls := findClass_of_methodNamed B.named
  obtain ⟨hsz, hP, hKE, hD0, hZ⟩ := hpre
  subst hsz
  have hD := hD0.self (sz := s.heap.size)
  generalize hAe : va_A (wX E ax gx lt mo ad ln PL pf pw pk lw lk ik) s.heap.size = A at hD hZ ⊢
  have hA : ∀ q : Nat, s.heap.size ≤ q → A q := fun q h => by rw [← hAe]; exact Or.inr h
  have hS : va_S A s.heap s.heap [] := va_S.rf
  have hP : va_P (eD E) vwCl ([((ax 0), .inr (3, [.ref (ax 1), .ref (ax 2), .ref (ax 4), .ref (ax 6), .int (gx 4), .int (gx 5), .int (gx 6), .int (gx 7), va_rf lt, .int (gx 9), .int (gx 10), .int (gx 11), .int (gx 12), .int (gx 13), .int (gx 14), .int (gx 15), .int (gx 16), .int (gx 17), .int (gx 18)])), ((ax 1), .inr (0, [.int mo, .ref ad, .int ln])), ((ax 2), .inr (2, [.ref (ax 3), .int pk])), ((ax 3), .inl (eC E 1, 157, .inr (.inl pw))), ((ax 4), .inr (2, [.ref (ax 5), .int lk])), ((ax 5), .inl (eC E 1, 157, .inr (.inl lw))), ((ax 6), .inl (eC E 0, 3, .inl ik))] ++ va_pl PL pf) s.heap := hP
  have hD : va_D A ([((ax 0), .inr (3, [.ref (ax 1), .ref (ax 2), .ref (ax 4), .ref (ax 6), .int (gx 4), .int (gx 5), .int (gx 6), .int (gx 7), va_rf lt, .int (gx 9), .int (gx 10), .int (gx 11), .int (gx 12), .int (gx 13), .int (gx 14), .int (gx 15), .int (gx 16), .int (gx 17), .int (gx 18)])), ((ax 1), .inr (0, [.int mo, .ref ad, .int ln])), ((ax 2), .inr (2, [.ref (ax 3), .int pk])), ((ax 3), .inl (eC E 1, 157, .inr (.inl pw))), ((ax 4), .inr (2, [.ref (ax 5), .int lk])), ((ax 5), .inl (eC E 1, 157, .inr (.inl lw))), ((ax 6), .inl (eC E 0, 3, .inl ik))] ++ va_pl PL pf) := hD
  have hl := lv_entry ([.ref (ax 0), .int p0, .int p1]) (n := 4) (Nat.le_of_ble_eq_true rfl)
  rw [lg_entry_eq]
  generalize (lg_sl ([.ref (ax 0), .int p0, .int p1]) ++ List.replicate (4 - (lg_sl ([.ref (ax 0), .int p0, .int p1])).length) Slot.unset).toArray = ls at hl ⊢
  have hl : lv_has ls 4 [(0, .ref (ax 0)), (1, .int p0), (2, .int p1)] := hl
  unfold wp_X2_pour at hw
  refine lv_iload_n hx hb dX2_pour_0 rfl (lv_at hl 1 rfl) ?_
  have hPc : va_P (eD E) vwCl [] s.heap := va_P_nil
  refine vp_callSi (va_Run.run (va_runS (As := [.int p0]) (rest := []) ⟨hx, hb, hml, hown, hta⟩ (c_X2_hasPen E l p0 _ hw) (pcS (n := 1) hta tw_144 tw_142 tw_1 tw_143 rfl rfl hd_X2_hasPen ⟨Nat.le_of_ble_eq_true rfl, Nat.le_of_ble_eq_true rfl⟩) ⟨fbR, fun U hU hW => ⟨rfl, preR.mk hPc hKE hU hW⟩⟩ rfl rfl hl.1 rfl (lv_room (Nat.le_of_ble_eq_true rfl)) dX2_pour_1 ⟨Nat.le_of_ble_eq_true rfl, Nat.le_of_ble_eq_true rfl⟩)) (fun r_673 hw => ?_)
  refine lv_if_ne (tgt := 17) hx hb dX2_pour_4 (by decide) (fun c_674 => ?_) (fun c_674 => ?_)
  · have hw := hw.2 c_674
    refine lv_iload_n hx hb dX2_pour_17 rfl (lv_at hl 2 rfl) ?_
    refine lv_iconst (v := 1) hx hb dX2_pour_18 (by decide) ?_
    refine lv_icmp_lt (tgt := 29) hx hb dX2_pour_19 (by decide) (fun c_675 => ?_) (fun c_675 => ?_)
    · have hw := hw.1 c_675
      have hP9 : va_P (eD E) vwCl (wX E ax gx lt mo ad ln PL pf pw pk lw lk ik) s.heap := hP
      have hD9 : va_D A (wX E ax gx lt mo ad ln PL pf pw pk lw lk ik) := hD
      exact vx_throwS (own := RX2) (cls := sIA) (text := "an amount is 1 to 500") (names := nmE) hx hb hst hown fit_ia fit_E (hta _ tw_238) (hta _ tw_13) hKE.2.2.2.2.2.1.2.2.2.1 (hat_ia hta hKE) ot_ia hZ.2.2.1 hZ.2.2.2 hS (hl.1.trans hml.symm) dX2_pour_29 dX2_pour_32 dX2_pour_33 dX2_pour_35 dX2_pour_38 (fun x hx9 => (htab x hx9).elim) (Nat.le_of_ble_eq_true rfl) (Nat.le_of_ble_eq_true rfl) (Nat.le_of_ble_eq_true rfl) (Nat.le_of_ble_eq_true rfl) hlocks (fun t hal hz hk => ⟨(), trivial, ⟨hw, hP9.kept (fun k q hq => hk q.1 (hP9 k q hq).lt), hD9⟩, Nat.le_trans hS.1 hz, fun q h1 h2 => (hk q (Nat.lt_of_lt_of_le h1 hS.1)).trans (hS.2.1 q h1 h2)⟩) hS.2.2 (Nat.le_of_ble_eq_true rfl) (Nat.le_of_ble_eq_true rfl)
    · have hw := hw.2 c_675
      refine lv_iload_n hx hb dX2_pour_22 rfl (lv_at hl 2 rfl) ?_
      refine lv_sipush (v := 500) hx hb dX2_pour_23 (by decide) ?_
      refine lv_icmp_le (tgt := 39) hx hb dX2_pour_26 (by decide) (fun c_676 => ?_) (fun c_676 => ?_)
      · have hw := hw.1 c_676
        refine lv_iconst (v := 0) hx hb dX2_pour_39 (by decide) ?_
        refine lv_aload_n hx hb dX2_pour_40 rfl (lv_at hl 0 rfl) ?_
        refine lv_iload_n hx hb dX2_pour_41 rfl (lv_at hl 1 rfl) ?_
        have hPc : va_P (eD E) vwCl (wX E ax gx lt mo ad ln PL pf pw pk lw lk ik) s.heap := hP
        refine vp_callSi (va_Run.run (va_runV (As := [.int p0]) (rest := [.int 0]) ⟨hx, hb, hml, hown, hta⟩ (c_X2_inkOf E l ax gx lt mo ad ln PL pf pw pk lw lk ik p0 _ hw) (pcV (n := 1) hta tw_215 tw_212 tw_1 tw_214 tp_1 rfl rfl hd_X2_inkOf ⟨Nat.le_of_ble_eq_true rfl, Nat.le_of_ble_eq_true rfl⟩) ⟨fbR, va_recv hKE.1 hP (ci := 3) (q0 := 0) rfl rfl, fun U hU hW => ⟨rfl, preR.mk hPc hKE hU hW⟩⟩ rfl rfl hl.1 rfl (lv_room (Nat.le_of_ble_eq_true rfl)) dX2_pour_42 ⟨Nat.le_of_ble_eq_true rfl, Nat.le_of_ble_eq_true rfl⟩)) (fun r_677 hw => ?_)
        refine lv_iload_n hx hb dX2_pour_45 rfl (lv_at hl 2 rfl) ?_
        refine lv_isub hx hb dX2_pour_46 ?_
        refine va_mmax hx hb (hml.trans hl.1.symm) hown (hta _ tw_497) (hta _ tw_291) (hta _ tw_8) (hta _ tw_292) (Nat.le_of_ble_eq_true rfl) (Nat.le_of_ble_eq_true rfl) (Nat.le_of_ble_eq_true rfl) (Nat.le_of_ble_eq_true rfl) dX2_pour_47 ?_
        refine lv_istore_n (lv' := [(3, .int (if 0 < (r_677 - p1) then (r_677 - p1) else 0)), (0, .ref (ax 0)), (1, .int p0), (2, .int p1)]) hx hb dX2_pour_50 rfl hl (by decide) rfl (fun ls hl => ?_)
        refine lv_aload_n hx hb dX2_pour_51 rfl (lv_at hl 1 rfl) ?_
        refine lv_iload_n hx hb dX2_pour_52 rfl (lv_at hl 2 rfl) ?_
        refine lv_iload_n hx hb dX2_pour_53 rfl (lv_at hl 0 rfl) ?_
        have hPc : va_P (eD E) vwCl (wX E ax gx lt mo ad ln PL pf pw pk lw lk ik) s.heap := hP
        have hDc : va_D A (wX E ax gx lt mo ad ln PL pf pw pk lw lk ik) := hD
        have hFc : ∀ q, va_A (wX E ax gx lt mo ad ln PL pf pw pk lw lk ik) s.heap.size q → A q := frS hDc hS hA
        refine va_callv (va_runV (As := [.int p0, .int (if 0 < (r_677 - p1) then (r_677 - p1) else 0)]) (rest := []) ⟨hx, hb, hml, hown, hta⟩ (c_X2_setInk E l ax gx lt mo ad ln PL pf pw pk lw lk ik p0 (if 0 < (r_677 - p1) then (r_677 - p1) else 0) s.heap.size _ hw) (pcV (n := 2) hta tw_487 tw_484 tw_1 tw_486 tp_31 rfl rfl hd_X2_setInk ⟨Nat.le_of_ble_eq_true rfl, Nat.le_of_ble_eq_true rfl⟩) ⟨fbM, va_recv hKE.1 hP (ci := 3) (q0 := 0) rfl rfl, fun U hU hW => ⟨rfl, preM.mk hPc hKE hDc hZ hS hFc hU hW⟩⟩ rfl rfl hl.1 rfl (lv_room (Nat.le_of_ble_eq_true rfl)) dX2_pour_54 ⟨Nat.le_of_ble_eq_true rfl, Nat.le_of_ble_eq_true rfl⟩) hS (fun q _ h => hFc q h) hFc (fun u t H locs ht hvm hw hB hz1 hk1 hS => ?_)
        obtain ⟨gx_679, lt_680, mo_681, ad_682, ln_683, PL_684, pf_685, pw_686, pk_687, lw_688, lk_689, ik_690⟩ := u
        obtain ⟨hP1, hD1⟩ := hB
        rw [ht] at hP1
        try dsimp only at hw hP1 hD1
        have hP : va_P (eD E) vwCl ([((ax 0), .inr (3, [.ref (ax 1), .ref (ax 2), .ref (ax 4), .ref (ax 6), .int (gx_679 4), .int (gx_679 5), .int (gx_679 6), .int (gx_679 7), va_rf lt_680, .int (gx_679 9), .int (gx_679 10), .int (gx_679 11), .int (gx_679 12), .int (gx_679 13), .int (gx_679 14), .int (gx_679 15), .int (gx_679 16), .int (gx_679 17), .int (gx_679 18)])), ((ax 1), .inr (0, [.int mo_681, .ref ad_682, .int ln_683])), ((ax 2), .inr (2, [.ref (ax 3), .int pk_687])), ((ax 3), .inl (eC E 1, 157, .inr (.inl pw_686))), ((ax 4), .inr (2, [.ref (ax 5), .int lk_689])), ((ax 5), .inl (eC E 1, 157, .inr (.inl lw_688))), ((ax 6), .inl (eC E 0, 3, .inl ik_690))] ++ va_pl PL_684 pf_685) H := hP1
        have hD : va_D A ([((ax 0), .inr (3, [.ref (ax 1), .ref (ax 2), .ref (ax 4), .ref (ax 6), .int (gx_679 4), .int (gx_679 5), .int (gx_679 6), .int (gx_679 7), va_rf lt_680, .int (gx_679 9), .int (gx_679 10), .int (gx_679 11), .int (gx_679 12), .int (gx_679 13), .int (gx_679 14), .int (gx_679 15), .int (gx_679 16), .int (gx_679 17), .int (gx_679 18)])), ((ax 1), .inr (0, [.int mo_681, .ref ad_682, .int ln_683])), ((ax 2), .inr (2, [.ref (ax 3), .int pk_687])), ((ax 3), .inl (eC E 1, 157, .inr (.inl pw_686))), ((ax 4), .inr (2, [.ref (ax 5), .int lk_689])), ((ax 5), .inl (eC E 1, 157, .inr (.inl lw_688))), ((ax 6), .inl (eC E 0, 3, .inl ik_690))] ++ va_pl PL_684 pf_685) := hD1.weaken (fun _ q _ h => hFc q.1 h)
        refine lv_iload_n hx hb dX2_pour_57 rfl (lv_at hl 0 rfl) ?_
        have hP9 : va_P (eD E) vwCl (wX E ax gx_679 lt_680 mo_681 ad_682 ln_683 PL_684 pf_685 pw_686 pk_687 lw_688 lk_689 ik_690) H := hP
        have hD9 : va_D A (wX E ax gx_679 lt_680 mo_681 ad_682 ln_683 PL_684 pf_685 pw_686 pk_687 lw_688 lk_689 ik_690) := hD
        refine W.widen (k := 1) (n := 6) (Nat.le_of_ble_eq_true rfl) (Nat.le_of_ble_eq_true rfl) ?_
        refine vx_ret ?_
        exact W.iret (v := (if 0 < (r_677 - p1) then (r_677 - p1) else 0)) hx hb hr (fun t ht hW => ⟨⟨(if 0 < (r_677 - p1) then (r_677 - p1) else 0), (gx_679, lt_680, mo_681, ad_682, ln_683, PL_684, pf_685, pw_686, pk_687, lw_688, lk_689, ik_690), rfl, hw, ⟨by rw [ht]; exact hP9, hD9⟩⟩, hS.F ht⟩) hS.2.2 dX2_pour_58
      · have hw := hw.2 c_676
        have hP9 : va_P (eD E) vwCl (wX E ax gx lt mo ad ln PL pf pw pk lw lk ik) s.heap := hP
        have hD9 : va_D A (wX E ax gx lt mo ad ln PL pf pw pk lw lk ik) := hD
        exact vx_throwS (own := RX2) (cls := sIA) (text := "an amount is 1 to 500") (names := nmE) hx hb hst hown fit_ia fit_E (hta _ tw_238) (hta _ tw_13) hKE.2.2.2.2.2.1.2.2.2.1 (hat_ia hta hKE) ot_ia hZ.2.2.1 hZ.2.2.2 hS (hl.1.trans hml.symm) dX2_pour_29 dX2_pour_32 dX2_pour_33 dX2_pour_35 dX2_pour_38 (fun x hx9 => (htab x hx9).elim) (Nat.le_of_ble_eq_true rfl) (Nat.le_of_ble_eq_true rfl) (Nat.le_of_ble_eq_true rfl) (Nat.le_of_ble_eq_true rfl) hlocks (fun t hal hz hk => ⟨(), trivial, ⟨hw, hP9.kept (fun k q hq => hk q.1 (hP9 k q hq).lt), hD9⟩, Nat.le_trans hS.1 hz, fun q h1 h2 => (hk q (Nat.lt_of_lt_of_le h1 hS.1)).trans (hS.2.1 q h1 h2)⟩) hS.2.2 (Nat.le_of_ble_eq_true rfl) (Nat.le_of_ble_eq_true rfl)
  · have hw := hw.1 c_674
    have hP9 : va_P (eD E) vwCl (wX E ax gx lt mo ad ln PL pf pw pk lw lk ik) s.heap := hP
    have hD9 : va_D A (wX E ax gx lt mo ad ln PL pf pw pk lw lk ik) := hD
    exact vx_throwS (own := RX2) (cls := sIB) (text := "a pen is 0 to 2") (names := nmE) hx hb hst hown fit_ib fit_E (hta _ tw_145) (hta _ tw_12) hKE.2.2.2.2.2.1.1 (hat_ib hta hKE) ot_ib hZ.2.2.1 hZ.2.2.2 hS (hl.1.trans hml.symm) dX2_pour_7 dX2_pour_10 dX2_pour_11 dX2_pour_13 dX2_pour_16 (fun x hx9 => (htab x hx9).elim) (Nat.le_of_ble_eq_true rfl) (Nat.le_of_ble_eq_true rfl) (Nat.le_of_ble_eq_true rfl) (Nat.le_of_ble_eq_true rfl) hlocks (fun t hal hz hk => ⟨(), trivial, ⟨hw, hP9.kept (fun k q hq => hk q.1 (hP9 k q hq).lt), hD9⟩, Nat.le_trans hS.1 hz, fun q h1 h2 => (hk q (Nat.lt_of_lt_of_le h1 hS.1)).trans (hS.2.1 q h1 h2)⟩) hS.2.2 (Nat.le_of_ble_eq_true rfl) (Nat.le_of_ble_eq_true rfl)
def wp_X2_ink (E : EV) (post : Int32 → (Nat → Int32) → Option Nat → Int32 → Nat → Int32 → List Nat → (Nat → va_E) → (Nat → Int64) → Int32 → (Nat → Int64) → Int32 → (Nat → Int32) → Prop) (postX : String → Prop) (gx : Nat → Int32) (lt : Option Nat) (mo : Int32) (ad : Nat) (ln : Int32) (PL : List Nat) (pf : Nat → va_E) (pw : Nat → Int64) (pk : Int32) (lw : Nat → Int64) (lk : Int32) (ik : Nat → Int32) (p0 : Int32) : Prop := (wp_X2_hasPen E (fun r_691 : Int32 => ((r_691 = 0 → postX sIB) ∧ (¬ (r_691 = 0) → (wp_X2_inkOf E (fun r_693 : Int32 => post r_693 gx lt mo ad ln PL pf pw pk lw lk ik) gx lt mo ad ln PL pf pw pk lw lk ik p0)))) p0)
set_option maxHeartbeats 4000000 in
set_option maxRecDepth 100000 in
theorem c_X2_ink (E : EV) (l : Launch) (ax : Nat → Nat) (gx : Nat → Int32) (lt : Option Nat) (mo : Int32) (ad : Nat) (ln : Int32) (PL : List Nat) (pf : Nat → va_E) (pw : Nat → Int64) (pk : Int32) (lw : Nat → Int64) (lk : Int32) (ik : Nat → Int32) (p0 : Int32) (hz : Nat) (post : Int32 → (Nat → Int32) → Option Nat → Int32 → Nat → Int32 → List Nat → (Nat → va_E) → (Nat → Int64) → Int32 → (Nat → Int64) → Int32 → (Nat → Int32) → Prop) (postX : String → Prop) (hw : wp_X2_ink E post postX gx lt mo ad ln PL pf pw pk lw lk ik p0) (hst : l.stackTraces = false) : vx_Met l yX2_ink (Cond.code yX2_ink cX2_ink 2 (some .int) :: ALLW) ({ frames := 7, cells := 1, slots := 6, locals := 120 } : Room) (va_Pc [.ref (ax 0), .int p0] (preM E (wX E ax gx lt mo ad ln PL pf pw pk lw lk ik) hz)) (va_Qi (fun (r : Int32) (u : (Nat → Int32) × Option Nat × Int32 × Nat × Int32 × List Nat × (Nat → va_E) × (Nat → Int64) × Int32 × (Nat → Int64) × Int32 × (Nat → Int32)) => post r u.1 u.2.1 u.2.2.1 u.2.2.2.1 u.2.2.2.2.1 u.2.2.2.2.2.1 u.2.2.2.2.2.2.1 u.2.2.2.2.2.2.2.1 u.2.2.2.2.2.2.2.2.1 u.2.2.2.2.2.2.2.2.2.1 u.2.2.2.2.2.2.2.2.2.2.1 u.2.2.2.2.2.2.2.2.2.2.2) (fun (u : (Nat → Int32) × Option Nat × Int32 × Nat × Int32 × List Nat × (Nat → va_E) × (Nat → Int64) × Int32 × (Nat → Int64) × Int32 × (Nat → Int32)) t => va_P (eD E) vwCl (wX E ax u.1 u.2.1 u.2.2.1 u.2.2.2.1 u.2.2.2.2.1 u.2.2.2.2.2.1 u.2.2.2.2.2.2.1 u.2.2.2.2.2.2.2.1 u.2.2.2.2.2.2.2.2.1 u.2.2.2.2.2.2.2.2.2.1 u.2.2.2.2.2.2.2.2.2.2.1 u.2.2.2.2.2.2.2.2.2.2.2) t.heap ∧ va_D (va_A (wX E ax gx lt mo ad ln PL pf pw pk lw lk ik) hz) (wX E ax u.1 u.2.1 u.2.2.1 u.2.2.2.1 u.2.2.2.2.1 u.2.2.2.2.2.1 u.2.2.2.2.2.2.1 u.2.2.2.2.2.2.2.1 u.2.2.2.2.2.2.2.2.1 u.2.2.2.2.2.2.2.2.2.1 u.2.2.2.2.2.2.2.2.2.2.1 u.2.2.2.2.2.2.2.2.2.2.2)) (va_A (wX E ax gx lt mo ad ln PL pf pw pk lw lk ik) hz)) (vx_X (fun _ : Unit => True) (fun E9 (_ : Unit) t => postX E9 ∧ va_P (eD E) vwCl (wX E ax gx lt mo ad ln PL pf pw pk lw lk ik) t.heap ∧ va_D (va_A (wX E ax gx lt mo ad ln PL pf pw pk lw lk ik) hz) (wX E ax gx lt mo ad ln PL pf pw pk lw lk ik)) (va_A (wX E ax gx lt mo ad ln PL pf pw pk lw lk ik) hz)) 1 6 (va_A (wX E ax gx lt mo ad ln PL pf pw pk lw lk ik) hz) := by
  refine vx_ofW (cc := cX2_ink) (maxL := 2) (ret := (some .int)) (by decide) rfl ?_
  intro p e s m args below meth c s₁ B hml htab hv
  obtain ⟨rfl, hpre⟩ := hv
  have hx := B.exec
  have hb := B.bytes
  have hr := B.returns
  have hlocks := B.notSynchronized
  have hts := atoms_spec (ws := (Cond.code yX2_ink cX2_ink 2 (some .int) :: ALLW)) B.pre
  have hta : ∀ w ∈ ALLW, w.before ([.ref (ax 0), .int p0] : List Value).toArray s = true := fun w h => hts w (List.mem_cons_of_mem _ h)
  have hown : s.vm.findClass RX2 = some m.cls := findClass_of_methodNamed B.named
  obtain ⟨hsz, hP, hKE, hD0, hZ⟩ := hpre
  subst hsz
  have hD := hD0.self (sz := s.heap.size)
  generalize hAe : va_A (wX E ax gx lt mo ad ln PL pf pw pk lw lk ik) s.heap.size = A at hD hZ ⊢
  have hA : ∀ q : Nat, s.heap.size ≤ q → A q := fun q h => by rw [← hAe]; exact Or.inr h
  have hS : va_S A s.heap s.heap [] := va_S.rf
  have hP : va_P (eD E) vwCl ([((ax 0), .inr (3, [.ref (ax 1), .ref (ax 2), .ref (ax 4), .ref (ax 6), .int (gx 4), .int (gx 5), .int (gx 6), .int (gx 7), va_rf lt, .int (gx 9), .int (gx 10), .int (gx 11), .int (gx 12), .int (gx 13), .int (gx 14), .int (gx 15), .int (gx 16), .int (gx 17), .int (gx 18)])), ((ax 1), .inr (0, [.int mo, .ref ad, .int ln])), ((ax 2), .inr (2, [.ref (ax 3), .int pk])), ((ax 3), .inl (eC E 1, 157, .inr (.inl pw))), ((ax 4), .inr (2, [.ref (ax 5), .int lk])), ((ax 5), .inl (eC E 1, 157, .inr (.inl lw))), ((ax 6), .inl (eC E 0, 3, .inl ik))] ++ va_pl PL pf) s.heap := hP
  have hD : va_D A ([((ax 0), .inr (3, [.ref (ax 1), .ref (ax 2), .ref (ax 4), .ref (ax 6), .int (gx 4), .int (gx 5), .int (gx 6), .int (gx 7), va_rf lt, .int (gx 9), .int (gx 10), .int (gx 11), .int (gx 12), .int (gx 13), .int (gx 14), .int (gx 15), .int (gx 16), .int (gx 17), .int (gx 18)])), ((ax 1), .inr (0, [.int mo, .ref ad, .int ln])), ((ax 2), .inr (2, [.ref (ax 3), .int pk])), ((ax 3), .inl (eC E 1, 157, .inr (.inl pw))), ((ax 4), .inr (2, [.ref (ax 5), .int lk])), ((ax 5), .inl (eC E 1, 157, .inr (.inl lw))), ((ax 6), .inl (eC E 0, 3, .inl ik))] ++ va_pl PL pf) := hD
  have hl := lv_entry ([.ref (ax 0), .int p0]) (n := 2) (Nat.le_of_ble_eq_true rfl)
  rw [lg_entry_eq]
  generalize (lg_sl ([.ref (ax 0), .int p0]) ++ List.replicate (2 - (lg_sl ([.ref (ax 0), .int p0])).length) Slot.unset).toArray = ls at hl ⊢
  have hl : lv_has ls 2 [(0, .ref (ax 0)), (1, .int p0)] := hl
  unfold wp_X2_ink at hw
  refine lv_iload_n hx hb dX2_ink_0 rfl (lv_at hl 1 rfl) ?_
  have hPc : va_P (eD E) vwCl [] s.heap := va_P_nil
  refine vp_callSi (va_Run.run (va_runS (As := [.int p0]) (rest := []) ⟨hx, hb, hml, hown, hta⟩ (c_X2_hasPen E l p0 _ hw) (pcS (n := 1) hta tw_144 tw_142 tw_1 tw_143 rfl rfl hd_X2_hasPen ⟨Nat.le_of_ble_eq_true rfl, Nat.le_of_ble_eq_true rfl⟩) ⟨fbR, fun U hU hW => ⟨rfl, preR.mk hPc hKE hU hW⟩⟩ rfl rfl hl.1 rfl (lv_room (Nat.le_of_ble_eq_true rfl)) dX2_ink_1 ⟨Nat.le_of_ble_eq_true rfl, Nat.le_of_ble_eq_true rfl⟩)) (fun r_691 hw => ?_)
  refine lv_if_ne (tgt := 17) hx hb dX2_ink_4 (by decide) (fun c_692 => ?_) (fun c_692 => ?_)
  · have hw := hw.2 c_692
    refine lv_aload_n hx hb dX2_ink_17 rfl (lv_at hl 0 rfl) ?_
    refine lv_iload_n hx hb dX2_ink_18 rfl (lv_at hl 1 rfl) ?_
    have hPc : va_P (eD E) vwCl (wX E ax gx lt mo ad ln PL pf pw pk lw lk ik) s.heap := hP
    refine vp_callSi (va_Run.run (va_runV (As := [.int p0]) (rest := []) ⟨hx, hb, hml, hown, hta⟩ (c_X2_inkOf E l ax gx lt mo ad ln PL pf pw pk lw lk ik p0 _ hw) (pcV (n := 1) hta tw_215 tw_212 tw_1 tw_214 tp_1 rfl rfl hd_X2_inkOf ⟨Nat.le_of_ble_eq_true rfl, Nat.le_of_ble_eq_true rfl⟩) ⟨fbR, va_recv hKE.1 hP (ci := 3) (q0 := 0) rfl rfl, fun U hU hW => ⟨rfl, preR.mk hPc hKE hU hW⟩⟩ rfl rfl hl.1 rfl (lv_room (Nat.le_of_ble_eq_true rfl)) dX2_ink_19 ⟨Nat.le_of_ble_eq_true rfl, Nat.le_of_ble_eq_true rfl⟩)) (fun r_693 hw => ?_)
    have hP9 : va_P (eD E) vwCl (wX E ax gx lt mo ad ln PL pf pw pk lw lk ik) s.heap := hP
    have hD9 : va_D A (wX E ax gx lt mo ad ln PL pf pw pk lw lk ik) := hD
    refine W.widen (k := 1) (n := 6) (Nat.le_of_ble_eq_true rfl) (Nat.le_of_ble_eq_true rfl) ?_
    refine vx_ret ?_
    exact W.iret (v := r_693) hx hb hr (fun t ht hW => ⟨⟨r_693, (gx, lt, mo, ad, ln, PL, pf, pw, pk, lw, lk, ik), rfl, hw, ⟨by rw [ht]; exact hP9, hD9⟩⟩, hS.F ht⟩) hS.2.2 dX2_ink_22
  · have hw := hw.1 c_692
    have hP9 : va_P (eD E) vwCl (wX E ax gx lt mo ad ln PL pf pw pk lw lk ik) s.heap := hP
    have hD9 : va_D A (wX E ax gx lt mo ad ln PL pf pw pk lw lk ik) := hD
    exact vx_throwS (own := RX2) (cls := sIB) (text := "a pen is 0 to 2") (names := nmE) hx hb hst hown fit_ib fit_E (hta _ tw_145) (hta _ tw_12) hKE.2.2.2.2.2.1.1 (hat_ib hta hKE) ot_ib hZ.2.2.1 hZ.2.2.2 hS (hl.1.trans hml.symm) dX2_ink_7 dX2_ink_10 dX2_ink_11 dX2_ink_13 dX2_ink_16 (fun x hx9 => (htab x hx9).elim) (Nat.le_of_ble_eq_true rfl) (Nat.le_of_ble_eq_true rfl) (Nat.le_of_ble_eq_true rfl) (Nat.le_of_ble_eq_true rfl) hlocks (fun t hal hz hk => ⟨(), trivial, ⟨hw, hP9.kept (fun k q hq => hk q.1 (hP9 k q hq).lt), hD9⟩, Nat.le_trans hS.1 hz, fun q h1 h2 => (hk q (Nat.lt_of_lt_of_le h1 hS.1)).trans (hS.2.1 q h1 h2)⟩) hS.2.2 (Nat.le_of_ble_eq_true rfl) (Nat.le_of_ble_eq_true rfl)
def wp_X2_isMarked (E : EV) (post : Int32 → (Nat → Int32) → Option Nat → Int32 → Nat → Int32 → List Nat → (Nat → va_E) → (Nat → Int64) → Int32 → (Nat → Int64) → Int32 → (Nat → Int32) → Prop) (postX : String → Prop) (gx : Nat → Int32) (lt : Option Nat) (mo : Int32) (ad : Nat) (ln : Int32) (PL : List Nat) (pf : Nat → va_E) (pw : Nat → Int64) (pk : Int32) (lw : Nat → Int64) (lk : Int32) (ik : Nat → Int32) (p0 : Int32) (p1 : Int32) : Prop := (wp_X2_hasCell E (fun r_694 : Int32 => ((r_694 = 0 → postX sIB) ∧ (¬ (r_694 = 0) → (wp_X1_hasMark E (fun r_696 : Int32 => (narrow .boolean (.int r_696) = .int r_696 ∧ post r_696 gx lt mo ad ln PL pf pw pk lw lk ik)) pw pk p0 p1)))) p0 p1)
set_option maxHeartbeats 4000000 in
set_option maxRecDepth 100000 in
theorem c_X2_isMarked (E : EV) (l : Launch) (ax : Nat → Nat) (gx : Nat → Int32) (lt : Option Nat) (mo : Int32) (ad : Nat) (ln : Int32) (PL : List Nat) (pf : Nat → va_E) (pw : Nat → Int64) (pk : Int32) (lw : Nat → Int64) (lk : Int32) (ik : Nat → Int32) (p0 : Int32) (p1 : Int32) (hz : Nat) (post : Int32 → (Nat → Int32) → Option Nat → Int32 → Nat → Int32 → List Nat → (Nat → va_E) → (Nat → Int64) → Int32 → (Nat → Int64) → Int32 → (Nat → Int32) → Prop) (postX : String → Prop) (hw : wp_X2_isMarked E post postX gx lt mo ad ln PL pf pw pk lw lk ik p0 p1) (hst : l.stackTraces = false) : vx_Met l yX2_isMarked (Cond.code yX2_isMarked cX2_isMarked 3 (some .boolean) :: ALLW) ({ frames := 7, cells := 1, slots := 6, locals := 120 } : Room) (va_Pc [.ref (ax 0), .int p0, .int p1] (preM E (wX E ax gx lt mo ad ln PL pf pw pk lw lk ik) hz)) (va_Qi (fun (r : Int32) (u : (Nat → Int32) × Option Nat × Int32 × Nat × Int32 × List Nat × (Nat → va_E) × (Nat → Int64) × Int32 × (Nat → Int64) × Int32 × (Nat → Int32)) => post r u.1 u.2.1 u.2.2.1 u.2.2.2.1 u.2.2.2.2.1 u.2.2.2.2.2.1 u.2.2.2.2.2.2.1 u.2.2.2.2.2.2.2.1 u.2.2.2.2.2.2.2.2.1 u.2.2.2.2.2.2.2.2.2.1 u.2.2.2.2.2.2.2.2.2.2.1 u.2.2.2.2.2.2.2.2.2.2.2) (fun (u : (Nat → Int32) × Option Nat × Int32 × Nat × Int32 × List Nat × (Nat → va_E) × (Nat → Int64) × Int32 × (Nat → Int64) × Int32 × (Nat → Int32)) t => va_P (eD E) vwCl (wX E ax u.1 u.2.1 u.2.2.1 u.2.2.2.1 u.2.2.2.2.1 u.2.2.2.2.2.1 u.2.2.2.2.2.2.1 u.2.2.2.2.2.2.2.1 u.2.2.2.2.2.2.2.2.1 u.2.2.2.2.2.2.2.2.2.1 u.2.2.2.2.2.2.2.2.2.2.1 u.2.2.2.2.2.2.2.2.2.2.2) t.heap ∧ va_D (va_A (wX E ax gx lt mo ad ln PL pf pw pk lw lk ik) hz) (wX E ax u.1 u.2.1 u.2.2.1 u.2.2.2.1 u.2.2.2.2.1 u.2.2.2.2.2.1 u.2.2.2.2.2.2.1 u.2.2.2.2.2.2.2.1 u.2.2.2.2.2.2.2.2.1 u.2.2.2.2.2.2.2.2.2.1 u.2.2.2.2.2.2.2.2.2.2.1 u.2.2.2.2.2.2.2.2.2.2.2)) (va_A (wX E ax gx lt mo ad ln PL pf pw pk lw lk ik) hz)) (vx_X (fun _ : Unit => True) (fun E9 (_ : Unit) t => postX E9 ∧ va_P (eD E) vwCl (wX E ax gx lt mo ad ln PL pf pw pk lw lk ik) t.heap ∧ va_D (va_A (wX E ax gx lt mo ad ln PL pf pw pk lw lk ik) hz) (wX E ax gx lt mo ad ln PL pf pw pk lw lk ik)) (va_A (wX E ax gx lt mo ad ln PL pf pw pk lw lk ik) hz)) 1 6 (va_A (wX E ax gx lt mo ad ln PL pf pw pk lw lk ik) hz) := by
  refine vx_ofW (cc := cX2_isMarked) (maxL := 3) (ret := (some .boolean)) (by decide) rfl ?_
  intro p e s m args below meth c s₁ B hml htab hv
  obtain ⟨rfl, hpre⟩ := hv
  have hx := B.exec
  have hb := B.bytes
  have hr := B.returns
  have hlocks := B.notSynchronized
  have hts := atoms_spec (ws := (Cond.code yX2_isMarked cX2_isMarked 3 (some .boolean) :: ALLW)) B.pre
  have hta : ∀ w ∈ ALLW, w.before ([.ref (ax 0), .int p0, .int p1] : List Value).toArray s = true := fun w h => hts w (List.mem_cons_of_mem _ h)
  have hown : s.vm.findClass RX2 = some m.cls := findClass_of_methodNamed B.named
  obtain ⟨hsz, hP, hKE, hD0, hZ⟩ := hpre
  subst hsz
  have hD := hD0.self (sz := s.heap.size)
  generalize hAe : va_A (wX E ax gx lt mo ad ln PL pf pw pk lw lk ik) s.heap.size = A at hD hZ ⊢
  have hA : ∀ q : Nat, s.heap.size ≤ q → A q := fun q h => by rw [← hAe]; exact Or.inr h
  have hS : va_S A s.heap s.heap [] := va_S.rf
  have hP : va_P (eD E) vwCl ([((ax 0), .inr (3, [.ref (ax 1), .ref (ax 2), .ref (ax 4), .ref (ax 6), .int (gx 4), .int (gx 5), .int (gx 6), .int (gx 7), va_rf lt, .int (gx 9), .int (gx 10), .int (gx 11), .int (gx 12), .int (gx 13), .int (gx 14), .int (gx 15), .int (gx 16), .int (gx 17), .int (gx 18)])), ((ax 1), .inr (0, [.int mo, .ref ad, .int ln])), ((ax 2), .inr (2, [.ref (ax 3), .int pk])), ((ax 3), .inl (eC E 1, 157, .inr (.inl pw))), ((ax 4), .inr (2, [.ref (ax 5), .int lk])), ((ax 5), .inl (eC E 1, 157, .inr (.inl lw))), ((ax 6), .inl (eC E 0, 3, .inl ik))] ++ va_pl PL pf) s.heap := hP
  have hD : va_D A ([((ax 0), .inr (3, [.ref (ax 1), .ref (ax 2), .ref (ax 4), .ref (ax 6), .int (gx 4), .int (gx 5), .int (gx 6), .int (gx 7), va_rf lt, .int (gx 9), .int (gx 10), .int (gx 11), .int (gx 12), .int (gx 13), .int (gx 14), .int (gx 15), .int (gx 16), .int (gx 17), .int (gx 18)])), ((ax 1), .inr (0, [.int mo, .ref ad, .int ln])), ((ax 2), .inr (2, [.ref (ax 3), .int pk])), ((ax 3), .inl (eC E 1, 157, .inr (.inl pw))), ((ax 4), .inr (2, [.ref (ax 5), .int lk])), ((ax 5), .inl (eC E 1, 157, .inr (.inl lw))), ((ax 6), .inl (eC E 0, 3, .inl ik))] ++ va_pl PL pf) := hD
  have hl := lv_entry ([.ref (ax 0), .int p0, .int p1]) (n := 3) (Nat.le_of_ble_eq_true rfl)
  rw [lg_entry_eq]
  generalize (lg_sl ([.ref (ax 0), .int p0, .int p1]) ++ List.replicate (3 - (lg_sl ([.ref (ax 0), .int p0, .int p1])).length) Slot.unset).toArray = ls at hl ⊢
  have hl : lv_has ls 3 [(0, .ref (ax 0)), (1, .int p0), (2, .int p1)] := hl
  unfold wp_X2_isMarked at hw
  refine lv_iload_n hx hb dX2_isMarked_0 rfl (lv_at hl 1 rfl) ?_
  refine lv_iload_n hx hb dX2_isMarked_1 rfl (lv_at hl 2 rfl) ?_
  have hPc : va_P (eD E) vwCl [] s.heap := va_P_nil
  refine vp_callSi (va_Run.run (va_runS (As := [.int p0, .int p1]) (rest := []) ⟨hx, hb, hml, hown, hta⟩ (c_X2_hasCell E l p0 p1 _ hw) (pcS (n := 2) hta tw_295 tw_293 tw_1 tw_294 rfl rfl hd_X2_hasCell ⟨Nat.le_of_ble_eq_true rfl, Nat.le_of_ble_eq_true rfl⟩) ⟨fbR, fun U hU hW => ⟨rfl, preR.mk hPc hKE hU hW⟩⟩ rfl rfl hl.1 rfl (lv_room (Nat.le_of_ble_eq_true rfl)) dX2_isMarked_2 ⟨Nat.le_of_ble_eq_true rfl, Nat.le_of_ble_eq_true rfl⟩)) (fun r_694 hw => ?_)
  refine lv_if_ne (tgt := 18) hx hb dX2_isMarked_5 (by decide) (fun c_695 => ?_) (fun c_695 => ?_)
  · have hw := hw.2 c_695
    refine lv_aload_n hx hb dX2_isMarked_18 rfl (lv_at hl 0 rfl) ?_
    refine va_get (D := eD E) (ci := 3) (v := .ref (ax 2)) (C := RX2) (T := TX2) (N := 19) hx hb hta lay_X2 hown hKE.1 hP 0 rfl rfl 1 (by decide) (hta _ tw_68) (fun _ h9 => h9) rfl dX2_isMarked_19 ?_
    refine lv_iload_n hx hb dX2_isMarked_22 rfl (lv_at hl 1 rfl) ?_
    refine lv_iload_n hx hb dX2_isMarked_23 rfl (lv_at hl 2 rfl) ?_
    have hPc : va_P (eD E) vwCl [((ax 2), .inr (2, [.ref (ax 3), .int pk])), ((ax 3), .inl (eC E 1, 157, .inr (.inl pw)))] s.heap := hP.sub [2, 3] rfl
    refine vp_callSi (va_Run.run (va_runVN (As := [.int p0, .int p1]) (rest := []) ⟨hx, hb, hml, hown, hta⟩ (c_X1_hasMark E l (ax 2) (ax 3) pw pk p0 p1 _ hw) (pcVN (n := 2) hta tw_328 (hKE.2.1 _ (List.mem_of_getElem? (i := 13) rfl)) tw_5 tw_327 tp_15 rfl rfl hd_X1_hasMark ⟨Nat.le_of_ble_eq_true rfl, Nat.le_of_ble_eq_true rfl⟩) ⟨fbR, va_recv hKE.1 hP (ci := 2) (q0 := 2) rfl rfl, fun U hU hW => ⟨rfl, preR.mk hPc hKE hU hW⟩⟩ rfl rfl hl.1 rfl (lv_room (Nat.le_of_ble_eq_true rfl)) dX2_isMarked_24 ⟨Nat.le_of_ble_eq_true rfl, Nat.le_of_ble_eq_true rfl⟩)) (fun r_696 hw => ?_)
    obtain ⟨hn_697, hw⟩ := hw
    have hP9 : va_P (eD E) vwCl (wX E ax gx lt mo ad ln PL pf pw pk lw lk ik) s.heap := hP
    have hD9 : va_D A (wX E ax gx lt mo ad ln PL pf pw pk lw lk ik) := hD
    refine W.widen (k := 1) (n := 6) (Nat.le_of_ble_eq_true rfl) (Nat.le_of_ble_eq_true rfl) ?_
    refine vx_ret ?_
    exact W.zret (v := r_696) hx hb hr hn_697 (fun t ht hW => ⟨⟨r_696, (gx, lt, mo, ad, ln, PL, pf, pw, pk, lw, lk, ik), rfl, hw, ⟨by rw [ht]; exact hP9, hD9⟩⟩, hS.F ht⟩) hS.2.2 dX2_isMarked_27
  · have hw := hw.1 c_695
    have hP9 : va_P (eD E) vwCl (wX E ax gx lt mo ad ln PL pf pw pk lw lk ik) s.heap := hP
    have hD9 : va_D A (wX E ax gx lt mo ad ln PL pf pw pk lw lk ik) := hD
    exact vx_throwS (own := RX2) (cls := sIB) (text := "a cell has x and y from 0 to 99") (names := nmE) hx hb hst hown fit_ib fit_E (hta _ tw_145) (hta _ tw_12) hKE.2.2.2.2.2.1.2.2.2.2 (hat_ib hta hKE) ot_ib hZ.2.2.1 hZ.2.2.2 hS (hl.1.trans hml.symm) dX2_isMarked_8 dX2_isMarked_11 dX2_isMarked_12 dX2_isMarked_14 dX2_isMarked_17 (fun x hx9 => (htab x hx9).elim) (Nat.le_of_ble_eq_true rfl) (Nat.le_of_ble_eq_true rfl) (Nat.le_of_ble_eq_true rfl) (Nat.le_of_ble_eq_true rfl) hlocks (fun t hal hz hk => ⟨(), trivial, ⟨hw, hP9.kept (fun k q hq => hk q.1 (hP9 k q hq).lt), hD9⟩, Nat.le_trans hS.1 hz, fun q h1 h2 => (hk q (Nat.lt_of_lt_of_le h1 hS.1)).trans (hS.2.1 q h1 h2)⟩) hS.2.2 (Nat.le_of_ble_eq_true rfl) (Nat.le_of_ble_eq_true rfl)
