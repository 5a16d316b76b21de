def wp_J8_newLength_cabcc (E : EV) (post : Int32 → Prop) (p0 : Int32) (p1 : Int32) (p2 : Int32) : Prop := (((p0 + (if p1 < p2 then p2 else p1)) ≤ 0 → False) ∧ (¬ (p0 + (if p1 < p2 then p2 else p1)) ≤ 0 → ((2147483639 < (p0 + (if p1 < p2 then p2 else p1)) → False) ∧ (¬ (2147483639 < (p0 + (if p1 < p2 then p2 else p1))) → post (p0 + (if p1 < p2 then p2 else p1))))))
set_option maxHeartbeats 4000000 in
set_option maxRecDepth 100000 in
theorem c_J8_newLength_cabcc (E : EV) (l : Launch) (p0 : Int32) (p1 : Int32) (p2 : Int32) (post : Int32 → Prop) (hw : wp_J8_newLength_cabcc E post p0 p1 p2) : Met l yJ8_newLength_cabcc (Cond.code yJ8_newLength_cabcc cJ8_newLength_cabcc 4 (some .int) :: ALLW) ({ frames := 1, cells := 0, slots := 0, locals := 14 } : Room) (va_Pc [.int p0, .int p1, .int p2] (preR E ([]))) (vp_Si post) 0 0 (fun _ => False) := by
  refine Met.ofW (cc := cJ8_newLength_cabcc) (maxL := 4) (ret := (some .int)) (by decide) rfl ?_
  intro p e s m args below meth c s₁ B hml hv
  obtain ⟨rfl, hpre⟩ := hv
  have hx := B.exec
  have hb := B.bytes
  have hr := B.returns
  have hlocks := B.notSynchronized
  have hts := atoms_spec (ws := (Cond.code yJ8_newLength_cabcc cJ8_newLength_cabcc 4 (some .int) :: ALLW)) B.pre
  have hta : ∀ w ∈ ALLW, w.before ([.int p0, .int p1, .int p2] : List Value).toArray s = true := fun w h => hts w (List.mem_cons_of_mem _ h)
  have hown : s.vm.findClass RJ8 = some m.cls := findClass_of_methodNamed B.named
  obtain ⟨hP, hKE⟩ := hpre
  have hP : va_P (eD E) vwCl [] s.heap := hP
  have hl := lv_entry ([.int p0, .int p1, .int p2]) (n := 4) (Nat.le_of_ble_eq_true rfl)
  rw [lg_entry_eq]
  generalize (lg_sl ([.int p0, .int p1, .int p2]) ++ List.replicate (4 - (lg_sl ([.int p0, .int p1, .int p2])).length) Slot.unset).toArray = ls at hl ⊢
  have hl : lv_has ls 4 [(0, .int p0), (1, .int p1), (2, .int p2)] := hl
  unfold wp_J8_newLength_cabcc at hw
  refine lv_iload_n hx hb dJ8_newLength_cabcc_0 rfl (lv_at hl 0 rfl) ?_
  refine lv_iload_n hx hb dJ8_newLength_cabcc_1 rfl (lv_at hl 1 rfl) ?_
  refine lv_iload_n hx hb dJ8_newLength_cabcc_2 rfl (lv_at hl 2 rfl) ?_
  refine va_mmax hx hb (hml.trans hl.1.symm) hown (hta _ tw_393) (hta _ tw_195) (hta _ tw_11) (hta _ tw_196) (Nat.le_of_ble_eq_true rfl) (Nat.le_of_ble_eq_true rfl) (Nat.le_of_ble_eq_true rfl) (Nat.le_of_ble_eq_true rfl) dJ8_newLength_cabcc_3 ?_
  refine lv_iadd hx hb dJ8_newLength_cabcc_6 ?_
  refine lv_istore_n (lv' := [(3, .int (p0 + (if p1 < p2 then p2 else p1))), (0, .int p0), (1, .int p1), (2, .int p2)]) hx hb dJ8_newLength_cabcc_7 rfl hl (by decide) rfl (fun ls hl => ?_)
  refine lv_iconst (v := 0) hx hb dJ8_newLength_cabcc_8 (by decide) ?_
  refine lv_iload_n hx hb dJ8_newLength_cabcc_9 rfl (lv_at hl 0 rfl) ?_
  refine lv_icmp_ge (tgt := 21) hx hb dJ8_newLength_cabcc_10 (by decide) (fun c_582 => ?_) (fun c_582 => ?_)
  · have hw := hw.1 c_582
    exact hw.elim
  · have hw := hw.2 c_582
    refine lv_iload_n hx hb dJ8_newLength_cabcc_13 rfl (lv_at hl 0 rfl) ?_
    refine lv_ldc hx hb hown (v := 2147483639) (hta _ tw_394) dJ8_newLength_cabcc_14 ?_
    refine lv_icmp_gt (tgt := 21) hx hb dJ8_newLength_cabcc_16 (by decide) (fun c_583 => ?_) (fun c_583 => ?_)
    · have hw := hw.1 c_583
      exact hw.elim
    · have hw := hw.2 c_583
      refine lv_iload_n hx hb dJ8_newLength_cabcc_19 rfl (lv_at hl 0 rfl) ?_
      exact W.iret (v := (p0 + (if p1 < p2 then p2 else p1))) hx hb hr (fun t ht hW => ⟨(p0 + (if p1 < p2 then p2 else p1)), rfl, hw, ht⟩) (fun q hq => nomatch hq) dJ8_newLength_cabcc_20
def wp_J7_copyOf_6403c (E : EV) (post : Option Nat → List Nat → (Nat → va_E) → Prop) (PL : List Nat) (pf : Nat → va_E) (p0 : Nat) (p1 : Int32) : Prop := ((¬ p1 < 0 ∧ p1.toNatClampNeg ≤ 32) ∧ (∀ q_585 : Nat, q_585 ∉ PL → ¬ q_585 = eA E 0 → ∀ pf_586 : Nat → va_E, pf_586 = va_up pf q_585 (.inl (eC E 2, p1.toNatClampNeg, .inr (.inr (.inr (.inr (fun _ => none)))))) → (∃ (anz_589 : Nat) (afz_589 : Nat → Option Nat), p0 ∈ (PL ++ [q_585]) ∧ pf_586 p0 = .inl (eC E 2, anz_589, .inr (.inr (.inr (.inr afz_589)))) ∧ ((¬ (0 : Int32) < 0 ∧ ¬ (0 : Int32) < 0 ∧ ¬ (if p1 < (Int32.ofNat anz_589) then p1 else (Int32.ofNat anz_589)) < 0 ∧ (0 : Int32).toNatClampNeg + (if p1 < (Int32.ofNat anz_589) then p1 else (Int32.ofNat anz_589)).toNatClampNeg ≤ anz_589 ∧ (0 : Int32).toNatClampNeg + (if p1 < (Int32.ofNat anz_589) then p1 else (Int32.ofNat anz_589)).toNatClampNeg ≤ p1.toNatClampNeg) ∧ (∀ i : Nat, i < (if p1 < (Int32.ofNat anz_589) then p1 else (Int32.ofNat anz_589)).toNatClampNeg → ∀ y : Nat, afz_589 ((0 : Int32).toNatClampNeg + i) = some y → y ∈ (PL ++ [q_585]) ∧ ∃ k1 k2 k3 k4 : Int32, pf_586 y = .inr (1, [.int k1, .int k2, .int k3, .int k4])) ∧ (∀ pf_594 : Nat → va_E, pf_594 = va_up pf_586 q_585 (.inl (eC E 2, p1.toNatClampNeg, .inr (.inr (.inr (.inr (va_cpy afz_589 (fun _ => none) (0 : Int32).toNatClampNeg (0 : Int32).toNatClampNeg (if p1 < (Int32.ofNat anz_589) then p1 else (Int32.ofNat anz_589)).toNatClampNeg)))))) → post (some q_585) (PL ++ [q_585]) pf_594)))))
set_option maxHeartbeats 4000000 in
set_option maxRecDepth 100000 in
theorem c_J7_copyOf_6403c (E : EV) (l : Launch) (PL : List Nat) (pf : Nat → va_E) (p0 : Nat) (p1 : Int32) (hz : Nat) (post : Option Nat → List Nat → (Nat → va_E) → Prop) (hw : wp_J7_copyOf_6403c E post PL pf p0 p1) : Met l yJ7_copyOf_6403c (Cond.code yJ7_copyOf_6403c cJ7_copyOf_6403c 4 (some (.array (.object "java/lang/Object"))) :: ALLW) ({ frames := 1, cells := 1, slots := 32, locals := 18 } : Room) (va_Pc [.ref p0, .int p1, .ref (eA E 1)] (preM E (wQ PL pf) hz)) (va_Qq (fun (r : Option Nat) (u : List Nat × (Nat → va_E)) => post r u.1 u.2) (fun (u : List Nat × (Nat → va_E)) t => va_P (eD E) vwCl (wQ u.1 u.2) t.heap ∧ va_D (va_A (wQ PL pf) hz) (wQ u.1 u.2)) (va_A (wQ PL pf) hz)) 1 32 (va_A (wQ PL pf) hz) := by
  refine Met.ofW (cc := cJ7_copyOf_6403c) (maxL := 4) (ret := (some (.array (.object "java/lang/Object")))) (by decide) rfl ?_
  intro p e s m args below meth c s₁ B hml hv
  obtain ⟨rfl, hpre⟩ := hv
  have hx := B.exec
  have hb := B.bytes
  have hr := B.returns
  have hlocks := B.notSynchronized
  have hts := atoms_spec (ws := (Cond.code yJ7_copyOf_6403c cJ7_copyOf_6403c 4 (some (.array (.object "java/lang/Object"))) :: ALLW)) B.pre
  have hta : ∀ w ∈ ALLW, w.before ([.ref p0, .int p1, .ref (eA E 1)] : List Value).toArray s = true := fun w h => hts w (List.mem_cons_of_mem _ h)
  have hown : s.vm.findClass RJ7 = some m.cls := findClass_of_methodNamed B.named
  obtain ⟨hsz, hP, hKE, hD0, hZ⟩ := hpre
  subst hsz
  have hD := hD0.self (sz := s.heap.size)
  generalize hAe : va_A (wQ PL pf) s.heap.size = A at hD hZ ⊢
  have hA : ∀ q : Nat, s.heap.size ≤ q → A q := fun q h => by rw [← hAe]; exact Or.inr h
  have hS : va_S A s.heap s.heap [] := va_S.rf
  have hP : va_P (eD E) vwCl ([] ++ va_pl PL pf) s.heap := hP
  have hD : va_D A ([] ++ va_pl PL pf) := hD
  have hl := lv_entry ([.ref p0, .int p1, .ref (eA E 1)]) (n := 4) (Nat.le_of_ble_eq_true rfl)
  rw [lg_entry_eq]
  generalize (lg_sl ([.ref p0, .int p1, .ref (eA E 1)]) ++ List.replicate (4 - (lg_sl ([.ref p0, .int p1, .ref (eA E 1)])).length) Slot.unset).toArray = ls at hl ⊢
  have hl : lv_has ls 4 [(0, .ref p0), (1, .int p1), (2, .ref (eA E 1))] := hl
  unfold wp_J7_copyOf_6403c at hw
  refine lv_aload_n hx hb dJ7_copyOf_6403c_0 rfl (lv_at hl 2 rfl) ?_
  refine va_ldcM hx hb hown (hta _ tw_415) hKE.2.2.2.1 dJ7_copyOf_6403c_1 ?_
  refine lv_acmp_ne (rx := some (eA E 1)) (ry := some (eA E 1)) (tgt := 13) hx hb dJ7_copyOf_6403c_3 (by decide) (fun c9 => absurd rfl c9) (fun _ => ?_)
  refine lv_iload_n hx hb dJ7_copyOf_6403c_6 rfl (lv_at hl 1 rfl) ?_
  obtain ⟨⟨hnk_584, hmk_584⟩, hw⟩ := hw
  refine va_newq hx hb hown (hta _ tw_417) hKE.2.2.1 hKE.1 hP hD hS hA hnk_584 rfl (by have := hmk_584; omega) (Nat.le_of_ble_eq_true rfl) (Nat.le_trans (Nat.add_le_add_left hmk_584 0) (Nat.le_of_ble_eq_true rfl)) dJ7_copyOf_6403c_7 (fun q_585 cA H hK9 hP hD hS => ?_)
  have hcA := newO hKE hK9
  subst hcA
  refine W.widen (k := 1) (n := 32) (Nat.le_of_ble_eq_true rfl) (Nat.add_le_add_left hmk_584 0) ?_
  have hqe := newq_ne hZ hD
  obtain ⟨hqk_584, hP, hD⟩ := pl_push hP hD
  obtain ⟨pf_586, epf_586⟩ : ∃ z : Nat → va_E, z = va_up pf q_585 (.inl (eC E 2, p1.toNatClampNeg, .inr (.inr (.inr (.inr (fun _ => none)))))) := ⟨_, rfl⟩
  have hw := hw q_585 hqk_584 hqe pf_586 epf_586
  have hP : va_P (eD E) vwCl ([] ++ va_pl (PL ++ [q_585]) pf_586) H := by rw [epf_586]; exact hP
  have hD : va_D A ([] ++ va_pl (PL ++ [q_585]) pf_586) := by rw [epf_586]; exact hD
  have hf_587 : pf_586 q_585 = (.inl (eC E 2, p1.toNatClampNeg, .inr (.inr (.inr (.inr (fun _ => none)))))) := by rw [epf_586]; exact va_up_self _ _ _
  have hy_588 : q_585 ∈ (PL ++ [q_585]) := List.mem_append_right _ List.mem_cons_self
  refine lv_goto (tgt := 24) hx hb dJ7_copyOf_6403c_10 (by decide) ?_
  refine lv_astore_n (lv' := [(3, .ref q_585), (0, .ref p0), (1, .int p1), (2, .ref (eA E 1))]) hx hb dJ7_copyOf_6403c_24 rfl hl (by decide) rfl (fun ls hl => ?_)
  refine lv_aload_n hx hb dJ7_copyOf_6403c_25 rfl (lv_at hl 1 rfl) ?_
  refine lv_iconst (v := 0) hx hb dJ7_copyOf_6403c_26 (by decide) ?_
  refine lv_aload_n hx hb dJ7_copyOf_6403c_27 rfl (lv_at hl 0 rfl) ?_
  refine lv_iconst (v := 0) hx hb dJ7_copyOf_6403c_28 (by decide) ?_
  refine lv_aload_n hx hb dJ7_copyOf_6403c_29 rfl (lv_at hl 1 rfl) ?_
  obtain ⟨anz_589, afz_589, hyz_589, hfz_589, hw⟩ := hw
  obtain ⟨i_590, hi_590⟩ := va_pl_get (X := []) (f := pf_586) hyz_589
  have gi_590 := hi_590
  rw [hfz_589] at hi_590
  refine va_alen hx hb hKE.1 hP i_590 2 hi_590 rfl (v := (Int32.ofNat anz_589)) rfl dJ7_copyOf_6403c_30 ?_
  refine lv_iload_n hx hb dJ7_copyOf_6403c_31 rfl (lv_at hl 2 rfl) ?_
  refine va_mmin hx hb (hml.trans hl.1.symm) hown (hta _ tw_418) (hta _ tw_419) (hta _ tw_11) (hta _ tw_420) (Nat.le_of_ble_eq_true rfl) (Nat.le_of_ble_eq_true rfl) (Nat.le_of_ble_eq_true rfl) (Nat.le_of_ble_eq_true rfl) dJ7_copyOf_6403c_32 ?_
  obtain ⟨i_591, hi_591⟩ := va_pl_get (X := []) (f := pf_586) hyz_589
  have gi_591 := hi_591
  rw [hfz_589] at hi_591
  obtain ⟨i_592, hi_592⟩ := va_pl_get (X := []) (f := pf_586) hy_588
  have gi_592 := hi_592
  rw [hf_587] at hi_592
  obtain ⟨⟨h1k_593, h2k_593, h3k_593, h4k_593, h5k_593⟩, helk_593, hw⟩ := hw
  have hDo := hD
  refine va_copyq hx hb (hml.trans hl.1.symm) hown (hta _ tw_421) (hta _ tw_423) (hta _ tw_422) (hta _ tw_14) hKE.1 hP hD hS i_591 i_592 2 2 hi_591 hi_592 rfl rfl h1k_593 h2k_593 h3k_593 h4k_593 h5k_593 (C := RX0) (fun i hi y hy => by obtain ⟨h1, k1, k2, k3, k4, h2⟩ := helk_593 i hi y hy; exact cmd_cell hKE hP h1 h2) (vb_asgC (hKE.2.1 _ (List.mem_of_getElem? (i := 14) rfl))) (Nat.le_of_ble_eq_true rfl) (Nat.le_of_ble_eq_true rfl) dJ7_copyOf_6403c_35 (fun H locs hP hD hS => ?_)
  obtain ⟨hP, hD⟩ := pl_set hDo hy_588 gi_592 hP hD
  obtain ⟨pf_594, epf_594⟩ : ∃ z : Nat → va_E, z = va_up pf_586 q_585 (.inl (eC E 2, p1.toNatClampNeg, .inr (.inr (.inr (.inr (va_cpy afz_589 (fun _ => none) (0 : Int32).toNatClampNeg (0 : Int32).toNatClampNeg (if p1 < (Int32.ofNat anz_589) then p1 else (Int32.ofNat anz_589)).toNatClampNeg)))))) := ⟨_, rfl⟩
  have hw := hw pf_594 epf_594
  have hP : va_P (eD E) vwCl ([] ++ va_pl (PL ++ [q_585]) pf_594) H := by rw [epf_594]; exact hP
  have hD : va_D A ([] ++ va_pl (PL ++ [q_585]) pf_594) := by rw [epf_594]; exact hD
  have hf_595 : pf_594 q_585 = (.inl (eC E 2, p1.toNatClampNeg, .inr (.inr (.inr (.inr (va_cpy afz_589 (fun _ => none) (0 : Int32).toNatClampNeg (0 : Int32).toNatClampNeg (if p1 < (Int32.ofNat anz_589) then p1 else (Int32.ofNat anz_589)).toNatClampNeg)))))) := by rw [epf_594]; exact va_up_self _ _ _
  refine lv_aload_n hx hb dJ7_copyOf_6403c_38 rfl (lv_at hl 0 rfl) ?_
  have hP9 : va_P (eD E) vwCl (wQ (PL ++ [q_585]) pf_594) H := hP
  have hD9 : va_D A (wQ (PL ++ [q_585]) pf_594) := hD
  exact W.aret (v := .ref q_585) hx hb hr (Or.inr ⟨_, rfl⟩) (Or.inr ⟨_, rfl⟩) (fun t ht hW => ⟨⟨(some q_585), ((PL ++ [q_585]), pf_594), rfl, hw, ⟨by rw [ht]; exact hP9, hD9⟩⟩, hS.F ht⟩) hS.2.2 dJ7_copyOf_6403c_39
def wp_J7_copyOf_1904c (E : EV) (post : Option Nat → List Nat → (Nat → va_E) → Prop) (PL : List Nat) (pf : Nat → va_E) (p0 : Nat) (p1 : Int32) : Prop := (∃ (anz_596 : Nat) (afz_596 : Nat → Option Nat), p0 ∈ PL ∧ pf p0 = .inl (eC E 2, anz_596, .inr (.inr (.inr (.inr afz_596)))) ∧ (wp_J7_copyOf_6403c E (fun (r_598 : Option Nat) (PL_599 : List Nat) (pf_600 : Nat → va_E) => post r_598 PL_599 pf_600) PL pf p0 p1))
set_option maxHeartbeats 4000000 in
set_option maxRecDepth 100000 in
theorem c_J7_copyOf_1904c (E : EV) (l : Launch) (PL : List Nat) (pf : Nat → va_E) (p0 : Nat) (p1 : Int32) (hz : Nat) (post : Option Nat → List Nat → (Nat → va_E) → Prop) (hw : wp_J7_copyOf_1904c E post PL pf p0 p1) : Met l yJ7_copyOf_1904c (Cond.code yJ7_copyOf_1904c cJ7_copyOf_1904c 2 (some (.array (.object "java/lang/Object"))) :: ALLW) ({ frames := 2, cells := 1, slots := 32, locals := 41 } : Room) (va_Pc [.ref p0, .int p1] (preM E (wQ PL pf) hz)) (va_Qq (fun (r : Option Nat) (u : List Nat × (Nat → va_E)) => post r u.1 u.2) (fun (u : List Nat × (Nat → va_E)) t => va_P (eD E) vwCl (wQ u.1 u.2) t.heap ∧ va_D (va_A (wQ PL pf) hz) (wQ u.1 u.2)) (va_A (wQ PL pf) hz)) 1 32 (va_A (wQ PL pf) hz) := by
  refine Met.ofW (cc := cJ7_copyOf_1904c) (maxL := 2) (ret := (some (.array (.object "java/lang/Object")))) (by decide) rfl ?_
  intro p e s m args below meth c s₁ B hml hv
  obtain ⟨rfl, hpre⟩ := hv
  have hx := B.exec
  have hb := B.bytes
  have hr := B.returns
  have hlocks := B.notSynchronized
  have hts := atoms_spec (ws := (Cond.code yJ7_copyOf_1904c cJ7_copyOf_1904c 2 (some (.array (.object "java/lang/Object"))) :: ALLW)) B.pre
  have hta : ∀ w ∈ ALLW, w.before ([.ref p0, .int p1] : List Value).toArray s = true := fun w h => hts w (List.mem_cons_of_mem _ h)
  have hown : s.vm.findClass RJ7 = some m.cls := findClass_of_methodNamed B.named
  obtain ⟨hsz, hP, hKE, hD0, hZ⟩ := hpre
  subst hsz
  have hD := hD0.self (sz := s.heap.size)
  generalize hAe : va_A (wQ PL pf) s.heap.size = A at hD hZ ⊢
  have hA : ∀ q : Nat, s.heap.size ≤ q → A q := fun q h => by rw [← hAe]; exact Or.inr h
  have hS : va_S A s.heap s.heap [] := va_S.rf
  have hP : va_P (eD E) vwCl ([] ++ va_pl PL pf) s.heap := hP
  have hD : va_D A ([] ++ va_pl PL pf) := hD
  have hl := lv_entry ([.ref p0, .int p1]) (n := 2) (Nat.le_of_ble_eq_true rfl)
  rw [lg_entry_eq]
  generalize (lg_sl ([.ref p0, .int p1]) ++ List.replicate (2 - (lg_sl ([.ref p0, .int p1])).length) Slot.unset).toArray = ls at hl ⊢
  have hl : lv_has ls 2 [(0, .ref p0), (1, .int p1)] := hl
  unfold wp_J7_copyOf_1904c at hw
  refine lv_aload_n hx hb dJ7_copyOf_1904c_0 rfl (lv_at hl 0 rfl) ?_
  refine lv_iload_n hx hb dJ7_copyOf_1904c_1 rfl (lv_at hl 1 rfl) ?_
  refine lv_aload_n hx hb dJ7_copyOf_1904c_2 rfl (lv_at hl 0 rfl) ?_
  obtain ⟨anz_596, afz_596, hyz_596, hfz_596, hw⟩ := hw
  obtain ⟨i_597, hi_597⟩ := va_pl_get (X := []) (f := pf) hyz_596
  have gi_597 := hi_597
  rw [hfz_596] at hi_597
  refine va_getC hx hb (hml.trans hl.1.symm) hown (hta _ tw_401) (va_Dc.use hKE.2.2.2.2.1) (hta _ tw_800) (hta _ tw_402) (hta _ tw_411) hKE.2.2.2.1 (arr_cell hKE hP hi_597) (Nat.le_of_ble_eq_true rfl) (Nat.le_of_ble_eq_true rfl) dJ7_copyOf_1904c_3 ?_
  have hPc : va_P (eD E) vwCl (wQ PL pf) s.heap := hP
  have hDc : va_D A (wQ PL pf) := hD
  have hFc : ∀ q, va_A (wQ PL pf) s.heap.size q → A q := frS hDc hS hA
  refine va_callq (va_runS (As := [.ref p0, .int p1, .ref (eA E 1)]) (rest := []) ⟨hx, hb, hml, hown, hta⟩ (c_J7_copyOf_6403c E l PL pf p0 p1 s.heap.size _ hw) (pcS (n := 3) hta tw_414 tw_412 tw_13 tw_413 rfl rfl hd_J7_copyOf_6403c ⟨Nat.le_of_ble_eq_true rfl, Nat.le_of_ble_eq_true rfl⟩) ⟨fbM, fun U hU hW => ⟨rfl, preM.mk hPc hKE hDc hZ hS hFc hU hW⟩⟩ rfl rfl hl.1 rfl (lv_room (Nat.le_of_ble_eq_true rfl)) dJ7_copyOf_1904c_6 ⟨Nat.le_of_ble_eq_true rfl, Nat.le_of_ble_eq_true rfl⟩) hS (fun q _ h => hFc q h) hFc (fun r_598 u t H locs ht hvm hw hB hz1 hk1 hS => ?_)
  obtain ⟨PL_599, pf_600⟩ := u
  obtain ⟨hP1, hD1⟩ := hB
  rw [ht] at hP1
  try dsimp only at hw hP1 hD1
  have hP : va_P (eD E) vwCl ([] ++ va_pl PL_599 pf_600) H := hP1
  have hD : va_D A ([] ++ va_pl PL_599 pf_600) := hD1.weaken (fun _ q _ h => hFc q.1 h)
  have hP9 : va_P (eD E) vwCl (wQ PL_599 pf_600) H := hP
  have hD9 : va_D A (wQ PL_599 pf_600) := hD
  exact W.aret (v := va_rf r_598) hx hb hr (Or.inr ⟨_, rfl⟩) (va_rf_or _) (fun t ht hW => ⟨⟨r_598, (PL_599, pf_600), rfl, hw, ⟨by rw [ht]; exact hP9, hD9⟩⟩, hS.F ht⟩) hS.2.2 dJ7_copyOf_1904c_9
def wp_Jx4a65c_grow_92f84 (E : EV) (post : Option Nat → Int32 → Nat → Int32 → List Nat → (Nat → va_E) → Prop) (mo : Int32) (ad : Nat) (ln : Int32) (PL : List Nat) (pf : Nat → va_E) (p0 : Int32) : Prop := (∃ (anz_601 : Nat) (afz_601 : Nat → Option Nat), ad ∈ PL ∧ pf ad = .inl (eC E 2, anz_601, .inr (.inr (.inr (.inr afz_601)))) ∧ ((0 < (Int32.ofNat anz_601) → (wp_J8_newLength_cabcc E (fun r_604 : Int32 => (wp_J7_copyOf_1904c E (fun (r_605 : Option Nat) (PL_606 : List Nat) (pf_607 : Nat → va_E) => ((r_605 = none → False) ∧ (∀ y_608 : Nat, r_605 = some y_608 → post (some y_608) mo y_608 ln PL_606 pf_607))) PL pf ad r_604)) (Int32.ofNat anz_601) (p0 - (Int32.ofNat anz_601)) ((Int32.ofNat anz_601) >>> (1 &&& 31)))) ∧ (¬ (0 < (Int32.ofNat anz_601)) → False)))
set_option maxHeartbeats 4000000 in
set_option maxRecDepth 100000 in
theorem c_Jx4a65c_grow_92f84 (E : EV) (l : Launch) (la : Nat) (mo : Int32) (ad : Nat) (ln : Int32) (PL : List Nat) (pf : Nat → va_E) (p0 : Int32) (hz : Nat) (post : Option Nat → Int32 → Nat → Int32 → List Nat → (Nat → va_E) → Prop) (hw : wp_Jx4a65c_grow_92f84 E post mo ad ln PL pf p0) : Met l yJx4a65c_grow_92f84 (Cond.code yJx4a65c_grow_92f84 cJx4a65c_grow_92f84 4 (some (.array (.object "java/lang/Object"))) :: ALLW) ({ frames := 3, cells := 1, slots := 32, locals := 62 } : Room) (va_Pc [.ref la, .int p0] (preM E (wL la mo ad ln PL pf) hz)) (va_Qq (fun (r : Option Nat) (u : Int32 × Nat × Int32 × List Nat × (Nat → va_E)) => post r u.1 u.2.1 u.2.2.1 u.2.2.2.1 u.2.2.2.2) (fun (u : Int32 × Nat × Int32 × List Nat × (Nat → va_E)) t => va_P (eD E) vwCl (wL la u.1 u.2.1 u.2.2.1 u.2.2.2.1 u.2.2.2.2) t.heap ∧ va_D (va_A (wL la mo ad ln PL pf) hz) (wL la u.1 u.2.1 u.2.2.1 u.2.2.2.1 u.2.2.2.2)) (va_A (wL la mo ad ln PL pf) hz)) 1 32 (va_A (wL la mo ad ln PL pf) hz) := by
  refine Met.ofW (cc := cJx4a65c_grow_92f84) (maxL := 4) (ret := (some (.array (.object "java/lang/Object")))) (by decide) rfl ?_
  intro p e s m args below meth c s₁ B hml hv
  obtain ⟨rfl, hpre⟩ := hv
  have hx := B.exec
  have hb := B.bytes
  have hr := B.returns
  have hlocks := B.notSynchronized
  have hts := atoms_spec (ws := (Cond.code yJx4a65c_grow_92f84 cJx4a65c_grow_92f84 4 (some (.array (.object "java/lang/Object"))) :: ALLW)) B.pre
  have hta : ∀ w ∈ ALLW, w.before ([.ref la, .int p0] : List Value).toArray s = true := fun w h => hts w (List.mem_cons_of_mem _ h)
  have hown : s.vm.findClass RJx4a65c = some m.cls := findClass_of_methodNamed B.named
  obtain ⟨hsz, hP, hKE, hD0, hZ⟩ := hpre
  subst hsz
  have hD := hD0.self (sz := s.heap.size)
  generalize hAe : va_A (wL la mo ad ln PL pf) s.heap.size = A at hD hZ ⊢
  have hA : ∀ q : Nat, s.heap.size ≤ q → A q := fun q h => by rw [← hAe]; exact Or.inr h
  have hS : va_S A s.heap s.heap [] := va_S.rf
  have hP : va_P (eD E) vwCl ([(la, .inr (0, [.int mo, .ref ad, .int ln]))] ++ va_pl PL pf) s.heap := hP
  have hD : va_D A ([(la, .inr (0, [.int mo, .ref ad, .int ln]))] ++ va_pl PL pf) := hD
  have hl := lv_entry ([.ref la, .int p0]) (n := 4) (Nat.le_of_ble_eq_true rfl)
  rw [lg_entry_eq]
  generalize (lg_sl ([.ref la, .int p0]) ++ List.replicate (4 - (lg_sl ([.ref la, .int p0])).length) Slot.unset).toArray = ls at hl ⊢
  have hl : lv_has ls 4 [(0, .ref la), (1, .int p0)] := hl
  unfold wp_Jx4a65c_grow_92f84 at hw
  refine lv_aload_n hx hb dJx4a65c_grow_92f84_0 rfl (lv_at hl 0 rfl) ?_
  refine va_get (D := eD E) (ci := 0) (v := .ref ad) (C := RJx4a65c) (T := TJx4a65c) (N := 3) hx hb hta lay_AL hown hKE.1 hP 0 rfl rfl 1 (by decide) (hta _ tw_41) (fun _ h9 => h9) rfl dJx4a65c_grow_92f84_1 ?_
  obtain ⟨anz_601, afz_601, hyz_601, hfz_601, hw⟩ := hw
  obtain ⟨i_602, hi_602⟩ := va_pl_get (X := [(la, .inr (0, [.int mo, .ref ad, .int ln]))]) (f := pf) hyz_601
  have gi_602 := hi_602
  rw [hfz_601] at hi_602
  refine va_alen hx hb hKE.1 hP i_602 2 hi_602 rfl (v := (Int32.ofNat anz_601)) rfl dJx4a65c_grow_92f84_4 ?_
  refine lv_istore_n (lv' := [(2, .int (Int32.ofNat anz_601)), (0, .ref la), (1, .int p0)]) hx hb dJx4a65c_grow_92f84_5 rfl hl (by decide) rfl (fun ls hl => ?_)
  refine lv_iload_n hx hb dJx4a65c_grow_92f84_6 rfl (lv_at hl 0 rfl) ?_
  refine lv_if_gt (tgt := 20) hx hb dJx4a65c_grow_92f84_7 (by decide) (fun c_603 => ?_) (fun c_603 => ?_)
  · have hw := hw.1 c_603
    refine lv_iload_n hx hb dJx4a65c_grow_92f84_20 rfl (lv_at hl 0 rfl) ?_
    refine lv_iload_n hx hb dJx4a65c_grow_92f84_21 rfl (lv_at hl 2 rfl) ?_
    refine lv_iload_n hx hb dJx4a65c_grow_92f84_22 rfl (lv_at hl 0 rfl) ?_
    refine lv_isub hx hb dJx4a65c_grow_92f84_23 ?_
    refine lv_iload_n hx hb dJx4a65c_grow_92f84_24 rfl (lv_at hl 0 rfl) ?_
    refine lv_iconst (v := 1) hx hb dJx4a65c_grow_92f84_25 (by decide) ?_
    refine lv_ishr hx hb dJx4a65c_grow_92f84_26 ?_
    have hPc : va_P (eD E) vwCl [] s.heap := va_P_nil
    refine vp_callSi (va_Run.run (va_runS (As := [.int (Int32.ofNat anz_601), .int (p0 - (Int32.ofNat anz_601)), .int ((Int32.ofNat anz_601) >>> (1 &&& 31))]) (rest := []) ⟨hx, hb, hml, hown, hta⟩ (c_J8_newLength_cabcc E l (Int32.ofNat anz_601) (p0 - (Int32.ofNat anz_601)) ((Int32.ofNat anz_601) >>> (1 &&& 31)) _ hw) (pcS (n := 3) hta tw_392 tw_390 tw_12 tw_391 rfl rfl hd_J8_newLength_cabcc ⟨Nat.le_of_ble_eq_true rfl, Nat.le_of_ble_eq_true rfl⟩) ⟨fbR, fun U hU hW => ⟨rfl, preR.mk hPc hKE hU hW⟩⟩ rfl rfl hl.1 rfl (lv_room (Nat.le_of_ble_eq_true rfl)) dJx4a65c_grow_92f84_27 ⟨Nat.le_of_ble_eq_true rfl, Nat.le_of_ble_eq_true rfl⟩)) (fun r_604 hw => ?_)
    refine lv_istore_n (lv' := [(3, .int r_604), (2, .int (Int32.ofNat anz_601)), (0, .ref la), (1, .int p0)]) hx hb dJx4a65c_grow_92f84_30 rfl hl (by decide) rfl (fun ls hl => ?_)
    refine lv_aload_n hx hb dJx4a65c_grow_92f84_31 rfl (lv_at hl 2 rfl) ?_
    refine lv_aload_n hx hb dJx4a65c_grow_92f84_32 rfl (lv_at hl 2 rfl) ?_
    refine va_get (D := eD E) (ci := 0) (v := .ref ad) (C := RJx4a65c) (T := TJx4a65c) (N := 3) hx hb hta lay_AL hown hKE.1 hP 0 rfl rfl 1 (by decide) (hta _ tw_41) (fun _ h9 => h9) rfl dJx4a65c_grow_92f84_33 ?_
    refine lv_iload_n hx hb dJx4a65c_grow_92f84_36 rfl (lv_at hl 0 rfl) ?_
    have hPc : va_P (eD E) vwCl ([] ++ va_pl PL pf) s.heap := hP.part [] rfl
    have hDc : va_D A ([] ++ va_pl PL pf) := hD.part [] (by decide) rfl
    have hFc : ∀ q, va_A ([] ++ va_pl PL pf) s.heap.size q → A q := va_freeP hD hS hA [] rfl
    refine va_callq (va_runS (As := [.ref ad, .int r_604]) (rest := [.ref la]) ⟨hx, hb, hml, hown, hta⟩ (c_J7_copyOf_1904c E l PL pf ad r_604 s.heap.size _ hw) (pcS (n := 2) hta tw_400 tw_398 tw_13 tw_399 rfl rfl hd_J7_copyOf_1904c ⟨Nat.le_of_ble_eq_true rfl, Nat.le_of_ble_eq_true rfl⟩) ⟨fbM, fun U hU hW => ⟨rfl, preM.mk hPc hKE hDc hZ hS hFc hU hW⟩⟩ rfl rfl hl.1 rfl (lv_room (Nat.le_of_ble_eq_true rfl)) dJx4a65c_grow_92f84_37 ⟨Nat.le_of_ble_eq_true rfl, Nat.le_of_ble_eq_true rfl⟩) hS (fun q _ h => hFc q h) hFc (fun r_605 u t H locs ht hvm hw hB hz1 hk1 hS => ?_)
    obtain ⟨PL_606, pf_607⟩ := u
    obtain ⟨hP1, hD1⟩ := hB
    rw [ht] at hP1
    try dsimp only at hw hP1 hD1
    obtain ⟨hP, hD⟩ := va_joinP (wr := [(la, .inr (0, [.int mo, .ref ad, .int ln]))]) (rx := []) (pl1 := va_pl PL_606 pf_607) hP hD [] [0] rfl rfl (by decide) (by decide) hk1 hFc hP1 hD1
    have hP : va_P (eD E) vwCl ([(la, .inr (0, [.int mo, .ref ad, .int ln]))] ++ va_pl PL_606 pf_607) H := hP
    have hD : va_D A ([(la, .inr (0, [.int mo, .ref ad, .int ln]))] ++ va_pl PL_606 pf_607) := hD
    rcases r_605 with _ | y_608
    · have hw := hw.1 rfl
      refine lv_dup_x1 hx hb dJx4a65c_grow_92f84_40 rfl rfl ?_
      exact hw.elim
    · have hw := hw.2 y_608 rfl
      refine lv_dup_x1 hx hb dJx4a65c_grow_92f84_40 rfl rfl ?_
      refine va_put (D := eD E) (ci := 0) (v := .ref y_608) (ty := .array (.object "java/lang/Object")) (C := RJx4a65c) (T := TJx4a65c) (N := 3) hx hb hta lay_AL tyJx4a65c tyJx4a65c_ok nmJx4a65c hown hKE.1 hP hD hS 0 rfl rfl 1 (by decide) (hta _ tw_41) (fun _ h9 => h9) rfl (by decide +kernel) rfl rfl (Nat.le_of_ble_eq_true rfl) dJx4a65c_grow_92f84_41 (fun H locs hP hD hS => ?_)
      have hP : va_P (eD E) vwCl ([(la, .inr (0, [.int mo, .ref y_608, .int ln]))] ++ va_pl PL_606 pf_607) H := hP
      have hD : va_D A ([(la, .inr (0, [.int mo, .ref y_608, .int ln]))] ++ va_pl PL_606 pf_607) := hD
      have hP9 : va_P (eD E) vwCl (wL la mo y_608 ln PL_606 pf_607) H := hP
      have hD9 : va_D A (wL la mo y_608 ln PL_606 pf_607) := hD
      exact W.aret (v := .ref y_608) hx hb hr (Or.inr ⟨_, rfl⟩) (Or.inr ⟨_, rfl⟩) (fun t ht hW => ⟨⟨(some y_608), (mo, y_608, ln, PL_606, pf_607), rfl, hw, ⟨by rw [ht]; exact hP9, hD9⟩⟩, hS.F ht⟩) hS.2.2 dJx4a65c_grow_92f84_44
  · have hw := hw.2 c_603
    exact hw.elim
def wp_Jx4a65c_grow_92f84_v (E : EV) (post : Option Nat → Int32 → Nat → Int32 → List Nat → (Nat → va_E) → Prop) (mo : Int32) (ln : Int32) (PL : List Nat) (pf : Nat → va_E) (p0 : Int32) : Prop := ((¬ (if 10 < p0 then p0 else 10) < 0 ∧ (if 10 < p0 then p0 else 10).toNatClampNeg ≤ 32) ∧ (∀ q_610 : Nat, q_610 ∉ PL → ¬ q_610 = eA E 0 → ∀ pf_611 : Nat → va_E, pf_611 = va_up pf q_610 (.inl (eC E 2, (if 10 < p0 then p0 else 10).toNatClampNeg, .inr (.inr (.inr (.inr (fun _ => none)))))) → post (some q_610) mo q_610 ln (PL ++ [q_610]) pf_611))
set_option maxHeartbeats 4000000 in
set_option maxRecDepth 100000 in
theorem c_Jx4a65c_grow_92f84_v (E : EV) (l : Launch) (la : Nat) (mo : Int32) (ln : Int32) (PL : List Nat) (pf : Nat → va_E) (p0 : Int32) (hz : Nat) (post : Option Nat → Int32 → Nat → Int32 → List Nat → (Nat → va_E) → Prop) (hw : wp_Jx4a65c_grow_92f84_v E post mo ln PL pf p0) : Met l yJx4a65c_grow_92f84 (Cond.code yJx4a65c_grow_92f84 cJx4a65c_grow_92f84 4 (some (.array (.object "java/lang/Object"))) :: ALLW) ({ frames := 1, cells := 1, slots := 32, locals := 14 } : Room) (va_Pc [.ref la, .int p0] (preM E (wL la mo (eA E 0) ln PL pf) hz)) (va_Qq (fun (r : Option Nat) (u : Int32 × Nat × Int32 × List Nat × (Nat → va_E)) => post r u.1 u.2.1 u.2.2.1 u.2.2.2.1 u.2.2.2.2) (fun (u : Int32 × Nat × Int32 × List Nat × (Nat → va_E)) t => va_P (eD E) vwCl (wL la u.1 u.2.1 u.2.2.1 u.2.2.2.1 u.2.2.2.2) t.heap ∧ va_D (va_A (wL la mo (eA E 0) ln PL pf) hz) (wL la u.1 u.2.1 u.2.2.1 u.2.2.2.1 u.2.2.2.2)) (va_A (wL la mo (eA E 0) ln PL pf) hz)) 1 32 (va_A (wL la mo (eA E 0) ln PL pf) hz) := by
  refine Met.ofW (cc := cJx4a65c_grow_92f84) (maxL := 4) (ret := (some (.array (.object "java/lang/Object")))) (by decide) rfl ?_
  intro p e s m args below meth c s₁ B hml hv
  obtain ⟨rfl, hpre⟩ := hv
  have hx := B.exec
  have hb := B.bytes
  have hr := B.returns
  have hlocks := B.notSynchronized
  have hts := atoms_spec (ws := (Cond.code yJx4a65c_grow_92f84 cJx4a65c_grow_92f84 4 (some (.array (.object "java/lang/Object"))) :: ALLW)) B.pre
  have hta : ∀ w ∈ ALLW, w.before ([.ref la, .int p0] : List Value).toArray s = true := fun w h => hts w (List.mem_cons_of_mem _ h)
  have hown : s.vm.findClass RJx4a65c = some m.cls := findClass_of_methodNamed B.named
  obtain ⟨hsz, hP, hKE, hD0, hZ⟩ := hpre
  subst hsz
  have hD := hD0.self (sz := s.heap.size)
  generalize hAe : va_A (wL la mo (eA E 0) ln PL pf) s.heap.size = A at hD hZ ⊢
  have hA : ∀ q : Nat, s.heap.size ≤ q → A q := fun q h => by rw [← hAe]; exact Or.inr h
  have hS : va_S A s.heap s.heap [] := va_S.rf
  have hP : va_P (eD E) vwCl ([(la, .inr (0, [.int mo, .ref (eA E 0), .int ln]))] ++ va_pl PL pf) s.heap := hP
  have hD : va_D A ([(la, .inr (0, [.int mo, .ref (eA E 0), .int ln]))] ++ va_pl PL pf) := hD
  have hl := lv_entry ([.ref la, .int p0]) (n := 4) (Nat.le_of_ble_eq_true rfl)
  rw [lg_entry_eq]
  generalize (lg_sl ([.ref la, .int p0]) ++ List.replicate (4 - (lg_sl ([.ref la, .int p0])).length) Slot.unset).toArray = ls at hl ⊢
  have hl : lv_has ls 4 [(0, .ref la), (1, .int p0)] := hl
  unfold wp_Jx4a65c_grow_92f84_v at hw
  refine lv_aload_n hx hb dJx4a65c_grow_92f84_0 rfl (lv_at hl 0 rfl) ?_
  refine va_get (D := eD E) (ci := 0) (v := .ref (eA E 0)) (C := RJx4a65c) (T := TJx4a65c) (N := 3) hx hb hta lay_AL hown hKE.1 hP 0 rfl rfl 1 (by decide) (hta _ tw_41) (fun _ h9 => h9) rfl dJx4a65c_grow_92f84_1 ?_
  refine va_tlen hx hb hZ.2.1 hS (v := 0) (by decide) dJx4a65c_grow_92f84_4 ?_
  refine lv_istore_n (lv' := [(2, .int 0), (0, .ref la), (1, .int p0)]) hx hb dJx4a65c_grow_92f84_5 rfl hl (by decide) rfl (fun ls hl => ?_)
  refine lv_iload_n hx hb dJx4a65c_grow_92f84_6 rfl (lv_at hl 0 rfl) ?_
  refine lv_if_gt (tgt := 20) hx hb dJx4a65c_grow_92f84_7 (by decide) (fun c9 => absurd c9 (by decide)) (fun _ => ?_)
  refine lv_aload_n hx hb dJx4a65c_grow_92f84_10 rfl (lv_at hl 1 rfl) ?_
  refine va_get (D := eD E) (ci := 0) (v := .ref (eA E 0)) (C := RJx4a65c) (T := TJx4a65c) (N := 3) hx hb hta lay_AL hown hKE.1 hP 0 rfl rfl 1 (by decide) (hta _ tw_41) (fun _ h9 => h9) rfl dJx4a65c_grow_92f84_11 ?_
  refine va_gets hx hb hZ.1 hS hown (hta _ tw_39) (fun _ h9 => h9) dJx4a65c_grow_92f84_14 ?_
  refine lv_acmp_eq (rx := some (eA E 0)) (ry := some (eA E 0)) (tgt := 45) hx hb dJx4a65c_grow_92f84_17 (by decide) (fun _ => ?_) (fun c9 => absurd rfl c9)
  refine lv_aload_n hx hb dJx4a65c_grow_92f84_45 rfl (lv_at hl 1 rfl) ?_
  refine lv_bipush (v := 10) hx hb dJx4a65c_grow_92f84_46 (by decide) ?_
  refine lv_iload_n hx hb dJx4a65c_grow_92f84_48 rfl (lv_at hl 2 rfl) ?_
  refine va_mmax hx hb (hml.trans hl.1.symm) hown (hta _ tw_424) (hta _ tw_195) (hta _ tw_11) (hta _ tw_196) (Nat.le_of_ble_eq_true rfl) (Nat.le_of_ble_eq_true rfl) (Nat.le_of_ble_eq_true rfl) (Nat.le_of_ble_eq_true rfl) dJx4a65c_grow_92f84_49 ?_
  obtain ⟨⟨hnk_609, hmk_609⟩, hw⟩ := hw
  refine va_newq hx hb hown (hta _ tw_425) hKE.2.2.1 hKE.1 hP hD hS hA hnk_609 rfl (by have := hmk_609; omega) (Nat.le_of_ble_eq_true rfl) (Nat.le_trans (Nat.add_le_add_left hmk_609 0) (Nat.le_of_ble_eq_true rfl)) dJx4a65c_grow_92f84_52 (fun q_610 cA H hK9 hP hD hS => ?_)
  have hcA := newO hKE hK9
  subst hcA
  refine W.widen (k := 1) (n := 32) (Nat.le_of_ble_eq_true rfl) (Nat.add_le_add_left hmk_609 0) ?_
  have hqe := newq_ne hZ hD
  obtain ⟨hqk_609, hP, hD⟩ := pl_push hP hD
  obtain ⟨pf_611, epf_611⟩ : ∃ z : Nat → va_E, z = va_up pf q_610 (.inl (eC E 2, (if 10 < p0 then p0 else 10).toNatClampNeg, .inr (.inr (.inr (.inr (fun _ => none)))))) := ⟨_, rfl⟩
  have hw := hw q_610 hqk_609 hqe pf_611 epf_611
  have hP : va_P (eD E) vwCl ([(la, .inr (0, [.int mo, .ref (eA E 0), .int ln]))] ++ va_pl (PL ++ [q_610]) pf_611) H := by rw [epf_611]; exact hP
  have hD : va_D A ([(la, .inr (0, [.int mo, .ref (eA E 0), .int ln]))] ++ va_pl (PL ++ [q_610]) pf_611) := by rw [epf_611]; exact hD
  have hf_612 : pf_611 q_610 = (.inl (eC E 2, (if 10 < p0 then p0 else 10).toNatClampNeg, .inr (.inr (.inr (.inr (fun _ => none)))))) := by rw [epf_611]; exact va_up_self _ _ _
  have hy_613 : q_610 ∈ (PL ++ [q_610]) := List.mem_append_right _ List.mem_cons_self
  refine lv_dup_x1 hx hb dJx4a65c_grow_92f84_55 rfl rfl ?_
  refine va_put (D := eD E) (ci := 0) (v := .ref q_610) (ty := .array (.object "java/lang/Object")) (C := RJx4a65c) (T := TJx4a65c) (N := 3) hx hb hta lay_AL tyJx4a65c tyJx4a65c_ok nmJx4a65c hown hKE.1 hP hD hS 0 rfl rfl 1 (by decide) (hta _ tw_41) (fun _ h9 => h9) rfl (by decide +kernel) rfl rfl (Nat.le_of_ble_eq_true rfl) dJx4a65c_grow_92f84_56 (fun H locs hP hD hS => ?_)
  have hP : va_P (eD E) vwCl ([(la, .inr (0, [.int mo, .ref q_610, .int ln]))] ++ va_pl (PL ++ [q_610]) pf_611) H := hP
  have hD : va_D A ([(la, .inr (0, [.int mo, .ref q_610, .int ln]))] ++ va_pl (PL ++ [q_610]) pf_611) := hD
  have hP9 : va_P (eD E) vwCl (wL la mo q_610 ln (PL ++ [q_610]) pf_611) H := hP
  have hD9 : va_D A (wL la mo q_610 ln (PL ++ [q_610]) pf_611) := hD
  exact W.aret (v := .ref q_610) hx hb hr (Or.inr ⟨_, rfl⟩) (Or.inr ⟨_, rfl⟩) (fun t ht hW => ⟨⟨(some q_610), (mo, q_610, ln, (PL ++ [q_610]), pf_611), rfl, hw, ⟨by rw [ht]; exact hP9, hD9⟩⟩, hS.F ht⟩) hS.2.2 dJx4a65c_grow_92f84_59
def wp_Jx4a65c_grow_d5877 (E : EV) (post : Option Nat → Int32 → Nat → Int32 → List Nat → (Nat → va_E) → Prop) (mo : Int32) (ad : Nat) (ln : Int32) (PL : List Nat) (pf : Nat → va_E) : Prop := (wp_Jx4a65c_grow_92f84 E (fun (r_614 : Option Nat) (mo_615 : Int32) (ad_616 : Nat) (ln_617 : Int32) (PL_618 : List Nat) (pf_619 : Nat → va_E) => post r_614 mo_615 ad_616 ln_617 PL_618 pf_619) mo ad ln PL pf (ln + 1))
set_option maxHeartbeats 4000000 in
set_option maxRecDepth 100000 in
theorem c_Jx4a65c_grow_d5877 (E : EV) (l : Launch) (la : Nat) (mo : Int32) (ad : Nat) (ln : Int32) (PL : List Nat) (pf : Nat → va_E) (hz : Nat) (post : Option Nat → Int32 → Nat → Int32 → List Nat → (Nat → va_E) → Prop) (hw : wp_Jx4a65c_grow_d5877 E post mo ad ln PL pf) : Met l yJx4a65c_grow_d5877 (Cond.code yJx4a65c_grow_d5877 cJx4a65c_grow_d5877 1 (some (.array (.object "java/lang/Object"))) :: ALLW) ({ frames := 4, cells := 1, slots := 32, locals := 85 } : Room) (va_Pc [.ref la] (preM E (wL la mo ad ln PL pf) hz)) (va_Qq (fun (r : Option Nat) (u : Int32 × Nat × Int32 × List Nat × (Nat → va_E)) => post r u.1 u.2.1 u.2.2.1 u.2.2.2.1 u.2.2.2.2) (fun (u : Int32 × Nat × Int32 × List Nat × (Nat → va_E)) t => va_P (eD E) vwCl (wL la u.1 u.2.1 u.2.2.1 u.2.2.2.1 u.2.2.2.2) t.heap ∧ va_D (va_A (wL la mo ad ln PL pf) hz) (wL la u.1 u.2.1 u.2.2.1 u.2.2.2.1 u.2.2.2.2)) (va_A (wL la mo ad ln PL pf) hz)) 1 32 (va_A (wL la mo ad ln PL pf) hz) := by
  refine Met.ofW (cc := cJx4a65c_grow_d5877) (maxL := 1) (ret := (some (.array (.object "java/lang/Object")))) (by decide) rfl ?_
  intro p e s m args below meth c s₁ B hml hv
  obtain ⟨rfl, hpre⟩ := hv
  have hx := B.exec
  have hb := B.bytes
  have hr := B.returns
  have hlocks := B.notSynchronized
  have hts := atoms_spec (ws := (Cond.code yJx4a65c_grow_d5877 cJx4a65c_grow_d5877 1 (some (.array (.object "java/lang/Object"))) :: ALLW)) B.pre
  have hta : ∀ w ∈ ALLW, w.before ([.ref la] : List Value).toArray s = true := fun w h => hts w (List.mem_cons_of_mem _ h)
  have hown : s.vm.findClass RJx4a65c = some m.cls := findClass_of_methodNamed B.named
  obtain ⟨hsz, hP, hKE, hD0, hZ⟩ := hpre
  subst hsz
  have hD := hD0.self (sz := s.heap.size)
  generalize hAe : va_A (wL la mo ad ln PL pf) s.heap.size = A at hD hZ ⊢
  have hA : ∀ q : Nat, s.heap.size ≤ q → A q := fun q h => by rw [← hAe]; exact Or.inr h
  have hS : va_S A s.heap s.heap [] := va_S.rf
  have hP : va_P (eD E) vwCl ([(la, .inr (0, [.int mo, .ref ad, .int ln]))] ++ va_pl PL pf) s.heap := hP
  have hD : va_D A ([(la, .inr (0, [.int mo, .ref ad, .int ln]))] ++ va_pl PL pf) := hD
  have hl := lv_entry ([.ref la]) (n := 1) (Nat.le_of_ble_eq_true rfl)
  rw [lg_entry_eq]
  generalize (lg_sl ([.ref la]) ++ List.replicate (1 - (lg_sl ([.ref la])).length) Slot.unset).toArray = ls at hl ⊢
  have hl : lv_has ls 1 [(0, .ref la)] := hl
  unfold wp_Jx4a65c_grow_d5877 at hw
  refine lv_aload_n hx hb dJx4a65c_grow_d5877_0 rfl (lv_at hl 0 rfl) ?_
  refine lv_aload_n hx hb dJx4a65c_grow_d5877_1 rfl (lv_at hl 0 rfl) ?_
  refine va_get (D := eD E) (ci := 0) (v := .int ln) (C := RJx4a65c) (T := TJx4a65c) (N := 3) hx hb hta lay_AL hown hKE.1 hP 0 rfl rfl 2 (by decide) (hta _ tw_42) (fun _ h9 => h9) rfl dJx4a65c_grow_d5877_2 ?_
  refine lv_iconst (v := 1) hx hb dJx4a65c_grow_d5877_5 (by decide) ?_
  refine lv_iadd hx hb dJx4a65c_grow_d5877_6 ?_
  have hPc : va_P (eD E) vwCl (wL la mo ad ln PL pf) s.heap := hP
  have hDc : va_D A (wL la mo ad ln PL pf) := hD
  have hFc : ∀ q, va_A (wL la mo ad ln PL pf) s.heap.size q → A q := frS hDc hS hA
  refine va_callq (va_runV (As := [.int (ln + 1)]) (rest := []) ⟨hx, hb, hml, hown, hta⟩ (c_Jx4a65c_grow_92f84 E l la mo ad ln PL pf (ln + 1) s.heap.size _ hw) (pcV (n := 1) hta tw_389 tw_386 tw_4 tw_388 tp_22 rfl rfl hd_Jx4a65c_grow_92f84 ⟨Nat.le_of_ble_eq_true rfl, Nat.le_of_ble_eq_true rfl⟩) ⟨fbM, va_recv hKE.1 hP (ci := 0) (q0 := 0) rfl rfl, fun U hU hW => ⟨rfl, preM.mk hPc hKE hDc hZ hS hFc hU hW⟩⟩ rfl rfl hl.1 rfl (lv_room (Nat.le_of_ble_eq_true rfl)) dJx4a65c_grow_d5877_7 ⟨Nat.le_of_ble_eq_true rfl, Nat.le_of_ble_eq_true rfl⟩) hS (fun q _ h => hFc q h) hFc (fun r_614 u t H locs ht hvm hw hB hz1 hk1 hS => ?_)
  obtain ⟨mo_615, ad_616, ln_617, PL_618, pf_619⟩ := u
  obtain ⟨hP1, hD1⟩ := hB
  rw [ht] at hP1
  try dsimp only at hw hP1 hD1
  have hP : va_P (eD E) vwCl ([(la, .inr (0, [.int mo_615, .ref ad_616, .int ln_617]))] ++ va_pl PL_618 pf_619) H := hP1
  have hD : va_D A ([(la, .inr (0, [.int mo_615, .ref ad_616, .int ln_617]))] ++ va_pl PL_618 pf_619) := hD1.weaken (fun _ q _ h => hFc q.1 h)
  have hP9 : va_P (eD E) vwCl (wL la mo_615 ad_616 ln_617 PL_618 pf_619) H := hP
  have hD9 : va_D A (wL la mo_615 ad_616 ln_617 PL_618 pf_619) := hD
  exact W.aret (v := va_rf r_614) hx hb hr (Or.inr ⟨_, rfl⟩) (va_rf_or _) (fun t ht hW => ⟨⟨r_614, (mo_615, ad_616, ln_617, PL_618, pf_619), rfl, hw, ⟨by rw [ht]; exact hP9, hD9⟩⟩, hS.F ht⟩) hS.2.2 dJx4a65c_grow_d5877_10
def wp_Jx4a65c_grow_d5877_v (E : EV) (post : Option Nat → Int32 → Nat → Int32 → List Nat → (Nat → va_E) → Prop) (mo : Int32) (ln : Int32) (PL : List Nat) (pf : Nat → va_E) : Prop := (wp_Jx4a65c_grow_92f84_v E (fun (r_620 : Option Nat) (mo_621 : Int32) (ad_622 : Nat) (ln_623 : Int32) (PL_624 : List Nat) (pf_625 : Nat → va_E) => post r_620 mo_621 ad_622 ln_623 PL_624 pf_625) mo ln PL pf (ln + 1))
set_option maxHeartbeats 4000000 in
set_option maxRecDepth 100000 in
theorem c_Jx4a65c_grow_d5877_v (E : EV) (l : Launch) (la : Nat) (mo : Int32) (ln : Int32) (PL : List Nat) (pf : Nat → va_E) (hz : Nat) (post : Option Nat → Int32 → Nat → Int32 → List Nat → (Nat → va_E) → Prop) (hw : wp_Jx4a65c_grow_d5877_v E post mo ln PL pf) : Met l yJx4a65c_grow_d5877 (Cond.code yJx4a65c_grow_d5877 cJx4a65c_grow_d5877 1 (some (.array (.object "java/lang/Object"))) :: ALLW) ({ frames := 2, cells := 1, slots := 32, locals := 37 } : Room) (va_Pc [.ref la] (preM E (wL la mo (eA E 0) ln PL pf) hz)) (va_Qq (fun (r : Option Nat) (u : Int32 × Nat × Int32 × List Nat × (Nat → va_E)) => post r u.1 u.2.1 u.2.2.1 u.2.2.2.1 u.2.2.2.2) (fun (u : Int32 × Nat × Int32 × List Nat × (Nat → va_E)) t => va_P (eD E) vwCl (wL la u.1 u.2.1 u.2.2.1 u.2.2.2.1 u.2.2.2.2) t.heap ∧ va_D (va_A (wL la mo (eA E 0) ln PL pf) hz) (wL la u.1 u.2.1 u.2.2.1 u.2.2.2.1 u.2.2.2.2)) (va_A (wL la mo (eA E 0) ln PL pf) hz)) 1 32 (va_A (wL la mo (eA E 0) ln PL pf) hz) := by
  refine Met.ofW (cc := cJx4a65c_grow_d5877) (maxL := 1) (ret := (some (.array (.object "java/lang/Object")))) (by decide) rfl ?_
  intro p e s m args below meth c s₁ B hml hv
  obtain ⟨rfl, hpre⟩ := hv
  have hx := B.exec
  have hb := B.bytes
  have hr := B.returns
  have hlocks := B.notSynchronized
  have hts := atoms_spec (ws := (Cond.code yJx4a65c_grow_d5877 cJx4a65c_grow_d5877 1 (some (.array (.object "java/lang/Object"))) :: ALLW)) B.pre
  have hta : ∀ w ∈ ALLW, w.before ([.ref la] : List Value).toArray s = true := fun w h => hts w (List.mem_cons_of_mem _ h)
  have hown : s.vm.findClass RJx4a65c = some m.cls := findClass_of_methodNamed B.named
  obtain ⟨hsz, hP, hKE, hD0, hZ⟩ := hpre
  subst hsz
  have hD := hD0.self (sz := s.heap.size)
  generalize hAe : va_A (wL la mo (eA E 0) ln PL pf) s.heap.size = A at hD hZ ⊢
  have hA : ∀ q : Nat, s.heap.size ≤ q → A q := fun q h => by rw [← hAe]; exact Or.inr h
  have hS : va_S A s.heap s.heap [] := va_S.rf
  have hP : va_P (eD E) vwCl ([(la, .inr (0, [.int mo, .ref (eA E 0), .int ln]))] ++ va_pl PL pf) s.heap := hP
  have hD : va_D A ([(la, .inr (0, [.int mo, .ref (eA E 0), .int ln]))] ++ va_pl PL pf) := hD
  have hl := lv_entry ([.ref la]) (n := 1) (Nat.le_of_ble_eq_true rfl)
  rw [lg_entry_eq]
  generalize (lg_sl ([.ref la]) ++ List.replicate (1 - (lg_sl ([.ref la])).length) Slot.unset).toArray = ls at hl ⊢
  have hl : lv_has ls 1 [(0, .ref la)] := hl
  unfold wp_Jx4a65c_grow_d5877_v at hw
  refine lv_aload_n hx hb dJx4a65c_grow_d5877_0 rfl (lv_at hl 0 rfl) ?_
  refine lv_aload_n hx hb dJx4a65c_grow_d5877_1 rfl (lv_at hl 0 rfl) ?_
  refine va_get (D := eD E) (ci := 0) (v := .int ln) (C := RJx4a65c) (T := TJx4a65c) (N := 3) hx hb hta lay_AL hown hKE.1 hP 0 rfl rfl 2 (by decide) (hta _ tw_42) (fun _ h9 => h9) rfl dJx4a65c_grow_d5877_2 ?_
  refine lv_iconst (v := 1) hx hb dJx4a65c_grow_d5877_5 (by decide) ?_
  refine lv_iadd hx hb dJx4a65c_grow_d5877_6 ?_
  have hPc : va_P (eD E) vwCl (wL la mo (eA E 0) ln PL pf) s.heap := hP
  have hDc : va_D A (wL la mo (eA E 0) ln PL pf) := hD
  have hFc : ∀ q, va_A (wL la mo (eA E 0) ln PL pf) s.heap.size q → A q := frS hDc hS hA
  refine va_callq (va_runV (As := [.int (ln + 1)]) (rest := []) ⟨hx, hb, hml, hown, hta⟩ (c_Jx4a65c_grow_92f84_v E l la mo ln PL pf (ln + 1) s.heap.size _ hw) (pcV (n := 1) hta tw_389 tw_386 tw_4 tw_388 tp_22 rfl rfl hd_Jx4a65c_grow_92f84 ⟨Nat.le_of_ble_eq_true rfl, Nat.le_of_ble_eq_true rfl⟩) ⟨fbM, va_recv hKE.1 hP (ci := 0) (q0 := 0) rfl rfl, fun U hU hW => ⟨rfl, preM.mk hPc hKE hDc hZ hS hFc hU hW⟩⟩ rfl rfl hl.1 rfl (lv_room (Nat.le_of_ble_eq_true rfl)) dJx4a65c_grow_d5877_7 ⟨Nat.le_of_ble_eq_true rfl, Nat.le_of_ble_eq_true rfl⟩) hS (fun q _ h => hFc q h) hFc (fun r_620 u t H locs ht hvm hw hB hz1 hk1 hS => ?_)
  obtain ⟨mo_621, ad_622, ln_623, PL_624, pf_625⟩ := u
  obtain ⟨hP1, hD1⟩ := hB
  rw [ht] at hP1
  try dsimp only at hw hP1 hD1
  have hP : va_P (eD E) vwCl ([(la, .inr (0, [.int mo_621, .ref ad_622, .int ln_623]))] ++ va_pl PL_624 pf_625) H := hP1
  have hD : va_D A ([(la, .inr (0, [.int mo_621, .ref ad_622, .int ln_623]))] ++ va_pl PL_624 pf_625) := hD1.weaken (fun _ q _ h => hFc q.1 h)
  have hP9 : va_P (eD E) vwCl (wL la mo_621 ad_622 ln_623 PL_624 pf_625) H := hP
  have hD9 : va_D A (wL la mo_621 ad_622 ln_623 PL_624 pf_625) := hD
  exact W.aret (v := va_rf r_620) hx hb hr (Or.inr ⟨_, rfl⟩) (va_rf_or _) (fun t ht hW => ⟨⟨r_620, (mo_621, ad_622, ln_623, PL_624, pf_625), rfl, hw, ⟨by rw [ht]; exact hP9, hD9⟩⟩, hS.F ht⟩) hS.2.2 dJx4a65c_grow_d5877_10
def wp_Jx4a65c_add_72be8 (E : EV) (post : Int32 → Nat → Int32 → List Nat → (Nat → va_E) → Prop) (mo : Int32) (ad : Nat) (ln : Int32) (PL : List Nat) (pf : Nat → va_E) (cm : Nat) (p1 : Nat) (p2 : Int32) : Prop := (∃ (anz_626 : Nat) (afz_626 : Nat → Option Nat), p1 ∈ PL ∧ pf p1 = .inl (eC E 2, anz_626, .inr (.inr (.inr (.inr afz_626)))) ∧ ((p2 = (Int32.ofNat anz_626) → (wp_Jx4a65c_grow_d5877 E (fun (r_635 : Option Nat) (mo_636 : Int32) (ad_637 : Nat) (ln_638 : Int32) (PL_639 : List Nat) (pf_640 : Nat → va_E) => ((r_635 = none → False) ∧ (∀ y_641 : Nat, r_635 = some y_641 → (∃ ckz_642 cxz_642 cyz_642 cpz_642 : Int32, cm ∈ PL_639 ∧ pf_640 cm = .inr (1, [.int ckz_642, .int cxz_642, .int cyz_642, .int cpz_642]) ∧ (∃ (anz_644 : Nat) (afz_644 : Nat → Option Nat), y_641 ∈ PL_639 ∧ pf_640 y_641 = .inl (eC E 2, anz_644, .inr (.inr (.inr (.inr afz_644)))) ∧ (vp_in p2 anz_644 ∧ (∀ pf_647 : Nat → va_E, pf_647 = va_up pf_640 y_641 (.inl (eC E 2, anz_644, .inr (.inr (.inr (.inr (va_up afz_644 p2.toNatClampNeg (some cm))))))) → post mo_636 ad_637 (p2 + 1) PL_639 pf_647))))))) mo ad ln PL pf)) ∧ (¬ (p2 = (Int32.ofNat anz_626)) → (∃ ckz_629 cxz_629 cyz_629 cpz_629 : Int32, cm ∈ PL ∧ pf cm = .inr (1, [.int ckz_629, .int cxz_629, .int cyz_629, .int cpz_629]) ∧ (vp_in p2 anz_626 ∧ (∀ pf_633 : Nat → va_E, pf_633 = va_up pf p1 (.inl (eC E 2, anz_626, .inr (.inr (.inr (.inr (va_up afz_626 p2.toNatClampNeg (some cm))))))) → post mo ad (p2 + 1) PL pf_633))))))
set_option maxHeartbeats 4000000 in
set_option maxRecDepth 100000 in
theorem c_Jx4a65c_add_72be8 (E : EV) (l : Launch) (la : Nat) (mo : Int32) (ad : Nat) (ln : Int32) (PL : List Nat) (pf : Nat → va_E) (cm : Nat) (p1 : Nat) (p2 : Int32) (hz : Nat) (post : Int32 → Nat → Int32 → List Nat → (Nat → va_E) → Prop) (hw : wp_Jx4a65c_add_72be8 E post mo ad ln PL pf cm p1 p2) : Met l yJx4a65c_add_72be8 (Cond.code yJx4a65c_add_72be8 cJx4a65c_add_72be8 4 none :: ALLW) ({ frames := 5, cells := 1, slots := 32, locals := 105 } : Room) (va_Pc [.ref la, .ref cm, .ref p1, .int p2] (preM E (wL la mo ad ln PL pf) hz)) (va_Qv (fun (u : Int32 × Nat × Int32 × List Nat × (Nat → va_E)) => post u.1 u.2.1 u.2.2.1 u.2.2.2.1 u.2.2.2.2) (fun (u : Int32 × Nat × Int32 × List Nat × (Nat → va_E)) t => va_P (eD E) vwCl (wL la u.1 u.2.1 u.2.2.1 u.2.2.2.1 u.2.2.2.2) t.heap ∧ va_D (va_A (wL la mo ad ln PL pf) hz) (wL la u.1 u.2.1 u.2.2.1 u.2.2.2.1 u.2.2.2.2)) (va_A (wL la mo ad ln PL pf) hz)) 1 32 (va_A (wL la mo ad ln PL pf) hz) := by
  refine Met.ofW (cc := cJx4a65c_add_72be8) (maxL := 4) (ret := none) (by decide) rfl ?_
  intro p e s m args below meth c s₁ B hml hv
  obtain ⟨rfl, hpre⟩ := hv
  have hx := B.exec
  have hb := B.bytes
  have hr := B.returns
  have hlocks := B.notSynchronized
  have hts := atoms_spec (ws := (Cond.code yJx4a65c_add_72be8 cJx4a65c_add_72be8 4 none :: ALLW)) B.pre
  have hta : ∀ w ∈ ALLW, w.before ([.ref la, .ref cm, .ref p1, .int p2] : List Value).toArray s = true := fun w h => hts w (List.mem_cons_of_mem _ h)
  have hown : s.vm.findClass RJx4a65c = some m.cls := findClass_of_methodNamed B.named
  obtain ⟨hsz, hP, hKE, hD0, hZ⟩ := hpre
  subst hsz
  have hD := hD0.self (sz := s.heap.size)
  generalize hAe : va_A (wL la mo ad ln PL pf) s.heap.size = A at hD hZ ⊢
  have hA : ∀ q : Nat, s.heap.size ≤ q → A q := fun q h => by rw [← hAe]; exact Or.inr h
  have hS : va_S A s.heap s.heap [] := va_S.rf
  have hP : va_P (eD E) vwCl ([(la, .inr (0, [.int mo, .ref ad, .int ln]))] ++ va_pl PL pf) s.heap := hP
  have hD : va_D A ([(la, .inr (0, [.int mo, .ref ad, .int ln]))] ++ va_pl PL pf) := hD
  have hl := lv_entry ([.ref la, .ref cm, .ref p1, .int p2]) (n := 4) (Nat.le_of_ble_eq_true rfl)
  rw [lg_entry_eq]
  generalize (lg_sl ([.ref la, .ref cm, .ref p1, .int p2]) ++ List.replicate (4 - (lg_sl ([.ref la, .ref cm, .ref p1, .int p2])).length) Slot.unset).toArray = ls at hl ⊢
  have hl : lv_has ls 4 [(0, .ref la), (1, .ref cm), (2, .ref p1), (3, .int p2)] := hl
  unfold wp_Jx4a65c_add_72be8 at hw
  refine lv_iload_n hx hb dJx4a65c_add_72be8_0 rfl (lv_at hl 3 rfl) ?_
  refine lv_aload_n hx hb dJx4a65c_add_72be8_1 rfl (lv_at hl 2 rfl) ?_
  obtain ⟨anz_626, afz_626, hyz_626, hfz_626, hw⟩ := hw
  obtain ⟨i_627, hi_627⟩ := va_pl_get (X := [(la, .inr (0, [.int mo, .ref ad, .int ln]))]) (f := pf) hyz_626
  have gi_627 := hi_627
  rw [hfz_626] at hi_627
  refine va_alen hx hb hKE.1 hP i_627 2 hi_627 rfl (v := (Int32.ofNat anz_626)) rfl dJx4a65c_add_72be8_2 ?_
  refine lv_icmp_ne (tgt := 11) hx hb dJx4a65c_add_72be8_3 (by decide) (fun c_628 => ?_) (fun c_628 => ?_)
  · have hw := hw.2 c_628
    refine lv_aload_n hx hb dJx4a65c_add_72be8_11 rfl (lv_at hl 2 rfl) ?_
    refine lv_iload_n hx hb dJx4a65c_add_72be8_12 rfl (lv_at hl 3 rfl) ?_
    refine lv_aload_n hx hb dJx4a65c_add_72be8_13 rfl (lv_at hl 1 rfl) ?_
    obtain ⟨ckz_629, cxz_629, cyz_629, cpz_629, hyz_629, hfz_629, hw⟩ := hw
    obtain ⟨i_630, hi_630⟩ := va_pl_get (X := [(la, .inr (0, [.int mo, .ref ad, .int ln]))]) (f := pf) hyz_629
    rw [hfz_629] at hi_630
    obtain ⟨i_631, hi_631⟩ := va_pl_get (X := [(la, .inr (0, [.int mo, .ref ad, .int ln]))]) (f := pf) hyz_626
    have gi_631 := hi_631
    rw [hfz_626] at hi_631
    obtain ⟨hi_632, hw⟩ := hw
    have hDo := hD
    refine va_astqO hx hb hKE.1 hP hD hS i_631 2 i_630 1 (r := (RX0, TX0, 4)) hi_631 rfl (hKE.2.1 _ (List.mem_of_getElem? (i := 14) rfl)) hi_630 rfl hi_632 dJx4a65c_add_72be8_14 (fun H locs hP hD hS => ?_)
    obtain ⟨hP, hD⟩ := pl_set hDo hyz_626 gi_631 hP hD
    obtain ⟨pf_633, epf_633⟩ : ∃ z : Nat → va_E, z = va_up pf p1 (.inl (eC E 2, anz_626, .inr (.inr (.inr (.inr (va_up afz_626 p2.toNatClampNeg (some cm))))))) := ⟨_, rfl⟩
    have hw := hw pf_633 epf_633
    have hP : va_P (eD E) vwCl ([(la, .inr (0, [.int mo, .ref ad, .int ln]))] ++ va_pl PL pf_633) H := by rw [epf_633]; exact hP
    have hD : va_D A ([(la, .inr (0, [.int mo, .ref ad, .int ln]))] ++ va_pl PL pf_633) := by rw [epf_633]; exact hD
    have hf_634 : pf_633 p1 = (.inl (eC E 2, anz_626, .inr (.inr (.inr (.inr (va_up afz_626 p2.toNatClampNeg (some cm))))))) := by rw [epf_633]; exact va_up_self _ _ _
    refine lv_aload_n hx hb dJx4a65c_add_72be8_15 rfl (lv_at hl 0 rfl) ?_
    refine lv_iload_n hx hb dJx4a65c_add_72be8_16 rfl (lv_at hl 3 rfl) ?_
    refine lv_iconst (v := 1) hx hb dJx4a65c_add_72be8_17 (by decide) ?_
    refine lv_iadd hx hb dJx4a65c_add_72be8_18 ?_
    refine va_put (D := eD E) (ci := 0) (v := .int (p2 + 1)) (ty := .int) (C := RJx4a65c) (T := TJx4a65c) (N := 3) hx hb hta lay_AL tyJx4a65c tyJx4a65c_ok nmJx4a65c hown hKE.1 hP hD hS 0 rfl rfl 2 (by decide) (hta _ tw_42) (fun _ h9 => h9) rfl (by decide +kernel) rfl rfl (Nat.le_of_ble_eq_true rfl) dJx4a65c_add_72be8_19 (fun H locs hP hD hS => ?_)
    have hP : va_P (eD E) vwCl ([(la, .inr (0, [.int mo, .ref ad, .int (p2 + 1)]))] ++ va_pl PL pf_633) H := hP
    have hD : va_D A ([(la, .inr (0, [.int mo, .ref ad, .int (p2 + 1)]))] ++ va_pl PL pf_633) := hD
    have hP9 : va_P (eD E) vwCl (wL la mo ad (p2 + 1) PL pf_633) H := hP
    have hD9 : va_D A (wL la mo ad (p2 + 1) PL pf_633) := hD
    refine W.widen (k := 1) (n := 32) (Nat.le_of_ble_eq_true rfl) (Nat.le_of_ble_eq_true rfl) ?_
    exact W.vret hx hb hr (fun t ht hW => ⟨⟨(mo, ad, (p2 + 1), PL, pf_633), rfl, hw, ⟨by rw [ht]; exact hP9, hD9⟩⟩, hS.F ht⟩) hS.2.2 dJx4a65c_add_72be8_22
  · have hw := hw.1 c_628
    refine lv_aload_n hx hb dJx4a65c_add_72be8_6 rfl (lv_at hl 0 rfl) ?_
    have hPc : va_P (eD E) vwCl (wL la mo ad ln PL pf) s.heap := hP
    have hDc : va_D A (wL la mo ad ln PL pf) := hD
    have hFc : ∀ q, va_A (wL la mo ad ln PL pf) s.heap.size q → A q := frS hDc hS hA
    refine va_callq (va_runV (As := []) (rest := []) ⟨hx, hb, hml, hown, hta⟩ (c_Jx4a65c_grow_d5877 E l la mo ad ln PL pf s.heap.size _ hw) (pcV (n := 0) hta tw_385 tw_382 tw_4 tw_384 tp_21 rfl rfl hd_Jx4a65c_grow_d5877 ⟨Nat.le_of_ble_eq_true rfl, Nat.le_of_ble_eq_true rfl⟩) ⟨fbM, va_recv hKE.1 hP (ci := 0) (q0 := 0) rfl rfl, fun U hU hW => ⟨rfl, preM.mk hPc hKE hDc hZ hS hFc hU hW⟩⟩ rfl rfl hl.1 rfl (lv_room (Nat.le_of_ble_eq_true rfl)) dJx4a65c_add_72be8_7 ⟨Nat.le_of_ble_eq_true rfl, Nat.le_of_ble_eq_true rfl⟩) hS (fun q _ h => hFc q h) hFc (fun r_635 u t H locs ht hvm hw hB hz1 hk1 hS => ?_)
    obtain ⟨mo_636, ad_637, ln_638, PL_639, pf_640⟩ := u
    obtain ⟨hP1, hD1⟩ := hB
    rw [ht] at hP1
    try dsimp only at hw hP1 hD1
    have hP : va_P (eD E) vwCl ([(la, .inr (0, [.int mo_636, .ref ad_637, .int ln_638]))] ++ va_pl PL_639 pf_640) H := hP1
    have hD : va_D A ([(la, .inr (0, [.int mo_636, .ref ad_637, .int ln_638]))] ++ va_pl PL_639 pf_640) := hD1.weaken (fun _ q _ h => hFc q.1 h)
    rcases r_635 with _ | y_641
    · have hw := hw.1 rfl
      refine lv_astore_nN (lv' := [(2, .null), (0, .ref la), (1, .ref cm), (3, .int p2)]) hx hb dJx4a65c_add_72be8_10 rfl hl (by decide) rfl (fun ls hl => ?_)
      refine lv_aload_nN hx hb dJx4a65c_add_72be8_11 rfl (lv_at hl 0 rfl) ?_
      refine lv_iload_n hx hb dJx4a65c_add_72be8_12 rfl (lv_at hl 3 rfl) ?_
      refine lv_aload_n hx hb dJx4a65c_add_72be8_13 rfl (lv_at hl 2 rfl) ?_
      exact hw.elim
    · have hw := hw.2 y_641 rfl
      refine lv_astore_n (lv' := [(2, .ref y_641), (0, .ref la), (1, .ref cm), (3, .int p2)]) hx hb dJx4a65c_add_72be8_10 rfl hl (by decide) rfl (fun ls hl => ?_)
      refine lv_aload_n hx hb dJx4a65c_add_72be8_11 rfl (lv_at hl 0 rfl) ?_
      refine lv_iload_n hx hb dJx4a65c_add_72be8_12 rfl (lv_at hl 3 rfl) ?_
      refine lv_aload_n hx hb dJx4a65c_add_72be8_13 rfl (lv_at hl 2 rfl) ?_
      obtain ⟨ckz_642, cxz_642, cyz_642, cpz_642, hyz_642, hfz_642, hw⟩ := hw
      obtain ⟨i_643, hi_643⟩ := va_pl_get (X := [(la, .inr (0, [.int mo_636, .ref ad_637, .int ln_638]))]) (f := pf_640) hyz_642
      rw [hfz_642] at hi_643
      obtain ⟨anz_644, afz_644, hyz_644, hfz_644, hw⟩ := hw
      obtain ⟨i_645, hi_645⟩ := va_pl_get (X := [(la, .inr (0, [.int mo_636, .ref ad_637, .int ln_638]))]) (f := pf_640) hyz_644
      have gi_645 := hi_645
      rw [hfz_644] at hi_645
      obtain ⟨hi_646, hw⟩ := hw
      have hDo := hD
      refine va_astqO hx hb hKE.1 hP hD hS i_645 2 i_643 1 (r := (RX0, TX0, 4)) hi_645 rfl (hKE.2.1 _ (List.mem_of_getElem? (i := 14) rfl)) hi_643 rfl hi_646 dJx4a65c_add_72be8_14 (fun H locs hP hD hS => ?_)
      obtain ⟨hP, hD⟩ := pl_set hDo hyz_644 gi_645 hP hD
      obtain ⟨pf_647, epf_647⟩ : ∃ z : Nat → va_E, z = va_up pf_640 y_641 (.inl (eC E 2, anz_644, .inr (.inr (.inr (.inr (va_up afz_644 p2.toNatClampNeg (some cm))))))) := ⟨_, rfl⟩
      have hw := hw pf_647 epf_647
      have hP : va_P (eD E) vwCl ([(la, .inr (0, [.int mo_636, .ref ad_637, .int ln_638]))] ++ va_pl PL_639 pf_647) H := by rw [epf_647]; exact hP
      have hD : va_D A ([(la, .inr (0, [.int mo_636, .ref ad_637, .int ln_638]))] ++ va_pl PL_639 pf_647) := by rw [epf_647]; exact hD
      have hf_648 : pf_647 y_641 = (.inl (eC E 2, anz_644, .inr (.inr (.inr (.inr (va_up afz_644 p2.toNatClampNeg (some cm))))))) := by rw [epf_647]; exact va_up_self _ _ _
      refine lv_aload_n hx hb dJx4a65c_add_72be8_15 rfl (lv_at hl 1 rfl) ?_
      refine lv_iload_n hx hb dJx4a65c_add_72be8_16 rfl (lv_at hl 3 rfl) ?_
      refine lv_iconst (v := 1) hx hb dJx4a65c_add_72be8_17 (by decide) ?_
      refine lv_iadd hx hb dJx4a65c_add_72be8_18 ?_
      refine va_put (D := eD E) (ci := 0) (v := .int (p2 + 1)) (ty := .int) (C := RJx4a65c) (T := TJx4a65c) (N := 3) hx hb hta lay_AL tyJx4a65c tyJx4a65c_ok nmJx4a65c hown hKE.1 hP hD hS 0 rfl rfl 2 (by decide) (hta _ tw_42) (fun _ h9 => h9) rfl (by decide +kernel) rfl rfl (Nat.le_of_ble_eq_true rfl) dJx4a65c_add_72be8_19 (fun H locs hP hD hS => ?_)
      have hP : va_P (eD E) vwCl ([(la, .inr (0, [.int mo_636, .ref ad_637, .int (p2 + 1)]))] ++ va_pl PL_639 pf_647) H := hP
      have hD : va_D A ([(la, .inr (0, [.int mo_636, .ref ad_637, .int (p2 + 1)]))] ++ va_pl PL_639 pf_647) := hD
      have hP9 : va_P (eD E) vwCl (wL la mo_636 ad_637 (p2 + 1) PL_639 pf_647) H := hP
      have hD9 : va_D A (wL la mo_636 ad_637 (p2 + 1) PL_639 pf_647) := hD
      exact W.vret hx hb hr (fun t ht hW => ⟨⟨(mo_636, ad_637, (p2 + 1), PL_639, pf_647), rfl, hw, ⟨by rw [ht]; exact hP9, hD9⟩⟩, hS.F ht⟩) hS.2.2 dJx4a65c_add_72be8_22
def wp_Jx4a65c_add_72be8_v (E : EV) (post : Int32 → Nat → Int32 → List Nat → (Nat → va_E) → Prop) (mo : Int32) (ln : Int32) (PL : List Nat) (pf : Nat → va_E) (cm : Nat) (p2 : Int32) : Prop := ((p2 = 0 → (wp_Jx4a65c_grow_d5877_v E (fun (r_657 : Option Nat) (mo_658 : Int32) (ad_659 : Nat) (ln_660 : Int32) (PL_661 : List Nat) (pf_662 : Nat → va_E) => ((r_657 = none → False) ∧ (∀ y_663 : Nat, r_657 = some y_663 → (∃ ckz_664 cxz_664 cyz_664 cpz_664 : Int32, cm ∈ PL_661 ∧ pf_662 cm = .inr (1, [.int ckz_664, .int cxz_664, .int cyz_664, .int cpz_664]) ∧ (∃ (anz_666 : Nat) (afz_666 : Nat → Option Nat), y_663 ∈ PL_661 ∧ pf_662 y_663 = .inl (eC E 2, anz_666, .inr (.inr (.inr (.inr afz_666)))) ∧ (vp_in p2 anz_666 ∧ (∀ pf_669 : Nat → va_E, pf_669 = va_up pf_662 y_663 (.inl (eC E 2, anz_666, .inr (.inr (.inr (.inr (va_up afz_666 p2.toNatClampNeg (some cm))))))) → post mo_658 ad_659 (p2 + 1) PL_661 pf_669))))))) mo ln PL pf)) ∧ (¬ (p2 = 0) → (∃ ckz_650 cxz_650 cyz_650 cpz_650 : Int32, cm ∈ PL ∧ pf cm = .inr (1, [.int ckz_650, .int cxz_650, .int cyz_650, .int cpz_650]) ∧ (∃ (anz_652 : Nat) (afz_652 : Nat → Option Nat), (eA E 0) ∈ PL ∧ pf (eA E 0) = .inl (eC E 2, anz_652, .inr (.inr (.inr (.inr afz_652)))) ∧ (vp_in p2 anz_652 ∧ (∀ pf_655 : Nat → va_E, pf_655 = va_up pf (eA E 0) (.inl (eC E 2, anz_652, .inr (.inr (.inr (.inr (va_up afz_652 p2.toNatClampNeg (some cm))))))) → post mo (eA E 0) (p2 + 1) PL pf_655))))))
set_option maxHeartbeats 4000000 in
set_option maxRecDepth 100000 in
theorem c_Jx4a65c_add_72be8_v (E : EV) (l : Launch) (la : Nat) (mo : Int32) (ln : Int32) (PL : List Nat) (pf : Nat → va_E) (cm : Nat) (p2 : Int32) (hz : Nat) (post : Int32 → Nat → Int32 → List Nat → (Nat → va_E) → Prop) (hw : wp_Jx4a65c_add_72be8_v E post mo ln PL pf cm p2) : Met l yJx4a65c_add_72be8 (Cond.code yJx4a65c_add_72be8 cJx4a65c_add_72be8 4 none :: ALLW) ({ frames := 3, cells := 1, slots := 32, locals := 57 } : Room) (va_Pc [.ref la, .ref cm, .ref (eA E 0), .int p2] (preM E (wL la mo (eA E 0) ln PL pf) hz)) (va_Qv (fun (u : Int32 × Nat × Int32 × List Nat × (Nat → va_E)) => post u.1 u.2.1 u.2.2.1 u.2.2.2.1 u.2.2.2.2) (fun (u : Int32 × Nat × Int32 × List Nat × (Nat → va_E)) t => va_P (eD E) vwCl (wL la u.1 u.2.1 u.2.2.1 u.2.2.2.1 u.2.2.2.2) t.heap ∧ va_D (va_A (wL la mo (eA E 0) ln PL pf) hz) (wL la u.1 u.2.1 u.2.2.1 u.2.2.2.1 u.2.2.2.2)) (va_A (wL la mo (eA E 0) ln PL pf) hz)) 1 32 (va_A (wL la mo (eA E 0) ln PL pf) hz) := by
  refine Met.ofW (cc := cJx4a65c_add_72be8) (maxL := 4) (ret := none) (by decide) rfl ?_
  intro p e s m args below meth c s₁ B hml hv
  obtain ⟨rfl, hpre⟩ := hv
  have hx := B.exec
  have hb := B.bytes
  have hr := B.returns
  have hlocks := B.notSynchronized
  have hts := atoms_spec (ws := (Cond.code yJx4a65c_add_72be8 cJx4a65c_add_72be8 4 none :: ALLW)) B.pre
  have hta : ∀ w ∈ ALLW, w.before ([.ref la, .ref cm, .ref (eA E 0), .int p2] : List Value).toArray s = true := fun w h => hts w (List.mem_cons_of_mem _ h)
  have hown : s.vm.findClass RJx4a65c = some m.cls := findClass_of_methodNamed B.named
  obtain ⟨hsz, hP, hKE, hD0, hZ⟩ := hpre
  subst hsz
  have hD := hD0.self (sz := s.heap.size)
  generalize hAe : va_A (wL la mo (eA E 0) ln PL pf) s.heap.size = A at hD hZ ⊢
  have hA : ∀ q : Nat, s.heap.size ≤ q → A q := fun q h => by rw [← hAe]; exact Or.inr h
  have hS : va_S A s.heap s.heap [] := va_S.rf
  have hP : va_P (eD E) vwCl ([(la, .inr (0, [.int mo, .ref (eA E 0), .int ln]))] ++ va_pl PL pf) s.heap := hP
  have hD : va_D A ([(la, .inr (0, [.int mo, .ref (eA E 0), .int ln]))] ++ va_pl PL pf) := hD
  have hl := lv_entry ([.ref la, .ref cm, .ref (eA E 0), .int p2]) (n := 4) (Nat.le_of_ble_eq_true rfl)
  rw [lg_entry_eq]
  generalize (lg_sl ([.ref la, .ref cm, .ref (eA E 0), .int p2]) ++ List.replicate (4 - (lg_sl ([.ref la, .ref cm, .ref (eA E 0), .int p2])).length) Slot.unset).toArray = ls at hl ⊢
  have hl : lv_has ls 4 [(0, .ref la), (1, .ref cm), (2, .ref (eA E 0)), (3, .int p2)] := hl
  unfold wp_Jx4a65c_add_72be8_v at hw
  refine lv_iload_n hx hb dJx4a65c_add_72be8_0 rfl (lv_at hl 3 rfl) ?_
  refine lv_aload_n hx hb dJx4a65c_add_72be8_1 rfl (lv_at hl 2 rfl) ?_
  refine va_tlen hx hb hZ.2.1 hS (v := 0) (by decide) dJx4a65c_add_72be8_2 ?_
  refine lv_icmp_ne (tgt := 11) hx hb dJx4a65c_add_72be8_3 (by decide) (fun c_649 => ?_) (fun c_649 => ?_)
  · have hw := hw.2 c_649
    refine lv_aload_n hx hb dJx4a65c_add_72be8_11 rfl (lv_at hl 2 rfl) ?_
    refine lv_iload_n hx hb dJx4a65c_add_72be8_12 rfl (lv_at hl 3 rfl) ?_
    refine lv_aload_n hx hb dJx4a65c_add_72be8_13 rfl (lv_at hl 1 rfl) ?_
    obtain ⟨ckz_650, cxz_650, cyz_650, cpz_650, hyz_650, hfz_650, hw⟩ := hw
    obtain ⟨i_651, hi_651⟩ := va_pl_get (X := [(la, .inr (0, [.int mo, .ref (eA E 0), .int ln]))]) (f := pf) hyz_650
    rw [hfz_650] at hi_651
    obtain ⟨anz_652, afz_652, hyz_652, hfz_652, hw⟩ := hw
    obtain ⟨i_653, hi_653⟩ := va_pl_get (X := [(la, .inr (0, [.int mo, .ref (eA E 0), .int ln]))]) (f := pf) hyz_652
    have gi_653 := hi_653
    rw [hfz_652] at hi_653
    obtain ⟨hi_654, hw⟩ := hw
    have hDo := hD
    refine va_astqO hx hb hKE.1 hP hD hS i_653 2 i_651 1 (r := (RX0, TX0, 4)) hi_653 rfl (hKE.2.1 _ (List.mem_of_getElem? (i := 14) rfl)) hi_651 rfl hi_654 dJx4a65c_add_72be8_14 (fun H locs hP hD hS => ?_)
    obtain ⟨hP, hD⟩ := pl_set hDo hyz_652 gi_653 hP hD
    obtain ⟨pf_655, epf_655⟩ : ∃ z : Nat → va_E, z = va_up pf (eA E 0) (.inl (eC E 2, anz_652, .inr (.inr (.inr (.inr (va_up afz_652 p2.toNatClampNeg (some cm))))))) := ⟨_, rfl⟩
    have hw := hw pf_655 epf_655
    have hP : va_P (eD E) vwCl ([(la, .inr (0, [.int mo, .ref (eA E 0), .int ln]))] ++ va_pl PL pf_655) H := by rw [epf_655]; exact hP
    have hD : va_D A ([(la, .inr (0, [.int mo, .ref (eA E 0), .int ln]))] ++ va_pl PL pf_655) := by rw [epf_655]; exact hD
    have hf_656 : pf_655 (eA E 0) = (.inl (eC E 2, anz_652, .inr (.inr (.inr (.inr (va_up afz_652 p2.toNatClampNeg (some cm))))))) := by rw [epf_655]; exact va_up_self _ _ _
    refine lv_aload_n hx hb dJx4a65c_add_72be8_15 rfl (lv_at hl 0 rfl) ?_
    refine lv_iload_n hx hb dJx4a65c_add_72be8_16 rfl (lv_at hl 3 rfl) ?_
    refine lv_iconst (v := 1) hx hb dJx4a65c_add_72be8_17 (by decide) ?_
    refine lv_iadd hx hb dJx4a65c_add_72be8_18 ?_
    refine va_put (D := eD E) (ci := 0) (v := .int (p2 + 1)) (ty := .int) (C := RJx4a65c) (T := TJx4a65c) (N := 3) hx hb hta lay_AL tyJx4a65c tyJx4a65c_ok nmJx4a65c hown hKE.1 hP hD hS 0 rfl rfl 2 (by decide) (hta _ tw_42) (fun _ h9 => h9) rfl (by decide +kernel) rfl rfl (Nat.le_of_ble_eq_true rfl) dJx4a65c_add_72be8_19 (fun H locs hP hD hS => ?_)
    have hP : va_P (eD E) vwCl ([(la, .inr (0, [.int mo, .ref (eA E 0), .int (p2 + 1)]))] ++ va_pl PL pf_655) H := hP
    have hD : va_D A ([(la, .inr (0, [.int mo, .ref (eA E 0), .int (p2 + 1)]))] ++ va_pl PL pf_655) := hD
    have hP9 : va_P (eD E) vwCl (wL la mo (eA E 0) (p2 + 1) PL pf_655) H := hP
    have hD9 : va_D A (wL la mo (eA E 0) (p2 + 1) PL pf_655) := hD
    refine W.widen (k := 1) (n := 32) (Nat.le_of_ble_eq_true rfl) (Nat.le_of_ble_eq_true rfl) ?_
    exact W.vret hx hb hr (fun t ht hW => ⟨⟨(mo, (eA E 0), (p2 + 1), PL, pf_655), rfl, hw, ⟨by rw [ht]; exact hP9, hD9⟩⟩, hS.F ht⟩) hS.2.2 dJx4a65c_add_72be8_22
  · have hw := hw.1 c_649
    refine lv_aload_n hx hb dJx4a65c_add_72be8_6 rfl (lv_at hl 0 rfl) ?_
    have hPc : va_P (eD E) vwCl (wL la mo (eA E 0) ln PL pf) s.heap := hP
    have hDc : va_D A (wL la mo (eA E 0) ln PL pf) := hD
    have hFc : ∀ q, va_A (wL la mo (eA E 0) ln PL pf) s.heap.size q → A q := frS hDc hS hA
    refine va_callq (va_runV (As := []) (rest := []) ⟨hx, hb, hml, hown, hta⟩ (c_Jx4a65c_grow_d5877_v E l la mo ln PL pf s.heap.size _ hw) (pcV (n := 0) hta tw_385 tw_382 tw_4 tw_384 tp_21 rfl rfl hd_Jx4a65c_grow_d5877 ⟨Nat.le_of_ble_eq_true rfl, Nat.le_of_ble_eq_true rfl⟩) ⟨fbM, va_recv hKE.1 hP (ci := 0) (q0 := 0) rfl rfl, fun U hU hW => ⟨rfl, preM.mk hPc hKE hDc hZ hS hFc hU hW⟩⟩ rfl rfl hl.1 rfl (lv_room (Nat.le_of_ble_eq_true rfl)) dJx4a65c_add_72be8_7 ⟨Nat.le_of_ble_eq_true rfl, Nat.le_of_ble_eq_true rfl⟩) hS (fun q _ h => hFc q h) hFc (fun r_657 u t H locs ht hvm hw hB hz1 hk1 hS => ?_)
    obtain ⟨mo_658, ad_659, ln_660, PL_661, pf_662⟩ := u
    obtain ⟨hP1, hD1⟩ := hB
    rw [ht] at hP1
    try dsimp only at hw hP1 hD1
    have hP : va_P (eD E) vwCl ([(la, .inr (0, [.int mo_658, .ref ad_659, .int ln_660]))] ++ va_pl PL_661 pf_662) H := hP1
    have hD : va_D A ([(la, .inr (0, [.int mo_658, .ref ad_659, .int ln_660]))] ++ va_pl PL_661 pf_662) := hD1.weaken (fun _ q _ h => hFc q.1 h)
    rcases r_657 with _ | y_663
    · have hw := hw.1 rfl
      refine lv_astore_nN (lv' := [(2, .null), (0, .ref la), (1, .ref cm), (3, .int p2)]) hx hb dJx4a65c_add_72be8_10 rfl hl (by decide) rfl (fun ls hl => ?_)
      refine lv_aload_nN hx hb dJx4a65c_add_72be8_11 rfl (lv_at hl 0 rfl) ?_
      refine lv_iload_n hx hb dJx4a65c_add_72be8_12 rfl (lv_at hl 3 rfl) ?_
      refine lv_aload_n hx hb dJx4a65c_add_72be8_13 rfl (lv_at hl 2 rfl) ?_
      exact hw.elim
    · have hw := hw.2 y_663 rfl
      refine lv_astore_n (lv' := [(2, .ref y_663), (0, .ref la), (1, .ref cm), (3, .int p2)]) hx hb dJx4a65c_add_72be8_10 rfl hl (by decide) rfl (fun ls hl => ?_)
      refine lv_aload_n hx hb dJx4a65c_add_72be8_11 rfl (lv_at hl 0 rfl) ?_
      refine lv_iload_n hx hb dJx4a65c_add_72be8_12 rfl (lv_at hl 3 rfl) ?_
      refine lv_aload_n hx hb dJx4a65c_add_72be8_13 rfl (lv_at hl 2 rfl) ?_
      obtain ⟨ckz_664, cxz_664, cyz_664, cpz_664, hyz_664, hfz_664, hw⟩ := hw
      obtain ⟨i_665, hi_665⟩ := va_pl_get (X := [(la, .inr (0, [.int mo_658, .ref ad_659, .int ln_660]))]) (f := pf_662) hyz_664
      rw [hfz_664] at hi_665
      obtain ⟨anz_666, afz_666, hyz_666, hfz_666, hw⟩ := hw
      obtain ⟨i_667, hi_667⟩ := va_pl_get (X := [(la, .inr (0, [.int mo_658, .ref ad_659, .int ln_660]))]) (f := pf_662) hyz_666
      have gi_667 := hi_667
      rw [hfz_666] at hi_667
      obtain ⟨hi_668, hw⟩ := hw
      have hDo := hD
      refine va_astqO hx hb hKE.1 hP hD hS i_667 2 i_665 1 (r := (RX0, TX0, 4)) hi_667 rfl (hKE.2.1 _ (List.mem_of_getElem? (i := 14) rfl)) hi_665 rfl hi_668 dJx4a65c_add_72be8_14 (fun H locs hP hD hS => ?_)
      obtain ⟨hP, hD⟩ := pl_set hDo hyz_666 gi_667 hP hD
      obtain ⟨pf_669, epf_669⟩ : ∃ z : Nat → va_E, z = va_up pf_662 y_663 (.inl (eC E 2, anz_666, .inr (.inr (.inr (.inr (va_up afz_666 p2.toNatClampNeg (some cm))))))) := ⟨_, rfl⟩
      have hw := hw pf_669 epf_669
      have hP : va_P (eD E) vwCl ([(la, .inr (0, [.int mo_658, .ref ad_659, .int ln_660]))] ++ va_pl PL_661 pf_669) H := by rw [epf_669]; exact hP
      have hD : va_D A ([(la, .inr (0, [.int mo_658, .ref ad_659, .int ln_660]))] ++ va_pl PL_661 pf_669) := by rw [epf_669]; exact hD
      have hf_670 : pf_669 y_663 = (.inl (eC E 2, anz_666, .inr (.inr (.inr (.inr (va_up afz_666 p2.toNatClampNeg (some cm))))))) := by rw [epf_669]; exact va_up_self _ _ _
      refine lv_aload_n hx hb dJx4a65c_add_72be8_15 rfl (lv_at hl 1 rfl) ?_
      refine lv_iload_n hx hb dJx4a65c_add_72be8_16 rfl (lv_at hl 3 rfl) ?_
      refine lv_iconst (v := 1) hx hb dJx4a65c_add_72be8_17 (by decide) ?_
      refine lv_iadd hx hb dJx4a65c_add_72be8_18 ?_
      refine va_put (D := eD E) (ci := 0) (v := .int (p2 + 1)) (ty := .int) (C := RJx4a65c) (T := TJx4a65c) (N := 3) hx hb hta lay_AL tyJx4a65c tyJx4a65c_ok nmJx4a65c hown hKE.1 hP hD hS 0 rfl rfl 2 (by decide) (hta _ tw_42) (fun _ h9 => h9) rfl (by decide +kernel) rfl rfl (Nat.le_of_ble_eq_true rfl) dJx4a65c_add_72be8_19 (fun H locs hP hD hS => ?_)
      have hP : va_P (eD E) vwCl ([(la, .inr (0, [.int mo_658, .ref ad_659, .int (p2 + 1)]))] ++ va_pl PL_661 pf_669) H := hP
      have hD : va_D A ([(la, .inr (0, [.int mo_658, .ref ad_659, .int (p2 + 1)]))] ++ va_pl PL_661 pf_669) := hD
      have hP9 : va_P (eD E) vwCl (wL la mo_658 ad_659 (p2 + 1) PL_661 pf_669) H := hP
      have hD9 : va_D A (wL la mo_658 ad_659 (p2 + 1) PL_661 pf_669) := hD
      exact W.vret hx hb hr (fun t ht hW => ⟨⟨(mo_658, ad_659, (p2 + 1), PL_661, pf_669), rfl, hw, ⟨by rw [ht]; exact hP9, hD9⟩⟩, hS.F ht⟩) hS.2.2 dJx4a65c_add_72be8_22
def wp_Jx4a65c_add_9ea2d_g (E : EV) (post : Int32 → Int32 → Nat → Int32 → List Nat → (Nat → va_E) → Prop) (mo : Int32) (ad : Nat) (ln : Int32) (PL : List Nat) (pf : Nat → va_E) (cm : Nat) : Prop := (wp_Jx4a65c_add_72be8 E (fun (mo_684 : Int32) (ad_685 : Nat) (ln_686 : Int32) (PL_687 : List Nat) (pf_688 : Nat → va_E) => post 1 mo_684 ad_685 ln_686 PL_687 pf_688) (mo + 1) ad ln PL pf cm ad ln)
set_option maxHeartbeats 4000000 in
set_option maxRecDepth 100000 in
theorem c_Jx4a65c_add_9ea2d_g (E : EV) (l : Launch) (la : Nat) (mo : Int32) (ad : Nat) (ln : Int32) (PL : List Nat) (pf : Nat → va_E) (cm : Nat) (hz : Nat) (post : Int32 → Int32 → Nat → Int32 → List Nat → (Nat → va_E) → Prop) (hw : wp_Jx4a65c_add_9ea2d_g E post mo ad ln PL pf cm) : Met l yJx4a65c_add_9ea2d (Cond.code yJx4a65c_add_9ea2d cJx4a65c_add_9ea2d 2 (some .boolean) :: ALLW) ({ frames := 6, cells := 1, slots := 32, locals := 128 } : Room) (va_Pc [.ref la, .ref cm] (preM E (wL la mo ad ln PL pf) hz)) (va_Qi (fun (r : Int32) (u : Int32 × Nat × Int32 × List Nat × (Nat → va_E)) => post r u.1 u.2.1 u.2.2.1 u.2.2.2.1 u.2.2.2.2) (fun (u : Int32 × Nat × Int32 × List Nat × (Nat → va_E)) t => va_P (eD E) vwCl (wL la u.1 u.2.1 u.2.2.1 u.2.2.2.1 u.2.2.2.2) t.heap ∧ va_D (va_A (wL la mo ad ln PL pf) hz) (wL la u.1 u.2.1 u.2.2.1 u.2.2.2.1 u.2.2.2.2)) (va_A (wL la mo ad ln PL pf) hz)) 1 32 (va_A (wL la mo ad ln PL pf) hz) := by
  refine Met.ofW (cc := cJx4a65c_add_9ea2d) (maxL := 2) (ret := (some .boolean)) (by decide) rfl ?_
  intro p e s m args below meth c s₁ B hml hv
  obtain ⟨rfl, hpre⟩ := hv
  have hx := B.exec
  have hb := B.bytes
  have hr := B.returns
  have hlocks := B.notSynchronized
  have hts := atoms_spec (ws := (Cond.code yJx4a65c_add_9ea2d cJx4a65c_add_9ea2d 2 (some .boolean) :: ALLW)) B.pre
  have hta : ∀ w ∈ ALLW, w.before ([.ref la, .ref cm] : List Value).toArray s = true := fun w h => hts w (List.mem_cons_of_mem _ h)
  have hown : s.vm.findClass RJx4a65c = some m.cls := findClass_of_methodNamed B.named
  obtain ⟨hsz, hP, hKE, hD0, hZ⟩ := hpre
  subst hsz
  have hD := hD0.self (sz := s.heap.size)
  generalize hAe : va_A (wL la mo ad ln PL pf) s.heap.size = A at hD hZ ⊢
  have hA : ∀ q : Nat, s.heap.size ≤ q → A q := fun q h => by rw [← hAe]; exact Or.inr h
  have hS : va_S A s.heap s.heap [] := va_S.rf
  have hP : va_P (eD E) vwCl ([(la, .inr (0, [.int mo, .ref ad, .int ln]))] ++ va_pl PL pf) s.heap := hP
  have hD : va_D A ([(la, .inr (0, [.int mo, .ref ad, .int ln]))] ++ va_pl PL pf) := hD
  have hl := lv_entry ([.ref la, .ref cm]) (n := 2) (Nat.le_of_ble_eq_true rfl)
  rw [lg_entry_eq]
  generalize (lg_sl ([.ref la, .ref cm]) ++ List.replicate (2 - (lg_sl ([.ref la, .ref cm])).length) Slot.unset).toArray = ls at hl ⊢
  have hl : lv_has ls 2 [(0, .ref la), (1, .ref cm)] := hl
  unfold wp_Jx4a65c_add_9ea2d_g at hw
  refine lv_aload_n hx hb dJx4a65c_add_9ea2d_0 rfl (lv_at hl 0 rfl) ?_
  refine lv_dup hx hb dJx4a65c_add_9ea2d_1 rfl ?_
  refine va_get (D := eD E) (ci := 0) (v := .int mo) (C := RJx4a65c) (T := TJx4a65c) (N := 3) hx hb hta lay_AL hown hKE.1 hP 0 rfl rfl 0 (by decide) (hta _ tw_44) (fun x h9 => u_same (hta _ tw_45) x h9) rfl dJx4a65c_add_9ea2d_2 ?_
  refine lv_iconst (v := 1) hx hb dJx4a65c_add_9ea2d_5 (by decide) ?_
  refine lv_iadd hx hb dJx4a65c_add_9ea2d_6 ?_
  refine va_put (D := eD E) (ci := 0) (v := .int (mo + 1)) (ty := .int) (C := RJx4a65c) (T := TJx4a65c) (N := 3) hx hb hta lay_AL tyJx4a65c tyJx4a65c_ok nmJx4a65c hown hKE.1 hP hD hS 0 rfl rfl 0 (by decide) (hta _ tw_44) (fun x h9 => u_same (hta _ tw_45) x h9) rfl (by decide +kernel) rfl rfl (Nat.le_of_ble_eq_true rfl) dJx4a65c_add_9ea2d_7 (fun H locs hP hD hS => ?_)
  have hP : va_P (eD E) vwCl ([(la, .inr (0, [.int (mo + 1), .ref ad, .int ln]))] ++ va_pl PL pf) H := hP
  have hD : va_D A ([(la, .inr (0, [.int (mo + 1), .ref ad, .int ln]))] ++ va_pl PL pf) := hD
  refine lv_aload_n hx hb dJx4a65c_add_9ea2d_10 rfl (lv_at hl 0 rfl) ?_
  refine lv_aload_n hx hb dJx4a65c_add_9ea2d_11 rfl (lv_at hl 1 rfl) ?_
  refine lv_aload_n hx hb dJx4a65c_add_9ea2d_12 rfl (lv_at hl 0 rfl) ?_
  refine va_get (D := eD E) (ci := 0) (v := .ref ad) (C := RJx4a65c) (T := TJx4a65c) (N := 3) hx hb hta lay_AL hown hKE.1 hP 0 rfl rfl 1 (by decide) (hta _ tw_41) (fun _ h9 => h9) rfl dJx4a65c_add_9ea2d_13 ?_
  refine lv_aload_n hx hb dJx4a65c_add_9ea2d_16 rfl (lv_at hl 0 rfl) ?_
  refine va_get (D := eD E) (ci := 0) (v := .int ln) (C := RJx4a65c) (T := TJx4a65c) (N := 3) hx hb hta lay_AL hown hKE.1 hP 0 rfl rfl 2 (by decide) (hta _ tw_42) (fun _ h9 => h9) rfl dJx4a65c_add_9ea2d_17 ?_
  have hPc : va_P (eD E) vwCl (wL la (mo + 1) ad ln PL pf) H := hP
  have hDc : va_D A (wL la (mo + 1) ad ln PL pf) := hD
  have hFc : ∀ q, va_A (wL la (mo + 1) ad ln PL pf) H.size q → A q := frS hDc hS hA
  refine va_callv (va_runV (As := [.ref cm, .ref ad, .int ln]) (rest := []) ⟨hx, hb, hml, hown, hta⟩ (c_Jx4a65c_add_72be8 E l la (mo + 1) ad ln PL pf cm ad ln H.size _ hw) (pcV (n := 3) hta tw_381 tw_378 tw_4 tw_380 tp_20 rfl rfl hd_Jx4a65c_add_72be8 ⟨Nat.le_of_ble_eq_true rfl, Nat.le_of_ble_eq_true rfl⟩) ⟨fbM, va_recv hKE.1 hP (ci := 0) (q0 := 0) rfl rfl, fun U hU hW => ⟨rfl, preM.mk hPc hKE hDc hZ hS hFc hU hW⟩⟩ rfl rfl hl.1 rfl (lv_room (Nat.le_of_ble_eq_true rfl)) dJx4a65c_add_9ea2d_20 ⟨Nat.le_of_ble_eq_true rfl, Nat.le_of_ble_eq_true rfl⟩) hS (fun q _ h => hFc q h) hFc (fun u t H locs ht hvm hw hB hz1 hk1 hS => ?_)
  obtain ⟨mo_684, ad_685, ln_686, PL_687, pf_688⟩ := u
  obtain ⟨hP1, hD1⟩ := hB
  rw [ht] at hP1
  try dsimp only at hw hP1 hD1
  have hP : va_P (eD E) vwCl ([(la, .inr (0, [.int mo_684, .ref ad_685, .int ln_686]))] ++ va_pl PL_687 pf_688) H := hP1
  have hD : va_D A ([(la, .inr (0, [.int mo_684, .ref ad_685, .int ln_686]))] ++ va_pl PL_687 pf_688) := hD1.weaken (fun _ q _ h => hFc q.1 h)
  refine lv_iconst (v := 1) hx hb dJx4a65c_add_9ea2d_23 (by decide) ?_
  have hP9 : va_P (eD E) vwCl (wL la mo_684 ad_685 ln_686 PL_687 pf_688) H := hP
  have hD9 : va_D A (wL la mo_684 ad_685 ln_686 PL_687 pf_688) := hD
  exact W.zret (v := 1) hx hb hr rfl (fun t ht hW => ⟨⟨1, (mo_684, ad_685, ln_686, PL_687, pf_688), rfl, hw, ⟨by rw [ht]; exact hP9, hD9⟩⟩, hS.F ht⟩) hS.2.2 dJx4a65c_add_9ea2d_24
def wp_Jx4a65c_add_9ea2d_v (E : EV) (post : Int32 → Int32 → Nat → Int32 → List Nat → (Nat → va_E) → Prop) (mo : Int32) (ln : Int32) (PL : List Nat) (pf : Nat → va_E) (cm : Nat) : Prop := (wp_Jx4a65c_add_72be8_v E (fun (mo_690 : Int32) (ad_691 : Nat) (ln_692 : Int32) (PL_693 : List Nat) (pf_694 : Nat → va_E) => post 1 mo_690 ad_691 ln_692 PL_693 pf_694) (mo + 1) ln PL pf cm ln)
set_option maxHeartbeats 4000000 in
set_option maxRecDepth 100000 in
theorem c_Jx4a65c_add_9ea2d_v (E : EV) (l : Launch) (la : Nat) (mo : Int32) (ln : Int32) (PL : List Nat) (pf : Nat → va_E) (cm : Nat) (hz : Nat) (post : Int32 → Int32 → Nat → Int32 → List Nat → (Nat → va_E) → Prop) (hw : wp_Jx4a65c_add_9ea2d_v E post mo ln PL pf cm) : Met l yJx4a65c_add_9ea2d (Cond.code yJx4a65c_add_9ea2d cJx4a65c_add_9ea2d 2 (some .boolean) :: ALLW) ({ frames := 6, cells := 1, slots := 32, locals := 128 } : Room) (va_Pc [.ref la, .ref cm] (preM E (wL la mo (eA E 0) ln PL pf) hz)) (va_Qi (fun (r : Int32) (u : Int32 × Nat × Int32 × List Nat × (Nat → va_E)) => post r u.1 u.2.1 u.2.2.1 u.2.2.2.1 u.2.2.2.2) (fun (u : Int32 × Nat × Int32 × List Nat × (Nat → va_E)) t => va_P (eD E) vwCl (wL la u.1 u.2.1 u.2.2.1 u.2.2.2.1 u.2.2.2.2) t.heap ∧ va_D (va_A (wL la mo (eA E 0) ln PL pf) hz) (wL la u.1 u.2.1 u.2.2.1 u.2.2.2.1 u.2.2.2.2)) (va_A (wL la mo (eA E 0) ln PL pf) hz)) 1 32 (va_A (wL la mo (eA E 0) ln PL pf) hz) := by
  refine Met.ofW (cc := cJx4a65c_add_9ea2d) (maxL := 2) (ret := (some .boolean)) (by decide) rfl ?_
  intro p e s m args below meth c s₁ B hml hv
  obtain ⟨rfl, hpre⟩ := hv
  have hx := B.exec
  have hb := B.bytes
  have hr := B.returns
  have hlocks := B.notSynchronized
  have hts := atoms_spec (ws := (Cond.code yJx4a65c_add_9ea2d cJx4a65c_add_9ea2d 2 (some .boolean) :: ALLW)) B.pre
  have hta : ∀ w ∈ ALLW, w.before ([.ref la, .ref cm] : List Value).toArray s = true := fun w h => hts w (List.mem_cons_of_mem _ h)
  have hown : s.vm.findClass RJx4a65c = some m.cls := findClass_of_methodNamed B.named
  obtain ⟨hsz, hP, hKE, hD0, hZ⟩ := hpre
  subst hsz
  have hD := hD0.self (sz := s.heap.size)
  generalize hAe : va_A (wL la mo (eA E 0) ln PL pf) s.heap.size = A at hD hZ ⊢
  have hA : ∀ q : Nat, s.heap.size ≤ q → A q := fun q h => by rw [← hAe]; exact Or.inr h
  have hS : va_S A s.heap s.heap [] := va_S.rf
  have hP : va_P (eD E) vwCl ([(la, .inr (0, [.int mo, .ref (eA E 0), .int ln]))] ++ va_pl PL pf) s.heap := hP
  have hD : va_D A ([(la, .inr (0, [.int mo, .ref (eA E 0), .int ln]))] ++ va_pl PL pf) := hD
  have hl := lv_entry ([.ref la, .ref cm]) (n := 2) (Nat.le_of_ble_eq_true rfl)
  rw [lg_entry_eq]
  generalize (lg_sl ([.ref la, .ref cm]) ++ List.replicate (2 - (lg_sl ([.ref la, .ref cm])).length) Slot.unset).toArray = ls at hl ⊢
  have hl : lv_has ls 2 [(0, .ref la), (1, .ref cm)] := hl
  unfold wp_Jx4a65c_add_9ea2d_v at hw
  refine lv_aload_n hx hb dJx4a65c_add_9ea2d_0 rfl (lv_at hl 0 rfl) ?_
  refine lv_dup hx hb dJx4a65c_add_9ea2d_1 rfl ?_
  refine va_get (D := eD E) (ci := 0) (v := .int mo) (C := RJx4a65c) (T := TJx4a65c) (N := 3) hx hb hta lay_AL hown hKE.1 hP 0 rfl rfl 0 (by decide) (hta _ tw_44) (fun x h9 => u_same (hta _ tw_45) x h9) rfl dJx4a65c_add_9ea2d_2 ?_
  refine lv_iconst (v := 1) hx hb dJx4a65c_add_9ea2d_5 (by decide) ?_
  refine lv_iadd hx hb dJx4a65c_add_9ea2d_6 ?_
  refine va_put (D := eD E) (ci := 0) (v := .int (mo + 1)) (ty := .int) (C := RJx4a65c) (T := TJx4a65c) (N := 3) hx hb hta lay_AL tyJx4a65c tyJx4a65c_ok nmJx4a65c hown hKE.1 hP hD hS 0 rfl rfl 0 (by decide) (hta _ tw_44) (fun x h9 => u_same (hta _ tw_45) x h9) rfl (by decide +kernel) rfl rfl (Nat.le_of_ble_eq_true rfl) dJx4a65c_add_9ea2d_7 (fun H locs hP hD hS => ?_)
  have hP : va_P (eD E) vwCl ([(la, .inr (0, [.int (mo + 1), .ref (eA E 0), .int ln]))] ++ va_pl PL pf) H := hP
  have hD : va_D A ([(la, .inr (0, [.int (mo + 1), .ref (eA E 0), .int ln]))] ++ va_pl PL pf) := hD
  refine lv_aload_n hx hb dJx4a65c_add_9ea2d_10 rfl (lv_at hl 0 rfl) ?_
  refine lv_aload_n hx hb dJx4a65c_add_9ea2d_11 rfl (lv_at hl 1 rfl) ?_
  refine lv_aload_n hx hb dJx4a65c_add_9ea2d_12 rfl (lv_at hl 0 rfl) ?_
  refine va_get (D := eD E) (ci := 0) (v := .ref (eA E 0)) (C := RJx4a65c) (T := TJx4a65c) (N := 3) hx hb hta lay_AL hown hKE.1 hP 0 rfl rfl 1 (by decide) (hta _ tw_41) (fun _ h9 => h9) rfl dJx4a65c_add_9ea2d_13 ?_
  refine lv_aload_n hx hb dJx4a65c_add_9ea2d_16 rfl (lv_at hl 0 rfl) ?_
  refine va_get (D := eD E) (ci := 0) (v := .int ln) (C := RJx4a65c) (T := TJx4a65c) (N := 3) hx hb hta lay_AL hown hKE.1 hP 0 rfl rfl 2 (by decide) (hta _ tw_42) (fun _ h9 => h9) rfl dJx4a65c_add_9ea2d_17 ?_
  have hPc : va_P (eD E) vwCl (wL la (mo + 1) (eA E 0) ln PL pf) H := hP
  have hDc : va_D A (wL la (mo + 1) (eA E 0) ln PL pf) := hD
  have hFc : ∀ q, va_A (wL la (mo + 1) (eA E 0) ln PL pf) H.size q → A q := frS hDc hS hA
  refine va_callv (va_runV (As := [.ref cm, .ref (eA E 0), .int ln]) (rest := []) ⟨hx, hb, hml, hown, hta⟩ (c_Jx4a65c_add_72be8_v E l la (mo + 1) ln PL pf cm ln H.size _ hw) (pcV (n := 3) hta tw_381 tw_378 tw_4 tw_380 tp_20 rfl rfl hd_Jx4a65c_add_72be8 ⟨Nat.le_of_ble_eq_true rfl, Nat.le_of_ble_eq_true rfl⟩) ⟨fbM, va_recv hKE.1 hP (ci := 0) (q0 := 0) rfl rfl, fun U hU hW => ⟨rfl, preM.mk hPc hKE hDc hZ hS hFc hU hW⟩⟩ rfl rfl hl.1 rfl (lv_room (Nat.le_of_ble_eq_true rfl)) dJx4a65c_add_9ea2d_20 ⟨Nat.le_of_ble_eq_true rfl, Nat.le_of_ble_eq_true rfl⟩) hS (fun q _ h => hFc q h) hFc (fun u t H locs ht hvm hw hB hz1 hk1 hS => ?_)
  obtain ⟨mo_690, ad_691, ln_692, PL_693, pf_694⟩ := u
  obtain ⟨hP1, hD1⟩ := hB
  rw [ht] at hP1
  try dsimp only at hw hP1 hD1
  have hP : va_P (eD E) vwCl ([(la, .inr (0, [.int mo_690, .ref ad_691, .int ln_692]))] ++ va_pl PL_693 pf_694) H := hP1
  have hD : va_D A ([(la, .inr (0, [.int mo_690, .ref ad_691, .int ln_692]))] ++ va_pl PL_693 pf_694) := hD1.weaken (fun _ q _ h => hFc q.1 h)
  refine lv_iconst (v := 1) hx hb dJx4a65c_add_9ea2d_23 (by decide) ?_
  have hP9 : va_P (eD E) vwCl (wL la mo_690 ad_691 ln_692 PL_693 pf_694) H := hP
  have hD9 : va_D A (wL la mo_690 ad_691 ln_692 PL_693 pf_694) := hD
  exact W.zret (v := 1) hx hb hr rfl (fun t ht hW => ⟨⟨1, (mo_690, ad_691, ln_692, PL_693, pf_694), rfl, hw, ⟨by rw [ht]; exact hP9, hD9⟩⟩, hS.F ht⟩) hS.2.2 dJx4a65c_add_9ea2d_24
def wp_Jx4a65c_add_9ea2d (E : EV) (post : Int32 → Int32 → Nat → Int32 → List Nat → (Nat → va_E) → Prop) (mo : Int32) (ad : Nat) (ln : Int32) (PL : List Nat) (pf : Nat → va_E) (cm : Nat) : Prop := (ad = eA E 0 → wp_Jx4a65c_add_9ea2d_v E post mo ln PL pf cm) ∧ (¬ ad = eA E 0 → wp_Jx4a65c_add_9ea2d_g E post mo ad ln PL pf cm)
theorem c_Jx4a65c_add_9ea2d (E : EV) (l : Launch) (la : Nat) (mo : Int32) (ad : Nat) (ln : Int32) (PL : List Nat) (pf : Nat → va_E) (cm : Nat) (hz : Nat) (post : Int32 → Int32 → Nat → Int32 → List Nat → (Nat → va_E) → Prop) (hw : wp_Jx4a65c_add_9ea2d E post mo ad ln PL pf cm) : Met l yJx4a65c_add_9ea2d (Cond.code yJx4a65c_add_9ea2d cJx4a65c_add_9ea2d 2 (some .boolean) :: ALLW) ({ frames := 6, cells := 1, slots := 32, locals := 128 } : Room) (va_Pc [.ref la, .ref cm] (preM E (wL la mo ad ln PL pf) hz)) (va_Qi (fun (r : Int32) (u : Int32 × Nat × Int32 × List Nat × (Nat → va_E)) => post r u.1 u.2.1 u.2.2.1 u.2.2.2.1 u.2.2.2.2) (fun (u : Int32 × Nat × Int32 × List Nat × (Nat → va_E)) t => va_P (eD E) vwCl (wL la u.1 u.2.1 u.2.2.1 u.2.2.2.1 u.2.2.2.2) t.heap ∧ va_D (va_A (wL la mo ad ln PL pf) hz) (wL la u.1 u.2.1 u.2.2.1 u.2.2.2.1 u.2.2.2.2)) (va_A (wL la mo ad ln PL pf) hz)) 1 32 (va_A (wL la mo ad ln PL pf) hz) := by
  by_cases h : ad = eA E 0
  · have hw2 := hw.1 h
    subst h
    exact c_Jx4a65c_add_9ea2d_v E l la mo ln PL pf cm hz post hw2
  · exact c_Jx4a65c_add_9ea2d_g E l la mo ad ln PL pf cm hz post (hw.2 h)
def wp_Jx4a65c_fastRemove_b59b0 (E : EV) (post : Int32 → Nat → Int32 → List Nat → (Nat → va_E) → Prop) (mo : Int32) (ad : Nat) (ln : Int32) (PL : List Nat) (pf : Nat → va_E) (p0 : Nat) (p1 : Int32) : Prop := (((ln - 1) ≤ p1 → (∃ (anz_696 : Nat) (afz_696 : Nat → Option Nat), p0 ∈ PL ∧ pf p0 = .inl (eC E 2, anz_696, .inr (.inr (.inr (.inr afz_696)))) ∧ (vp_in (ln - 1) anz_696 ∧ (∀ pf_699 : Nat → va_E, pf_699 = va_up pf p0 (.inl (eC E 2, anz_696, .inr (.inr (.inr (.inr (va_up afz_696 (ln - 1).toNatClampNeg none)))))) → post (mo + 1) ad (ln - 1) PL pf_699)))) ∧ (¬ (ln - 1) ≤ p1 → (∃ (anz_701 : Nat) (afz_701 : Nat → Option Nat), p0 ∈ PL ∧ pf p0 = .inl (eC E 2, anz_701, .inr (.inr (.inr (.inr afz_701)))) ∧ ((¬ (p1 + 1) < 0 ∧ ¬ p1 < 0 ∧ ¬ ((ln - 1) - p1) < 0 ∧ (p1 + 1).toNatClampNeg + ((ln - 1) - p1).toNatClampNeg ≤ anz_701 ∧ p1.toNatClampNeg + ((ln - 1) - p1).toNatClampNeg ≤ anz_701) ∧ (∀ i : Nat, i < ((ln - 1) - p1).toNatClampNeg → ∀ y : Nat, afz_701 ((p1 + 1).toNatClampNeg + i) = some y → y ∈ PL ∧ ∃ k1 k2 k3 k4 : Int32, pf y = .inr (1, [.int k1, .int k2, .int k3, .int k4])) ∧ (∀ pf_705 : Nat → va_E, pf_705 = va_up pf p0 (.inl (eC E 2, anz_701, .inr (.inr (.inr (.inr (va_cpy afz_701 afz_701 (p1 + 1).toNatClampNeg p1.toNatClampNeg ((ln - 1) - p1).toNatClampNeg)))))) → (vp_in (ln - 1) anz_701 ∧ (∀ pf_709 : Nat → va_E, pf_709 = va_up pf_705 p0 (.inl (eC E 2, anz_701, .inr (.inr (.inr (.inr (va_up (va_cpy afz_701 afz_701 (p1 + 1).toNatClampNeg p1.toNatClampNeg ((ln - 1) - p1).toNatClampNeg) (ln - 1).toNatClampNeg none)))))) → post (mo + 1) ad (ln - 1) PL pf_709)))))))
set_option maxHeartbeats 4000000 in
set_option maxRecDepth 100000 in
theorem c_Jx4a65c_fastRemove_b59b0 (E : EV) (l : Launch) (la : Nat) (mo : Int32) (ad : Nat) (ln : Int32) (PL : List Nat) (pf : Nat → va_E) (p0 : Nat) (p1 : Int32) (hz : Nat) (post : Int32 → Nat → Int32 → List Nat → (Nat → va_E) → Prop) (hw : wp_Jx4a65c_fastRemove_b59b0 E post mo ad ln PL pf p0 p1) : Met l yJx4a65c_fastRemove_b59b0 (Cond.code yJx4a65c_fastRemove_b59b0 cJx4a65c_fastRemove_b59b0 4 none :: ALLW) ({ frames := 1, cells := 0, slots := 0, locals := 18 } : Room) (va_Pc [.ref la, .ref p0, .int p1] (preM E (wL la mo ad ln PL pf) hz)) (va_Qv (fun (u : Int32 × Nat × Int32 × List Nat × (Nat → va_E)) => post u.1 u.2.1 u.2.2.1 u.2.2.2.1 u.2.2.2.2) (fun (u : Int32 × Nat × Int32 × List Nat × (Nat → va_E)) t => va_P (eD E) vwCl (wL la u.1 u.2.1 u.2.2.1 u.2.2.2.1 u.2.2.2.2) t.heap ∧ va_D (va_A (wL la mo ad ln PL pf) hz) (wL la u.1 u.2.1 u.2.2.1 u.2.2.2.1 u.2.2.2.2)) (va_A (wL la mo ad ln PL pf) hz)) 0 0 (va_A (wL la mo ad ln PL pf) hz) := by
  refine Met.ofW (cc := cJx4a65c_fastRemove_b59b0) (maxL := 4) (ret := none) (by decide) rfl ?_
  intro p e s m args below meth c s₁ B hml hv
  obtain ⟨rfl, hpre⟩ := hv
  have hx := B.exec
  have hb := B.bytes
  have hr := B.returns
  have hlocks := B.notSynchronized
  have hts := atoms_spec (ws := (Cond.code yJx4a65c_fastRemove_b59b0 cJx4a65c_fastRemove_b59b0 4 none :: ALLW)) B.pre
  have hta : ∀ w ∈ ALLW, w.before ([.ref la, .ref p0, .int p1] : List Value).toArray s = true := fun w h => hts w (List.mem_cons_of_mem _ h)
  have hown : s.vm.findClass RJx4a65c = some m.cls := findClass_of_methodNamed B.named
  obtain ⟨hsz, hP, hKE, hD0, hZ⟩ := hpre
  subst hsz
  have hD := hD0.self (sz := s.heap.size)
  generalize hAe : va_A (wL la mo ad ln PL pf) s.heap.size = A at hD hZ ⊢
  have hA : ∀ q : Nat, s.heap.size ≤ q → A q := fun q h => by rw [← hAe]; exact Or.inr h
  have hS : va_S A s.heap s.heap [] := va_S.rf
  have hP : va_P (eD E) vwCl ([(la, .inr (0, [.int mo, .ref ad, .int ln]))] ++ va_pl PL pf) s.heap := hP
  have hD : va_D A ([(la, .inr (0, [.int mo, .ref ad, .int ln]))] ++ va_pl PL pf) := hD
  have hl := lv_entry ([.ref la, .ref p0, .int p1]) (n := 4) (Nat.le_of_ble_eq_true rfl)
  rw [lg_entry_eq]
  generalize (lg_sl ([.ref la, .ref p0, .int p1]) ++ List.replicate (4 - (lg_sl ([.ref la, .ref p0, .int p1])).length) Slot.unset).toArray = ls at hl ⊢
  have hl : lv_has ls 4 [(0, .ref la), (1, .ref p0), (2, .int p1)] := hl
  unfold wp_Jx4a65c_fastRemove_b59b0 at hw
  refine lv_aload_n hx hb dJx4a65c_fastRemove_b59b0_0 rfl (lv_at hl 0 rfl) ?_
  refine lv_dup hx hb dJx4a65c_fastRemove_b59b0_1 rfl ?_
  refine va_get (D := eD E) (ci := 0) (v := .int mo) (C := RJx4a65c) (T := TJx4a65c) (N := 3) hx hb hta lay_AL hown hKE.1 hP 0 rfl rfl 0 (by decide) (hta _ tw_44) (fun x h9 => u_same (hta _ tw_45) x h9) rfl dJx4a65c_fastRemove_b59b0_2 ?_
  refine lv_iconst (v := 1) hx hb dJx4a65c_fastRemove_b59b0_5 (by decide) ?_
  refine lv_iadd hx hb dJx4a65c_fastRemove_b59b0_6 ?_
  refine va_put (D := eD E) (ci := 0) (v := .int (mo + 1)) (ty := .int) (C := RJx4a65c) (T := TJx4a65c) (N := 3) hx hb hta lay_AL tyJx4a65c tyJx4a65c_ok nmJx4a65c hown hKE.1 hP hD hS 0 rfl rfl 0 (by decide) (hta _ tw_44) (fun x h9 => u_same (hta _ tw_45) x h9) rfl (by decide +kernel) rfl rfl (Nat.le_of_ble_eq_true rfl) dJx4a65c_fastRemove_b59b0_7 (fun H locs hP hD hS => ?_)
  have hP : va_P (eD E) vwCl ([(la, .inr (0, [.int (mo + 1), .ref ad, .int ln]))] ++ va_pl PL pf) H := hP
  have hD : va_D A ([(la, .inr (0, [.int (mo + 1), .ref ad, .int ln]))] ++ va_pl PL pf) := hD
  refine lv_aload_n hx hb dJx4a65c_fastRemove_b59b0_10 rfl (lv_at hl 0 rfl) ?_
  refine va_get (D := eD E) (ci := 0) (v := .int ln) (C := RJx4a65c) (T := TJx4a65c) (N := 3) hx hb hta lay_AL hown hKE.1 hP 0 rfl rfl 2 (by decide) (hta _ tw_42) (fun _ h9 => h9) rfl dJx4a65c_fastRemove_b59b0_11 ?_
  refine lv_iconst (v := 1) hx hb dJx4a65c_fastRemove_b59b0_14 (by decide) ?_
  refine lv_isub hx hb dJx4a65c_fastRemove_b59b0_15 ?_
  refine lv_dup hx hb dJx4a65c_fastRemove_b59b0_16 rfl ?_
  refine lv_istore_n (lv' := [(3, .int (ln - 1)), (0, .ref la), (1, .ref p0), (2, .int p1)]) hx hb dJx4a65c_fastRemove_b59b0_17 rfl hl (by decide) rfl (fun ls hl => ?_)
  refine lv_iload_n hx hb dJx4a65c_fastRemove_b59b0_18 rfl (lv_at hl 3 rfl) ?_
  refine lv_icmp_le (tgt := 34) hx hb dJx4a65c_fastRemove_b59b0_19 (by decide) (fun c_695 => ?_) (fun c_695 => ?_)
  · have hw := hw.1 c_695
    refine lv_aload_n hx hb dJx4a65c_fastRemove_b59b0_34 rfl (lv_at hl 2 rfl) ?_
    refine lv_aload_n hx hb dJx4a65c_fastRemove_b59b0_35 rfl (lv_at hl 1 rfl) ?_
    refine lv_iload_n hx hb dJx4a65c_fastRemove_b59b0_36 rfl (lv_at hl 0 rfl) ?_
    refine lv_dup_x1 hx hb dJx4a65c_fastRemove_b59b0_37 rfl rfl ?_
    refine va_put (D := eD E) (ci := 0) (v := .int (ln - 1)) (ty := .int) (C := RJx4a65c) (T := TJx4a65c) (N := 3) hx hb hta lay_AL tyJx4a65c tyJx4a65c_ok nmJx4a65c hown hKE.1 hP hD hS 0 rfl rfl 2 (by decide) (hta _ tw_42) (fun _ h9 => h9) rfl (by decide +kernel) rfl rfl (Nat.le_of_ble_eq_true rfl) dJx4a65c_fastRemove_b59b0_38 (fun H locs hP hD hS => ?_)
    have hP : va_P (eD E) vwCl ([(la, .inr (0, [.int (mo + 1), .ref ad, .int (ln - 1)]))] ++ va_pl PL pf) H := hP
    have hD : va_D A ([(la, .inr (0, [.int (mo + 1), .ref ad, .int (ln - 1)]))] ++ va_pl PL pf) := hD
    refine lv_null hx hb dJx4a65c_fastRemove_b59b0_41 ?_
    obtain ⟨anz_696, afz_696, hyz_696, hfz_696, hw⟩ := hw
    obtain ⟨i_697, hi_697⟩ := va_pl_get (X := [(la, .inr (0, [.int (mo + 1), .ref ad, .int (ln - 1)]))]) (f := pf) hyz_696
    have gi_697 := hi_697
    rw [hfz_696] at hi_697
    obtain ⟨hi_698, hw⟩ := hw
    have hDo := hD
    refine va_astqN hx hb hKE.1 hP hD hS i_697 2 hi_697 rfl hi_698 dJx4a65c_fastRemove_b59b0_42 (fun H locs hP hD hS => ?_)
    obtain ⟨hP, hD⟩ := pl_set hDo hyz_696 gi_697 hP hD
    obtain ⟨pf_699, epf_699⟩ : ∃ z : Nat → va_E, z = va_up pf p0 (.inl (eC E 2, anz_696, .inr (.inr (.inr (.inr (va_up afz_696 (ln - 1).toNatClampNeg none)))))) := ⟨_, rfl⟩
    have hw := hw pf_699 epf_699
    have hP : va_P (eD E) vwCl ([(la, .inr (0, [.int (mo + 1), .ref ad, .int (ln - 1)]))] ++ va_pl PL pf_699) H := by rw [epf_699]; exact hP
    have hD : va_D A ([(la, .inr (0, [.int (mo + 1), .ref ad, .int (ln - 1)]))] ++ va_pl PL pf_699) := by rw [epf_699]; exact hD
    have hf_700 : pf_699 p0 = (.inl (eC E 2, anz_696, .inr (.inr (.inr (.inr (va_up afz_696 (ln - 1).toNatClampNeg none)))))) := by rw [epf_699]; exact va_up_self _ _ _
    have hP9 : va_P (eD E) vwCl (wL la (mo + 1) ad (ln - 1) PL pf_699) H := hP
    have hD9 : va_D A (wL la (mo + 1) ad (ln - 1) PL pf_699) := hD
    exact W.vret hx hb hr (fun t ht hW => ⟨⟨((mo + 1), ad, (ln - 1), PL, pf_699), rfl, hw, ⟨by rw [ht]; exact hP9, hD9⟩⟩, hS.F ht⟩) hS.2.2 dJx4a65c_fastRemove_b59b0_43
  · have hw := hw.2 c_695
    refine lv_aload_n hx hb dJx4a65c_fastRemove_b59b0_22 rfl (lv_at hl 2 rfl) ?_
    refine lv_iload_n hx hb dJx4a65c_fastRemove_b59b0_23 rfl (lv_at hl 3 rfl) ?_
    refine lv_iconst (v := 1) hx hb dJx4a65c_fastRemove_b59b0_24 (by decide) ?_
    refine lv_iadd hx hb dJx4a65c_fastRemove_b59b0_25 ?_
    refine lv_aload_n hx hb dJx4a65c_fastRemove_b59b0_26 rfl (lv_at hl 2 rfl) ?_
    refine lv_iload_n hx hb dJx4a65c_fastRemove_b59b0_27 rfl (lv_at hl 3 rfl) ?_
    refine lv_iload_n hx hb dJx4a65c_fastRemove_b59b0_28 rfl (lv_at hl 0 rfl) ?_
    refine lv_iload_n hx hb dJx4a65c_fastRemove_b59b0_29 rfl (lv_at hl 3 rfl) ?_
    refine lv_isub hx hb dJx4a65c_fastRemove_b59b0_30 ?_
    obtain ⟨anz_701, afz_701, hyz_701, hfz_701, hw⟩ := hw
    obtain ⟨i_702, hi_702⟩ := va_pl_get (X := [(la, .inr (0, [.int (mo + 1), .ref ad, .int ln]))]) (f := pf) hyz_701
    have gi_702 := hi_702
    rw [hfz_701] at hi_702
    obtain ⟨i_703, hi_703⟩ := va_pl_get (X := [(la, .inr (0, [.int (mo + 1), .ref ad, .int ln]))]) (f := pf) hyz_701
    have gi_703 := hi_703
    rw [hfz_701] at hi_703
    obtain ⟨⟨h1k_704, h2k_704, h3k_704, h4k_704, h5k_704⟩, helk_704, hw⟩ := hw
    have hDo := hD
    refine va_copyq hx hb (hml.trans hl.1.symm) hown (hta _ tw_490) (hta _ tw_423) (hta _ tw_422) (hta _ tw_14) hKE.1 hP hD hS i_702 i_703 2 2 hi_702 hi_703 rfl rfl h1k_704 h2k_704 h3k_704 h4k_704 h5k_704 (C := RX0) (fun i hi y hy => by obtain ⟨h1, k1, k2, k3, k4, h2⟩ := helk_704 i hi y hy; exact cmd_cell hKE hP h1 h2) (vb_asgC (hKE.2.1 _ (List.mem_of_getElem? (i := 14) rfl))) (Nat.le_of_ble_eq_true rfl) (Nat.le_of_ble_eq_true rfl) dJx4a65c_fastRemove_b59b0_31 (fun H locs hP hD hS => ?_)
    obtain ⟨hP, hD⟩ := pl_set hDo hyz_701 gi_703 hP hD
    obtain ⟨pf_705, epf_705⟩ : ∃ z : Nat → va_E, z = va_up pf p0 (.inl (eC E 2, anz_701, .inr (.inr (.inr (.inr (va_cpy afz_701 afz_701 (p1 + 1).toNatClampNeg p1.toNatClampNeg ((ln - 1) - p1).toNatClampNeg)))))) := ⟨_, rfl⟩
    have hw := hw pf_705 epf_705
    have hP : va_P (eD E) vwCl ([(la, .inr (0, [.int (mo + 1), .ref ad, .int ln]))] ++ va_pl PL pf_705) H := by rw [epf_705]; exact hP
    have hD : va_D A ([(la, .inr (0, [.int (mo + 1), .ref ad, .int ln]))] ++ va_pl PL pf_705) := by rw [epf_705]; exact hD
    have hf_706 : pf_705 p0 = (.inl (eC E 2, anz_701, .inr (.inr (.inr (.inr (va_cpy afz_701 afz_701 (p1 + 1).toNatClampNeg p1.toNatClampNeg ((ln - 1) - p1).toNatClampNeg)))))) := by rw [epf_705]; exact va_up_self _ _ _
    refine lv_aload_n hx hb dJx4a65c_fastRemove_b59b0_34 rfl (lv_at hl 2 rfl) ?_
    refine lv_aload_n hx hb dJx4a65c_fastRemove_b59b0_35 rfl (lv_at hl 1 rfl) ?_
    refine lv_iload_n hx hb dJx4a65c_fastRemove_b59b0_36 rfl (lv_at hl 0 rfl) ?_
    refine lv_dup_x1 hx hb dJx4a65c_fastRemove_b59b0_37 rfl rfl ?_
    refine va_put (D := eD E) (ci := 0) (v := .int (ln - 1)) (ty := .int) (C := RJx4a65c) (T := TJx4a65c) (N := 3) hx hb hta lay_AL tyJx4a65c tyJx4a65c_ok nmJx4a65c hown hKE.1 hP hD hS 0 rfl rfl 2 (by decide) (hta _ tw_42) (fun _ h9 => h9) rfl (by decide +kernel) rfl rfl (Nat.le_of_ble_eq_true rfl) dJx4a65c_fastRemove_b59b0_38 (fun H locs hP hD hS => ?_)
    have hP : va_P (eD E) vwCl ([(la, .inr (0, [.int (mo + 1), .ref ad, .int (ln - 1)]))] ++ va_pl PL pf_705) H := hP
    have hD : va_D A ([(la, .inr (0, [.int (mo + 1), .ref ad, .int (ln - 1)]))] ++ va_pl PL pf_705) := hD
    refine lv_null hx hb dJx4a65c_fastRemove_b59b0_41 ?_
    obtain ⟨i_707, hi_707⟩ := va_pl_get (X := [(la, .inr (0, [.int (mo + 1), .ref ad, .int (ln - 1)]))]) (f := pf_705) hyz_701
    have gi_707 := hi_707
    rw [hf_706] at hi_707
    obtain ⟨hi_708, hw⟩ := hw
    have hDo := hD
    refine va_astqN hx hb hKE.1 hP hD hS i_707 2 hi_707 rfl hi_708 dJx4a65c_fastRemove_b59b0_42 (fun H locs hP hD hS => ?_)
    obtain ⟨hP, hD⟩ := pl_set hDo hyz_701 gi_707 hP hD
    obtain ⟨pf_709, epf_709⟩ : ∃ z : Nat → va_E, z = va_up pf_705 p0 (.inl (eC E 2, anz_701, .inr (.inr (.inr (.inr (va_up (va_cpy afz_701 afz_701 (p1 + 1).toNatClampNeg p1.toNatClampNeg ((ln - 1) - p1).toNatClampNeg) (ln - 1).toNatClampNeg none)))))) := ⟨_, rfl⟩
    have hw := hw pf_709 epf_709
    have hP : va_P (eD E) vwCl ([(la, .inr (0, [.int (mo + 1), .ref ad, .int (ln - 1)]))] ++ va_pl PL pf_709) H := by rw [epf_709]; exact hP
    have hD : va_D A ([(la, .inr (0, [.int (mo + 1), .ref ad, .int (ln - 1)]))] ++ va_pl PL pf_709) := by rw [epf_709]; exact hD
    have hf_710 : pf_709 p0 = (.inl (eC E 2, anz_701, .inr (.inr (.inr (.inr (va_up (va_cpy afz_701 afz_701 (p1 + 1).toNatClampNeg p1.toNatClampNeg ((ln - 1) - p1).toNatClampNeg) (ln - 1).toNatClampNeg none)))))) := by rw [epf_709]; exact va_up_self _ _ _
    have hP9 : va_P (eD E) vwCl (wL la (mo + 1) ad (ln - 1) PL pf_709) H := hP
    have hD9 : va_D A (wL la (mo + 1) ad (ln - 1) PL pf_709) := hD
    exact W.vret hx hb hr (fun t ht hW => ⟨⟨((mo + 1), ad, (ln - 1), PL, pf_709), rfl, hw, ⟨by rw [ht]; exact hP9, hD9⟩⟩, hS.F ht⟩) hS.2.2 dJx4a65c_fastRemove_b59b0_43
def wp_Jx4a65c_remove_915e3 (E : EV) (post : Option Nat → Int32 → Nat → Int32 → List Nat → (Nat → va_E) → Prop) (mo : Int32) (ad : Nat) (ln : Int32) (PL : List Nat) (pf : Nat → va_E) (p0 : Int32) : Prop := (wp_J15_checkIndex_7cf53 E (fun r_711 : Int32 => (∃ (anz_712 : Nat) (afz_712 : Nat → Option Nat), ad ∈ PL ∧ pf ad = .inl (eC E 2, anz_712, .inr (.inr (.inr (.inr afz_712)))) ∧ (vp_in p0 anz_712 ∧ (∀ o_715, o_715 = (afz_712 p0.toNatClampNeg) → ((o_715 = none → (wp_Jx4a65c_fastRemove_b59b0 E (fun (mo_718 : Int32) (ad_719 : Nat) (ln_720 : Int32) (PL_721 : List Nat) (pf_722 : Nat → va_E) => post none mo_718 ad_719 ln_720 PL_721 pf_722) mo ad ln PL pf ad p0)) ∧ (∀ y_716 : Nat, o_715 = some y_716 → (wp_Jx4a65c_fastRemove_b59b0 E (fun (mo_724 : Int32) (ad_725 : Nat) (ln_726 : Int32) (PL_727 : List Nat) (pf_728 : Nat → va_E) => post (some y_716) mo_724 ad_725 ln_726 PL_727 pf_728) mo ad ln PL pf ad p0))))))) p0 ln)
set_option maxHeartbeats 4000000 in
set_option maxRecDepth 100000 in
theorem c_Jx4a65c_remove_915e3 (E : EV) (l : Launch) (la : Nat) (mo : Int32) (ad : Nat) (ln : Int32) (PL : List Nat) (pf : Nat → va_E) (p0 : Int32) (hz : Nat) (post : Option Nat → Int32 → Nat → Int32 → List Nat → (Nat → va_E) → Prop) (hw : wp_Jx4a65c_remove_915e3 E post mo ad ln PL pf p0) : Met l yJx4a65c_remove_915e3 (Cond.code yJx4a65c_remove_915e3 cJx4a65c_remove_915e3 4 (some (.object "java/lang/Object")) :: ALLW) ({ frames := 2, cells := 0, slots := 0, locals := 43 } : Room) (va_Pc [.ref la, .int p0] (preM E (wL la mo ad ln PL pf) hz)) (va_Qq (fun (r : Option Nat) (u : Int32 × Nat × Int32 × List Nat × (Nat → va_E)) => post r u.1 u.2.1 u.2.2.1 u.2.2.2.1 u.2.2.2.2) (fun (u : Int32 × Nat × Int32 × List Nat × (Nat → va_E)) t => va_P (eD E) vwCl (wL la u.1 u.2.1 u.2.2.1 u.2.2.2.1 u.2.2.2.2) t.heap ∧ va_D (va_A (wL la mo ad ln PL pf) hz) (wL la u.1 u.2.1 u.2.2.1 u.2.2.2.1 u.2.2.2.2)) (va_A (wL la mo ad ln PL pf) hz)) 0 0 (va_A (wL la mo ad ln PL pf) hz) := by
  refine Met.ofW (cc := cJx4a65c_remove_915e3) (maxL := 4) (ret := (some (.object "java/lang/Object"))) (by decide) rfl ?_
  intro p e s m args below meth c s₁ B hml hv
  obtain ⟨rfl, hpre⟩ := hv
  have hx := B.exec
  have hb := B.bytes
  have hr := B.returns
  have hlocks := B.notSynchronized
  have hts := atoms_spec (ws := (Cond.code yJx4a65c_remove_915e3 cJx4a65c_remove_915e3 4 (some (.object "java/lang/Object")) :: ALLW)) B.pre
  have hta : ∀ w ∈ ALLW, w.before ([.ref la, .int p0] : List Value).toArray s = true := fun w h => hts w (List.mem_cons_of_mem _ h)
  have hown : s.vm.findClass RJx4a65c = some m.cls := findClass_of_methodNamed B.named
  obtain ⟨hsz, hP, hKE, hD0, hZ⟩ := hpre
  subst hsz
  have hD := hD0.self (sz := s.heap.size)
  generalize hAe : va_A (wL la mo ad ln PL pf) s.heap.size = A at hD hZ ⊢
  have hA : ∀ q : Nat, s.heap.size ≤ q → A q := fun q h => by rw [← hAe]; exact Or.inr h
  have hS : va_S A s.heap s.heap [] := va_S.rf
  have hP : va_P (eD E) vwCl ([(la, .inr (0, [.int mo, .ref ad, .int ln]))] ++ va_pl PL pf) s.heap := hP
  have hD : va_D A ([(la, .inr (0, [.int mo, .ref ad, .int ln]))] ++ va_pl PL pf) := hD
  have hl := lv_entry ([.ref la, .int p0]) (n := 4) (Nat.le_of_ble_eq_true rfl)
  rw [lg_entry_eq]
  generalize (lg_sl ([.ref la, .int p0]) ++ List.replicate (4 - (lg_sl ([.ref la, .int p0])).length) Slot.unset).toArray = ls at hl ⊢
  have hl : lv_has ls 4 [(0, .ref la), (1, .int p0)] := hl
  unfold wp_Jx4a65c_remove_915e3 at hw
  refine lv_iload_n hx hb dJx4a65c_remove_915e3_0 rfl (lv_at hl 1 rfl) ?_
  refine lv_aload_n hx hb dJx4a65c_remove_915e3_1 rfl (lv_at hl 0 rfl) ?_
  refine va_get (D := eD E) (ci := 0) (v := .int ln) (C := RJx4a65c) (T := TJx4a65c) (N := 3) hx hb hta lay_AL hown hKE.1 hP 0 rfl rfl 2 (by decide) (hta _ tw_42) (fun _ h9 => h9) rfl dJx4a65c_remove_915e3_2 ?_
  have hPc : va_P (eD E) vwCl [] s.heap := va_P_nil
  refine vp_callSi (va_Run.run (va_runS (As := [.int p0, .int ln]) (rest := []) ⟨hx, hb, hml, hown, hta⟩ (c_J15_checkIndex_7cf53 E l p0 ln _ hw) (pcS (n := 2) hta tw_169 tw_167 tw_16 tw_168 rfl rfl hd_J15_checkIndex_7cf53 ⟨Nat.le_of_ble_eq_true rfl, Nat.le_of_ble_eq_true rfl⟩) ⟨fbR, fun U hU hW => ⟨rfl, preR.mk hPc hKE hU hW⟩⟩ rfl rfl hl.1 rfl (lv_room (Nat.le_of_ble_eq_true rfl)) dJx4a65c_remove_915e3_5 ⟨Nat.le_of_ble_eq_true rfl, Nat.le_of_ble_eq_true rfl⟩)) (fun r_711 hw => ?_)
  refine lv_pop hx hb dJx4a65c_remove_915e3_8 rfl ?_
  refine lv_aload_n hx hb dJx4a65c_remove_915e3_9 rfl (lv_at hl 0 rfl) ?_
  refine va_get (D := eD E) (ci := 0) (v := .ref ad) (C := RJx4a65c) (T := TJx4a65c) (N := 3) hx hb hta lay_AL hown hKE.1 hP 0 rfl rfl 1 (by decide) (hta _ tw_41) (fun _ h9 => h9) rfl dJx4a65c_remove_915e3_10 ?_
  refine lv_astore_n (lv' := [(2, .ref ad), (0, .ref la), (1, .int p0)]) hx hb dJx4a65c_remove_915e3_13 rfl hl (by decide) rfl (fun ls hl => ?_)
  refine lv_aload_n hx hb dJx4a65c_remove_915e3_14 rfl (lv_at hl 0 rfl) ?_
  refine lv_iload_n hx hb dJx4a65c_remove_915e3_15 rfl (lv_at hl 2 rfl) ?_
  obtain ⟨anz_712, afz_712, hyz_712, hfz_712, hw⟩ := hw
  obtain ⟨i_713, hi_713⟩ := va_pl_get (X := [(la, .inr (0, [.int mo, .ref ad, .int ln]))]) (f := pf) hyz_712
  have gi_713 := hi_713
  rw [hfz_712] at hi_713
  obtain ⟨hi_714, hw⟩ := hw
  refine va_aldq hx hb hKE.1 hP i_713 2 hi_713 rfl hi_714 dJx4a65c_remove_915e3_16 ?_
  obtain ⟨o_715, eo_715⟩ : ∃ z, z = (afz_712 p0.toNatClampNeg) := ⟨_, rfl⟩
  rw [← eo_715]
  have hw := hw o_715 eo_715
  rcases o_715 with _ | y_716
  · have hw := hw.1 rfl
    refine lv_astore_nN (lv' := [(3, .null), (2, .ref ad), (0, .ref la), (1, .int p0)]) hx hb dJx4a65c_remove_915e3_17 rfl hl (by decide) rfl (fun ls hl => ?_)
    refine lv_aload_n hx hb dJx4a65c_remove_915e3_18 rfl (lv_at hl 2 rfl) ?_
    refine lv_aload_n hx hb dJx4a65c_remove_915e3_19 rfl (lv_at hl 1 rfl) ?_
    refine lv_iload_n hx hb dJx4a65c_remove_915e3_20 rfl (lv_at hl 3 rfl) ?_
    have hPc : va_P (eD E) vwCl (wL la mo ad ln PL pf) s.heap := hP
    have hDc : va_D A (wL la mo ad ln PL pf) := hD
    have hFc : ∀ q, va_A (wL la mo ad ln PL pf) s.heap.size q → A q := frS hDc hS hA
    refine va_callv (va_runV (As := [.ref ad, .int p0]) (rest := []) ⟨hx, hb, hml, hown, hta⟩ (c_Jx4a65c_fastRemove_b59b0 E l la mo ad ln PL pf ad p0 s.heap.size _ hw) (pcV (n := 2) hta tw_489 tw_486 tw_4 tw_488 tp_29 rfl rfl hd_Jx4a65c_fastRemove_b59b0 ⟨Nat.le_of_ble_eq_true rfl, Nat.le_of_ble_eq_true rfl⟩) ⟨fbM, va_recv hKE.1 hP (ci := 0) (q0 := 0) rfl rfl, fun U hU hW => ⟨rfl, preM.mk hPc hKE hDc hZ hS hFc hU hW⟩⟩ rfl rfl hl.1 rfl (lv_room (Nat.le_of_ble_eq_true rfl)) dJx4a65c_remove_915e3_21 ⟨Nat.le_of_ble_eq_true rfl, Nat.le_of_ble_eq_true rfl⟩) hS (fun q _ h => hFc q h) hFc (fun u t H locs ht hvm hw hB hz1 hk1 hS => ?_)
    obtain ⟨mo_718, ad_719, ln_720, PL_721, pf_722⟩ := u
    obtain ⟨hP1, hD1⟩ := hB
    rw [ht] at hP1
    try dsimp only at hw hP1 hD1
    have hP : va_P (eD E) vwCl ([(la, .inr (0, [.int mo_718, .ref ad_719, .int ln_720]))] ++ va_pl PL_721 pf_722) H := hP1
    have hD : va_D A ([(la, .inr (0, [.int mo_718, .ref ad_719, .int ln_720]))] ++ va_pl PL_721 pf_722) := hD1.weaken (fun _ q _ h => hFc q.1 h)
    refine lv_aload_nN hx hb dJx4a65c_remove_915e3_24 rfl (lv_at hl 0 rfl) ?_
    have hP9 : va_P (eD E) vwCl (wL la mo_718 ad_719 ln_720 PL_721 pf_722) H := hP
    have hD9 : va_D A (wL la mo_718 ad_719 ln_720 PL_721 pf_722) := hD
    exact W.aret (v := .null) hx hb hr (Or.inl ⟨_, rfl⟩) (Or.inl rfl) (fun t ht hW => ⟨⟨none, (mo_718, ad_719, ln_720, PL_721, pf_722), rfl, hw, ⟨by rw [ht]; exact hP9, hD9⟩⟩, hS.F ht⟩) hS.2.2 dJx4a65c_remove_915e3_25
  · have hw := hw.2 y_716 rfl
    refine lv_astore_n (lv' := [(3, .ref y_716), (2, .ref ad), (0, .ref la), (1, .int p0)]) hx hb dJx4a65c_remove_915e3_17 rfl hl (by decide) rfl (fun ls hl => ?_)
    refine lv_aload_n hx hb dJx4a65c_remove_915e3_18 rfl (lv_at hl 2 rfl) ?_
    refine lv_aload_n hx hb dJx4a65c_remove_915e3_19 rfl (lv_at hl 1 rfl) ?_
    refine lv_iload_n hx hb dJx4a65c_remove_915e3_20 rfl (lv_at hl 3 rfl) ?_
    have hPc : va_P (eD E) vwCl (wL la mo ad ln PL pf) s.heap := hP
    have hDc : va_D A (wL la mo ad ln PL pf) := hD
    have hFc : ∀ q, va_A (wL la mo ad ln PL pf) s.heap.size q → A q := frS hDc hS hA
    refine va_callv (va_runV (As := [.ref ad, .int p0]) (rest := []) ⟨hx, hb, hml, hown, hta⟩ (c_Jx4a65c_fastRemove_b59b0 E l la mo ad ln PL pf ad p0 s.heap.size _ hw) (pcV (n := 2) hta tw_489 tw_486 tw_4 tw_488 tp_29 rfl rfl hd_Jx4a65c_fastRemove_b59b0 ⟨Nat.le_of_ble_eq_true rfl, Nat.le_of_ble_eq_true rfl⟩) ⟨fbM, va_recv hKE.1 hP (ci := 0) (q0 := 0) rfl rfl, fun U hU hW => ⟨rfl, preM.mk hPc hKE hDc hZ hS hFc hU hW⟩⟩ rfl rfl hl.1 rfl (lv_room (Nat.le_of_ble_eq_true rfl)) dJx4a65c_remove_915e3_21 ⟨Nat.le_of_ble_eq_true rfl, Nat.le_of_ble_eq_true rfl⟩) hS (fun q _ h => hFc q h) hFc (fun u t H locs ht hvm hw hB hz1 hk1 hS => ?_)
    obtain ⟨mo_724, ad_725, ln_726, PL_727, pf_728⟩ := u
    obtain ⟨hP1, hD1⟩ := hB
    rw [ht] at hP1
    try dsimp only at hw hP1 hD1
    have hP : va_P (eD E) vwCl ([(la, .inr (0, [.int mo_724, .ref ad_725, .int ln_726]))] ++ va_pl PL_727 pf_728) H := hP1
    have hD : va_D A ([(la, .inr (0, [.int mo_724, .ref ad_725, .int ln_726]))] ++ va_pl PL_727 pf_728) := hD1.weaken (fun _ q _ h => hFc q.1 h)
    refine lv_aload_n hx hb dJx4a65c_remove_915e3_24 rfl (lv_at hl 0 rfl) ?_
    have hP9 : va_P (eD E) vwCl (wL la mo_724 ad_725 ln_726 PL_727 pf_728) H := hP
    have hD9 : va_D A (wL la mo_724 ad_725 ln_726 PL_727 pf_728) := hD
    exact W.aret (v := .ref y_716) hx hb hr (Or.inl ⟨_, rfl⟩) (Or.inr ⟨_, rfl⟩) (fun t ht hW => ⟨⟨(some y_716), (mo_724, ad_725, ln_726, PL_727, pf_728), rfl, hw, ⟨by rw [ht]; exact hP9, hD9⟩⟩, hS.F ht⟩) hS.2.2 dJx4a65c_remove_915e3_25
