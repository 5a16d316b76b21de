def wp_J8_newLength_cabcc (E : EV) (post : Int32 → Prop) (p0 : Int32) (p1 : Int32) (p2 : Int32) : Prop := (((p0 + (if p1 < p2 then p2 else p1)) ≤ 0 → False) ∧ (¬ (p0 + (if p1 < p2 then p2 else p1)) ≤ 0 → ((2147483639 < (p0 + (if p1 < p2 then p2 else p1)) → False) ∧ (¬ (2147483639 < (p0 + (if p1 < p2 then p2 else p1))) → post (p0 + (if p1 < p2 then p2 else p1))))))
set_option maxHeartbeats 4000000 in
set_option maxRecDepth 100000 in
theorem c_J8_newLength_cabcc (E : EV) (l : Launch) (p0 : Int32) (p1 : Int32) (p2 : Int32) (post : Int32 → Prop) (hw : wp_J8_newLength_cabcc E post p0 p1 p2) : Met l yJ8_newLength_cabcc (Cond.code yJ8_newLength_cabcc cJ8_newLength_cabcc 4 (some .int) :: ALLW) ({ frames := 1, cells := 0, slots := 0, locals := 14 } : Room) (va_Pc [.int p0, .int p1, .int p2] (preR E ([]))) (vp_Si post) 0 0 (fun _ => False) := by
  refine Met.ofW (cc := cJ8_newLength_cabcc) (maxL := 4) (ret := (some .int)) (by decide) rfl ?_
  intro p e s m args below meth c s₁ B hml hv
  obtain ⟨rfl, hpre⟩ := hv
  have hx := B.exec
  have hb := B.bytes
  have hr := B.returns
  have hlocks := B.notSynchronized
  have hts := atoms_spec (ws := (Cond.code yJ8_newLength_cabcc cJ8_newLength_cabcc 4 (some .int) :: ALLW)) B.pre
  have hta : ∀ w ∈ ALLW, w.before ([.int p0, .int p1, .int p2] : List Value).toArray s = true := fun w h => hts w (List.mem_cons_of_mem _ h)
  have hown : s.vm.findClass RJ8 = some m.cls := findClass_of_methodNamed B.named
  obtain ⟨hP, hKE⟩ := hpre
  have hP : va_P (eD E) vwCl [] s.heap := hP
  have hl := lv_entry ([.int p0, .int p1, .int p2]) (n := 4) (Nat.le_of_ble_eq_true rfl)
  rw [lg_entry_eq]
  generalize (lg_sl ([.int p0, .int p1, .int p2]) ++ List.replicate (4 - (lg_sl ([.int p0, .int p1, .int p2])).length) Slot.unset).toArray = ls at hl ⊢
  have hl : lv_has ls 4 [(0, .int p0), (1, .int p1), (2, .int p2)] := hl
  unfold wp_J8_newLength_cabcc at hw
  refine lv_iload_n hx hb dJ8_newLength_cabcc_0 rfl (lv_at hl 0 rfl) ?_
  refine lv_iload_n hx hb dJ8_newLength_cabcc_1 rfl (lv_at hl 1 rfl) ?_
  refine lv_iload_n hx hb dJ8_newLength_cabcc_2 rfl (lv_at hl 2 rfl) ?_
  refine va_mmax hx hb (hml.trans hl.1.symm) hown (hta _ tw_351) (hta _ tw_291) (hta _ tw_8) (hta _ tw_292) (Nat.le_of_ble_eq_true rfl) (Nat.le_of_ble_eq_true rfl) (Nat.le_of_ble_eq_true rfl) (Nat.le_of_ble_eq_true rfl) dJ8_newLength_cabcc_3 ?_
  refine lv_iadd hx hb dJ8_newLength_cabcc_6 ?_
  refine lv_istore_n (lv' := [(3, .int (p0 + (if p1 < p2 then p2 else p1))), (0, .int p0), (1, .int p1), (2, .int p2)]) hx hb dJ8_newLength_cabcc_7 rfl hl (by decide) rfl (fun ls hl => ?_)
  refine lv_iconst (v := 0) hx hb dJ8_newLength_cabcc_8 (by decide) ?_
  refine lv_iload_n hx hb dJ8_newLength_cabcc_9 rfl (lv_at hl 0 rfl) ?_
  refine lv_icmp_ge (tgt := 21) hx hb dJ8_newLength_cabcc_10 (by decide) (fun c_111 => ?_) (fun c_111 => ?_)
  · have hw := hw.1 c_111
    exact hw.elim
  · have hw := hw.2 c_111
    refine lv_iload_n hx hb dJ8_newLength_cabcc_13 rfl (lv_at hl 0 rfl) ?_
    refine lv_ldc hx hb hown (v := 2147483639) (hta _ tw_352) dJ8_newLength_cabcc_14 ?_
    refine lv_icmp_gt (tgt := 21) hx hb dJ8_newLength_cabcc_16 (by decide) (fun c_112 => ?_) (fun c_112 => ?_)
    · have hw := hw.1 c_112
      exact hw.elim
    · have hw := hw.2 c_112
      refine lv_iload_n hx hb dJ8_newLength_cabcc_19 rfl (lv_at hl 0 rfl) ?_
      exact W.iret (v := (p0 + (if p1 < p2 then p2 else p1))) hx hb hr (fun t ht hW => ⟨(p0 + (if p1 < p2 then p2 else p1)), rfl, hw, ht⟩) (fun q hq => nomatch hq) dJ8_newLength_cabcc_20
def wp_J7_copyOf_6403c (E : EV) (post : Option Nat → List Nat → (Nat → va_E) → Prop) (PL : List Nat) (pf : Nat → va_E) (p0 : Nat) (p1 : Int32) : Prop := ((¬ p1 < 0 ∧ p1.toNatClampNeg ≤ 32) ∧ (∀ q_114 : Nat, q_114 ∉ PL → ¬ q_114 = eA E 0 → ∀ pf_115 : Nat → va_E, pf_115 = va_up pf q_114 (.inl (eC E 2, p1.toNatClampNeg, .inr (.inr (.inr (.inr (fun _ => none)))))) → (∃ (anz_118 : Nat) (afz_118 : Nat → Option Nat), p0 ∈ (PL ++ [q_114]) ∧ pf_115 p0 = .inl (eC E 2, anz_118, .inr (.inr (.inr (.inr afz_118)))) ∧ ((¬ (0 : Int32) < 0 ∧ ¬ (0 : Int32) < 0 ∧ ¬ (if p1 < (Int32.ofNat anz_118) then p1 else (Int32.ofNat anz_118)) < 0 ∧ (0 : Int32).toNatClampNeg + (if p1 < (Int32.ofNat anz_118) then p1 else (Int32.ofNat anz_118)).toNatClampNeg ≤ anz_118 ∧ (0 : Int32).toNatClampNeg + (if p1 < (Int32.ofNat anz_118) then p1 else (Int32.ofNat anz_118)).toNatClampNeg ≤ p1.toNatClampNeg) ∧ (∀ i : Nat, i < (if p1 < (Int32.ofNat anz_118) then p1 else (Int32.ofNat anz_118)).toNatClampNeg → ∀ y : Nat, afz_118 ((0 : Int32).toNatClampNeg + i) = some y → y ∈ (PL ++ [q_114]) ∧ ∃ k1 k2 k3 k4 : Int32, pf_115 y = .inr (1, [.int k1, .int k2, .int k3, .int k4])) ∧ (∀ pf_123 : Nat → va_E, pf_123 = va_up pf_115 q_114 (.inl (eC E 2, p1.toNatClampNeg, .inr (.inr (.inr (.inr (va_cpy afz_118 (fun _ => none) (0 : Int32).toNatClampNeg (0 : Int32).toNatClampNeg (if p1 < (Int32.ofNat anz_118) then p1 else (Int32.ofNat anz_118)).toNatClampNeg)))))) → post (some q_114) (PL ++ [q_114]) pf_123)))))
set_option maxHeartbeats 4000000 in
set_option maxRecDepth 100000 in
theorem c_J7_copyOf_6403c (E : EV) (l : Launch) (PL : List Nat) (pf : Nat → va_E) (p0 : Nat) (p1 : Int32) (hz : Nat) (post : Option Nat → List Nat → (Nat → va_E) → Prop) (hw : wp_J7_copyOf_6403c E post PL pf p0 p1) : Met l yJ7_copyOf_6403c (Cond.code yJ7_copyOf_6403c cJ7_copyOf_6403c 4 (some (.array (.object "java/lang/Object"))) :: ALLW) ({ frames := 1, cells := 1, slots := 32, locals := 18 } : Room) (va_Pc [.ref p0, .int p1, .ref (eA E 1)] (preM E (wQ PL pf) hz)) (va_Qq (fun (r : Option Nat) (u : List Nat × (Nat → va_E)) => post r u.1 u.2) (fun (u : List Nat × (Nat → va_E)) t => va_P (eD E) vwCl (wQ u.1 u.2) t.heap ∧ va_D (va_A (wQ PL pf) hz) (wQ u.1 u.2)) (va_A (wQ PL pf) hz)) 1 32 (va_A (wQ PL pf) hz) := by
  refine Met.ofW (cc := cJ7_copyOf_6403c) (maxL := 4) (ret := (some (.array (.object "java/lang/Object")))) (by decide) rfl ?_
  intro p e s m args below meth c s₁ B hml hv
  obtain ⟨rfl, hpre⟩ := hv
  have hx := B.exec
  have hb := B.bytes
  have hr := B.returns
  have hlocks := B.notSynchronized
  have hts := atoms_spec (ws := (Cond.code yJ7_copyOf_6403c cJ7_copyOf_6403c 4 (some (.array (.object "java/lang/Object"))) :: ALLW)) B.pre
  have hta : ∀ w ∈ ALLW, w.before ([.ref p0, .int p1, .ref (eA E 1)] : List Value).toArray s = true := fun w h => hts w (List.mem_cons_of_mem _ h)
  have hown : s.vm.findClass RJ7 = some m.cls := findClass_of_methodNamed B.named
  obtain ⟨hsz, hP, hKE, hD0, hZ⟩ := hpre
  subst hsz
  have hD := hD0.self (sz := s.heap.size)
  generalize hAe : va_A (wQ PL pf) s.heap.size = A at hD hZ ⊢
  have hA : ∀ q : Nat, s.heap.size ≤ q → A q := fun q h => by rw [← hAe]; exact Or.inr h
  have hS : va_S A s.heap s.heap [] := va_S.rf
  have hP : va_P (eD E) vwCl ([] ++ va_pl PL pf) s.heap := hP
  have hD : va_D A ([] ++ va_pl PL pf) := hD
  have hl := lv_entry ([.ref p0, .int p1, .ref (eA E 1)]) (n := 4) (Nat.le_of_ble_eq_true rfl)
  rw [lg_entry_eq]
  generalize (lg_sl ([.ref p0, .int p1, .ref (eA E 1)]) ++ List.replicate (4 - (lg_sl ([.ref p0, .int p1, .ref (eA E 1)])).length) Slot.unset).toArray = ls at hl ⊢
  have hl : lv_has ls 4 [(0, .ref p0), (1, .int p1), (2, .ref (eA E 1))] := hl
  unfold wp_J7_copyOf_6403c at hw
  refine lv_aload_n hx hb dJ7_copyOf_6403c_0 rfl (lv_at hl 2 rfl) ?_
  refine va_ldcM hx hb hown (hta _ tw_372) hKE.2.2.2.1 dJ7_copyOf_6403c_1 ?_
  refine lv_acmp_ne (rx := some (eA E 1)) (ry := some (eA E 1)) (tgt := 13) hx hb dJ7_copyOf_6403c_3 (by decide) (fun c9 => absurd rfl c9) (fun _ => ?_)
  refine lv_iload_n hx hb dJ7_copyOf_6403c_6 rfl (lv_at hl 1 rfl) ?_
  obtain ⟨⟨hnk_113, hmk_113⟩, hw⟩ := hw
  refine va_newq hx hb hown (hta _ tw_374) hKE.2.2.1 hKE.1 hP hD hS hA hnk_113 rfl (by have := hmk_113; omega) (Nat.le_of_ble_eq_true rfl) (Nat.le_trans (Nat.add_le_add_left hmk_113 0) (Nat.le_of_ble_eq_true rfl)) dJ7_copyOf_6403c_7 (fun q_114 cA H hK9 hP hD hS => ?_)
  have hcA := newO hKE hK9
  subst hcA
  refine W.widen (k := 1) (n := 32) (Nat.le_of_ble_eq_true rfl) (Nat.add_le_add_left hmk_113 0) ?_
  have hqe := newq_ne hZ hD
  obtain ⟨hqk_113, hP, hD⟩ := pl_push hP hD
  obtain ⟨pf_115, epf_115⟩ : ∃ z : Nat → va_E, z = va_up pf q_114 (.inl (eC E 2, p1.toNatClampNeg, .inr (.inr (.inr (.inr (fun _ => none)))))) := ⟨_, rfl⟩
  have hw := hw q_114 hqk_113 hqe pf_115 epf_115
  have hP : va_P (eD E) vwCl ([] ++ va_pl (PL ++ [q_114]) pf_115) H := by rw [epf_115]; exact hP
  have hD : va_D A ([] ++ va_pl (PL ++ [q_114]) pf_115) := by rw [epf_115]; exact hD
  have hf_116 : pf_115 q_114 = (.inl (eC E 2, p1.toNatClampNeg, .inr (.inr (.inr (.inr (fun _ => none)))))) := by rw [epf_115]; exact va_up_self _ _ _
  have hy_117 : q_114 ∈ (PL ++ [q_114]) := List.mem_append_right _ List.mem_cons_self
  refine lv_goto (tgt := 24) hx hb dJ7_copyOf_6403c_10 (by decide) ?_
  refine lv_astore_n (lv' := [(3, .ref q_114), (0, .ref p0), (1, .int p1), (2, .ref (eA E 1))]) hx hb dJ7_copyOf_6403c_24 rfl hl (by decide) rfl (fun ls hl => ?_)
  refine lv_aload_n hx hb dJ7_copyOf_6403c_25 rfl (lv_at hl 1 rfl) ?_
  refine lv_iconst (v := 0) hx hb dJ7_copyOf_6403c_26 (by decide) ?_
  refine lv_aload_n hx hb dJ7_copyOf_6403c_27 rfl (lv_at hl 0 rfl) ?_
  refine lv_iconst (v := 0) hx hb dJ7_copyOf_6403c_28 (by decide) ?_
  refine lv_aload_n hx hb dJ7_copyOf_6403c_29 rfl (lv_at hl 1 rfl) ?_
  obtain ⟨anz_118, afz_118, hyz_118, hfz_118, hw⟩ := hw
  obtain ⟨i_119, hi_119⟩ := va_pl_get (X := []) (f := pf_115) hyz_118
  have gi_119 := hi_119
  rw [hfz_118] at hi_119
  refine va_alen hx hb hKE.1 hP i_119 2 hi_119 rfl (v := (Int32.ofNat anz_118)) rfl dJ7_copyOf_6403c_30 ?_
  refine lv_iload_n hx hb dJ7_copyOf_6403c_31 rfl (lv_at hl 2 rfl) ?_
  refine va_mmin hx hb (hml.trans hl.1.symm) hown (hta _ tw_375) (hta _ tw_376) (hta _ tw_8) (hta _ tw_377) (Nat.le_of_ble_eq_true rfl) (Nat.le_of_ble_eq_true rfl) (Nat.le_of_ble_eq_true rfl) (Nat.le_of_ble_eq_true rfl) dJ7_copyOf_6403c_32 ?_
  obtain ⟨i_120, hi_120⟩ := va_pl_get (X := []) (f := pf_115) hyz_118
  have gi_120 := hi_120
  rw [hfz_118] at hi_120
  obtain ⟨i_121, hi_121⟩ := va_pl_get (X := []) (f := pf_115) hy_117
  have gi_121 := hi_121
  rw [hf_116] at hi_121
  obtain ⟨⟨h1k_122, h2k_122, h3k_122, h4k_122, h5k_122⟩, helk_122, hw⟩ := hw
  have hDo := hD
  refine va_copyq hx hb (hml.trans hl.1.symm) hown (hta _ tw_378) (hta _ tw_380) (hta _ tw_379) (hta _ tw_16) hKE.1 hP hD hS i_120 i_121 2 2 hi_120 hi_121 rfl rfl h1k_122 h2k_122 h3k_122 h4k_122 h5k_122 (C := RX0) (fun i hi y hy => by obtain ⟨h1, k1, k2, k3, k4, h2⟩ := helk_122 i hi y hy; exact cmd_cell hKE hP h1 h2) (vb_asgC (hKE.2.1 _ (List.mem_of_getElem? (i := 14) rfl))) (Nat.le_of_ble_eq_true rfl) (Nat.le_of_ble_eq_true rfl) dJ7_copyOf_6403c_35 (fun H locs hP hD hS => ?_)
  obtain ⟨hP, hD⟩ := pl_set hDo hy_117 gi_121 hP hD
  obtain ⟨pf_123, epf_123⟩ : ∃ z : Nat → va_E, z = va_up pf_115 q_114 (.inl (eC E 2, p1.toNatClampNeg, .inr (.inr (.inr (.inr (va_cpy afz_118 (fun _ => none) (0 : Int32).toNatClampNeg (0 : Int32).toNatClampNeg (if p1 < (Int32.ofNat anz_118) then p1 else (Int32.ofNat anz_118)).toNatClampNeg)))))) := ⟨_, rfl⟩
  have hw := hw pf_123 epf_123
  have hP : va_P (eD E) vwCl ([] ++ va_pl (PL ++ [q_114]) pf_123) H := by rw [epf_123]; exact hP
  have hD : va_D A ([] ++ va_pl (PL ++ [q_114]) pf_123) := by rw [epf_123]; exact hD
  have hf_124 : pf_123 q_114 = (.inl (eC E 2, p1.toNatClampNeg, .inr (.inr (.inr (.inr (va_cpy afz_118 (fun _ => none) (0 : Int32).toNatClampNeg (0 : Int32).toNatClampNeg (if p1 < (Int32.ofNat anz_118) then p1 else (Int32.ofNat anz_118)).toNatClampNeg)))))) := by rw [epf_123]; exact va_up_self _ _ _
  refine lv_aload_n hx hb dJ7_copyOf_6403c_38 rfl (lv_at hl 0 rfl) ?_
  have hP9 : va_P (eD E) vwCl (wQ (PL ++ [q_114]) pf_123) H := hP
  have hD9 : va_D A (wQ (PL ++ [q_114]) pf_123) := hD
  exact W.aret (v := .ref q_114) hx hb hr (Or.inr ⟨_, rfl⟩) (Or.inr ⟨_, rfl⟩) (fun t ht hW => ⟨⟨(some q_114), ((PL ++ [q_114]), pf_123), rfl, hw, ⟨by rw [ht]; exact hP9, hD9⟩⟩, hS.F ht⟩) hS.2.2 dJ7_copyOf_6403c_39
def wp_J7_copyOf_1904c (E : EV) (post : Option Nat → List Nat → (Nat → va_E) → Prop) (PL : List Nat) (pf : Nat → va_E) (p0 : Nat) (p1 : Int32) : Prop := (∃ (anz_125 : Nat) (afz_125 : Nat → Option Nat), p0 ∈ PL ∧ pf p0 = .inl (eC E 2, anz_125, .inr (.inr (.inr (.inr afz_125)))) ∧ (wp_J7_copyOf_6403c E (fun (r_127 : Option Nat) (PL_128 : List Nat) (pf_129 : Nat → va_E) => post r_127 PL_128 pf_129) PL pf p0 p1))
set_option maxHeartbeats 4000000 in
set_option maxRecDepth 100000 in
theorem c_J7_copyOf_1904c (E : EV) (l : Launch) (PL : List Nat) (pf : Nat → va_E) (p0 : Nat) (p1 : Int32) (hz : Nat) (post : Option Nat → List Nat → (Nat → va_E) → Prop) (hw : wp_J7_copyOf_1904c E post PL pf p0 p1) : Met l yJ7_copyOf_1904c (Cond.code yJ7_copyOf_1904c cJ7_copyOf_1904c 2 (some (.array (.object "java/lang/Object"))) :: ALLW) ({ frames := 2, cells := 1, slots := 32, locals := 41 } : Room) (va_Pc [.ref p0, .int p1] (preM E (wQ PL pf) hz)) (va_Qq (fun (r : Option Nat) (u : List Nat × (Nat → va_E)) => post r u.1 u.2) (fun (u : List Nat × (Nat → va_E)) t => va_P (eD E) vwCl (wQ u.1 u.2) t.heap ∧ va_D (va_A (wQ PL pf) hz) (wQ u.1 u.2)) (va_A (wQ PL pf) hz)) 1 32 (va_A (wQ PL pf) hz) := by
  refine Met.ofW (cc := cJ7_copyOf_1904c) (maxL := 2) (ret := (some (.array (.object "java/lang/Object")))) (by decide) rfl ?_
  intro p e s m args below meth c s₁ B hml hv
  obtain ⟨rfl, hpre⟩ := hv
  have hx := B.exec
  have hb := B.bytes
  have hr := B.returns
  have hlocks := B.notSynchronized
  have hts := atoms_spec (ws := (Cond.code yJ7_copyOf_1904c cJ7_copyOf_1904c 2 (some (.array (.object "java/lang/Object"))) :: ALLW)) B.pre
  have hta : ∀ w ∈ ALLW, w.before ([.ref p0, .int p1] : List Value).toArray s = true := fun w h => hts w (List.mem_cons_of_mem _ h)
  have hown : s.vm.findClass RJ7 = some m.cls := findClass_of_methodNamed B.named
  obtain ⟨hsz, hP, hKE, hD0, hZ⟩ := hpre
  subst hsz
  have hD := hD0.self (sz := s.heap.size)
  generalize hAe : va_A (wQ PL pf) s.heap.size = A at hD hZ ⊢
  have hA : ∀ q : Nat, s.heap.size ≤ q → A q := fun q h => by rw [← hAe]; exact Or.inr h
  have hS : va_S A s.heap s.heap [] := va_S.rf
  have hP : va_P (eD E) vwCl ([] ++ va_pl PL pf) s.heap := hP
  have hD : va_D A ([] ++ va_pl PL pf) := hD
  have hl := lv_entry ([.ref p0, .int p1]) (n := 2) (Nat.le_of_ble_eq_true rfl)
  rw [lg_entry_eq]
  generalize (lg_sl ([.ref p0, .int p1]) ++ List.replicate (2 - (lg_sl ([.ref p0, .int p1])).length) Slot.unset).toArray = ls at hl ⊢
  have hl : lv_has ls 2 [(0, .ref p0), (1, .int p1)] := hl
  unfold wp_J7_copyOf_1904c at hw
  refine lv_aload_n hx hb dJ7_copyOf_1904c_0 rfl (lv_at hl 0 rfl) ?_
  refine lv_iload_n hx hb dJ7_copyOf_1904c_1 rfl (lv_at hl 1 rfl) ?_
  refine lv_aload_n hx hb dJ7_copyOf_1904c_2 rfl (lv_at hl 0 rfl) ?_
  obtain ⟨anz_125, afz_125, hyz_125, hfz_125, hw⟩ := hw
  obtain ⟨i_126, hi_126⟩ := va_pl_get (X := []) (f := pf) hyz_125
  have gi_126 := hi_126
  rw [hfz_125] at hi_126
  refine va_getC hx hb (hml.trans hl.1.symm) hown (hta _ tw_359) (va_Dc.use hKE.2.2.2.2.1) (hta _ tw_595) (hta _ tw_360) (hta _ tw_368) hKE.2.2.2.1 (arr_cell hKE hP hi_126) (Nat.le_of_ble_eq_true rfl) (Nat.le_of_ble_eq_true rfl) dJ7_copyOf_1904c_3 ?_
  have hPc : va_P (eD E) vwCl (wQ PL pf) s.heap := hP
  have hDc : va_D A (wQ PL pf) := hD
  have hFc : ∀ q, va_A (wQ PL pf) s.heap.size q → A q := frS hDc hS hA
  refine va_callq (va_runS (As := [.ref p0, .int p1, .ref (eA E 1)]) (rest := []) ⟨hx, hb, hml, hown, hta⟩ (c_J7_copyOf_6403c E l PL pf p0 p1 s.heap.size _ hw) (pcS (n := 3) hta tw_371 tw_369 tw_15 tw_370 rfl rfl hd_J7_copyOf_6403c ⟨Nat.le_of_ble_eq_true rfl, Nat.le_of_ble_eq_true rfl⟩) ⟨fbM, fun U hU hW => ⟨rfl, preM.mk hPc hKE hDc hZ hS hFc hU hW⟩⟩ rfl rfl hl.1 rfl (lv_room (Nat.le_of_ble_eq_true rfl)) dJ7_copyOf_1904c_6 ⟨Nat.le_of_ble_eq_true rfl, Nat.le_of_ble_eq_true rfl⟩) hS (fun q _ h => hFc q h) hFc (fun r_127 u t H locs ht hvm hw hB hz1 hk1 hS => ?_)
  obtain ⟨PL_128, pf_129⟩ := u
  obtain ⟨hP1, hD1⟩ := hB
  rw [ht] at hP1
  try dsimp only at hw hP1 hD1
  have hP : va_P (eD E) vwCl ([] ++ va_pl PL_128 pf_129) H := hP1
  have hD : va_D A ([] ++ va_pl PL_128 pf_129) := hD1.weaken (fun _ q _ h => hFc q.1 h)
  have hP9 : va_P (eD E) vwCl (wQ PL_128 pf_129) H := hP
  have hD9 : va_D A (wQ PL_128 pf_129) := hD
  exact W.aret (v := va_rf r_127) hx hb hr (Or.inr ⟨_, rfl⟩) (va_rf_or _) (fun t ht hW => ⟨⟨r_127, (PL_128, pf_129), rfl, hw, ⟨by rw [ht]; exact hP9, hD9⟩⟩, hS.F ht⟩) hS.2.2 dJ7_copyOf_1904c_9
def wp_Jx4a65c_grow_92f84 (E : EV) (post : Option Nat → Int32 → Nat → Int32 → List Nat → (Nat → va_E) → Prop) (mo : Int32) (ad : Nat) (ln : Int32) (PL : List Nat) (pf : Nat → va_E) (p0 : Int32) : Prop := (∃ (anz_130 : Nat) (afz_130 : Nat → Option Nat), ad ∈ PL ∧ pf ad = .inl (eC E 2, anz_130, .inr (.inr (.inr (.inr afz_130)))) ∧ ((0 < (Int32.ofNat anz_130) → (wp_J8_newLength_cabcc E (fun r_133 : Int32 => (wp_J7_copyOf_1904c E (fun (r_134 : Option Nat) (PL_135 : List Nat) (pf_136 : Nat → va_E) => ((r_134 = none → False) ∧ (∀ y_137 : Nat, r_134 = some y_137 → post (some y_137) mo y_137 ln PL_135 pf_136))) PL pf ad r_133)) (Int32.ofNat anz_130) (p0 - (Int32.ofNat anz_130)) ((Int32.ofNat anz_130) >>> (1 &&& 31)))) ∧ (¬ (0 < (Int32.ofNat anz_130)) → False)))
set_option maxHeartbeats 4000000 in
set_option maxRecDepth 100000 in
theorem c_Jx4a65c_grow_92f84 (E : EV) (l : Launch) (la : Nat) (mo : Int32) (ad : Nat) (ln : Int32) (PL : List Nat) (pf : Nat → va_E) (p0 : Int32) (hz : Nat) (post : Option Nat → Int32 → Nat → Int32 → List Nat → (Nat → va_E) → Prop) (hw : wp_Jx4a65c_grow_92f84 E post mo ad ln PL pf p0) : Met l yJx4a65c_grow_92f84 (Cond.code yJx4a65c_grow_92f84 cJx4a65c_grow_92f84 4 (some (.array (.object "java/lang/Object"))) :: ALLW) ({ frames := 3, cells := 1, slots := 32, locals := 62 } : Room) (va_Pc [.ref la, .int p0] (preM E (wL la mo ad ln PL pf) hz)) (va_Qq (fun (r : Option Nat) (u : Int32 × Nat × Int32 × List Nat × (Nat → va_E)) => post r u.1 u.2.1 u.2.2.1 u.2.2.2.1 u.2.2.2.2) (fun (u : Int32 × Nat × Int32 × List Nat × (Nat → va_E)) t => va_P (eD E) vwCl (wL la u.1 u.2.1 u.2.2.1 u.2.2.2.1 u.2.2.2.2) t.heap ∧ va_D (va_A (wL la mo ad ln PL pf) hz) (wL la u.1 u.2.1 u.2.2.1 u.2.2.2.1 u.2.2.2.2)) (va_A (wL la mo ad ln PL pf) hz)) 1 32 (va_A (wL la mo ad ln PL pf) hz) := by
  refine Met.ofW (cc := cJx4a65c_grow_92f84) (maxL := 4) (ret := (some (.array (.object "java/lang/Object")))) (by decide) rfl ?_
  intro p e s m args below meth c s₁ B hml hv
  obtain ⟨rfl, hpre⟩ := hv
  have hx := B.exec
  have hb := B.bytes
  have hr := B.returns
  have hlocks := B.notSynchronized
  have hts := atoms_spec (ws := (Cond.code yJx4a65c_grow_92f84 cJx4a65c_grow_92f84 4 (some (.array (.object "java/lang/Object"))) :: ALLW)) B.pre
  have hta : ∀ w ∈ ALLW, w.before ([.ref la, .int p0] : List Value).toArray s = true := fun w h => hts w (List.mem_cons_of_mem _ h)
  have hown : s.vm.findClass RJx4a65c = some m.cls := findClass_of_methodNamed B.named
  obtain ⟨hsz, hP, hKE, hD0, hZ⟩ := hpre
  subst hsz
  have hD := hD0.self (sz := s.heap.size)
  generalize hAe : va_A (wL la mo ad ln PL pf) s.heap.size = A at hD hZ ⊢
  have hA : ∀ q : Nat, s.heap.size ≤ q → A q := fun q h => by rw [← hAe]; exact Or.inr h
  have hS : va_S A s.heap s.heap [] := va_S.rf
  have hP : va_P (eD E) vwCl ([(la, .inr (0, [.int mo, .ref ad, .int ln]))] ++ va_pl PL pf) s.heap := hP
  have hD : va_D A ([(la, .inr (0, [.int mo, .ref ad, .int ln]))] ++ va_pl PL pf) := hD
  have hl := lv_entry ([.ref la, .int p0]) (n := 4) (Nat.le_of_ble_eq_true rfl)
  rw [lg_entry_eq]
  generalize (lg_sl ([.ref la, .int p0]) ++ List.replicate (4 - (lg_sl ([.ref la, .int p0])).length) Slot.unset).toArray = ls at hl ⊢
  have hl : lv_has ls 4 [(0, .ref la), (1, .int p0)] := hl
  unfold wp_Jx4a65c_grow_92f84 at hw
  refine lv_aload_n hx hb dJx4a65c_grow_92f84_0 rfl (lv_at hl 0 rfl) ?_
  refine va_get (D := eD E) (ci := 0) (v := .ref ad) (C := RJx4a65c) (T := TJx4a65c) (N := 3) hx hb hta lay_AL hown hKE.1 hP 0 rfl rfl 1 (by decide) (hta _ tw_40) (fun _ h9 => h9) rfl dJx4a65c_grow_92f84_1 ?_
  obtain ⟨anz_130, afz_130, hyz_130, hfz_130, hw⟩ := hw
  obtain ⟨i_131, hi_131⟩ := va_pl_get (X := [(la, .inr (0, [.int mo, .ref ad, .int ln]))]) (f := pf) hyz_130
  have gi_131 := hi_131
  rw [hfz_130] at hi_131
  refine va_alen hx hb hKE.1 hP i_131 2 hi_131 rfl (v := (Int32.ofNat anz_130)) rfl dJx4a65c_grow_92f84_4 ?_
  refine lv_istore_n (lv' := [(2, .int (Int32.ofNat anz_130)), (0, .ref la), (1, .int p0)]) hx hb dJx4a65c_grow_92f84_5 rfl hl (by decide) rfl (fun ls hl => ?_)
  refine lv_iload_n hx hb dJx4a65c_grow_92f84_6 rfl (lv_at hl 0 rfl) ?_
  refine lv_if_gt (tgt := 20) hx hb dJx4a65c_grow_92f84_7 (by decide) (fun c_132 => ?_) (fun c_132 => ?_)
  · have hw := hw.1 c_132
    refine lv_iload_n hx hb dJx4a65c_grow_92f84_20 rfl (lv_at hl 0 rfl) ?_
    refine lv_iload_n hx hb dJx4a65c_grow_92f84_21 rfl (lv_at hl 2 rfl) ?_
    refine lv_iload_n hx hb dJx4a65c_grow_92f84_22 rfl (lv_at hl 0 rfl) ?_
    refine lv_isub hx hb dJx4a65c_grow_92f84_23 ?_
    refine lv_iload_n hx hb dJx4a65c_grow_92f84_24 rfl (lv_at hl 0 rfl) ?_
    refine lv_iconst (v := 1) hx hb dJx4a65c_grow_92f84_25 (by decide) ?_
    refine lv_ishr hx hb dJx4a65c_grow_92f84_26 ?_
    have hPc : va_P (eD E) vwCl [] s.heap := va_P_nil
    refine vp_callSi (va_Run.run (va_runS (As := [.int (Int32.ofNat anz_130), .int (p0 - (Int32.ofNat anz_130)), .int ((Int32.ofNat anz_130) >>> (1 &&& 31))]) (rest := []) ⟨hx, hb, hml, hown, hta⟩ (c_J8_newLength_cabcc E l (Int32.ofNat anz_130) (p0 - (Int32.ofNat anz_130)) ((Int32.ofNat anz_130) >>> (1 &&& 31)) _ hw) (pcS (n := 3) hta tw_350 tw_348 tw_14 tw_349 rfl rfl hd_J8_newLength_cabcc ⟨Nat.le_of_ble_eq_true rfl, Nat.le_of_ble_eq_true rfl⟩) ⟨fbR, fun U hU hW => ⟨rfl, preR.mk hPc hKE hU hW⟩⟩ rfl rfl hl.1 rfl (lv_room (Nat.le_of_ble_eq_true rfl)) dJx4a65c_grow_92f84_27 ⟨Nat.le_of_ble_eq_true rfl, Nat.le_of_ble_eq_true rfl⟩)) (fun r_133 hw => ?_)
    refine lv_istore_n (lv' := [(3, .int r_133), (2, .int (Int32.ofNat anz_130)), (0, .ref la), (1, .int p0)]) hx hb dJx4a65c_grow_92f84_30 rfl hl (by decide) rfl (fun ls hl => ?_)
    refine lv_aload_n hx hb dJx4a65c_grow_92f84_31 rfl (lv_at hl 2 rfl) ?_
    refine lv_aload_n hx hb dJx4a65c_grow_92f84_32 rfl (lv_at hl 2 rfl) ?_
    refine va_get (D := eD E) (ci := 0) (v := .ref ad) (C := RJx4a65c) (T := TJx4a65c) (N := 3) hx hb hta lay_AL hown hKE.1 hP 0 rfl rfl 1 (by decide) (hta _ tw_40) (fun _ h9 => h9) rfl dJx4a65c_grow_92f84_33 ?_
    refine lv_iload_n hx hb dJx4a65c_grow_92f84_36 rfl (lv_at hl 0 rfl) ?_
    have hPc : va_P (eD E) vwCl ([] ++ va_pl PL pf) s.heap := hP.part [] rfl
    have hDc : va_D A ([] ++ va_pl PL pf) := hD.part [] (by decide) rfl
    have hFc : ∀ q, va_A ([] ++ va_pl PL pf) s.heap.size q → A q := va_freeP hD hS hA [] rfl
    refine va_callq (va_runS (As := [.ref ad, .int r_133]) (rest := [.ref la]) ⟨hx, hb, hml, hown, hta⟩ (c_J7_copyOf_1904c E l PL pf ad r_133 s.heap.size _ hw) (pcS (n := 2) hta tw_358 tw_356 tw_15 tw_357 rfl rfl hd_J7_copyOf_1904c ⟨Nat.le_of_ble_eq_true rfl, Nat.le_of_ble_eq_true rfl⟩) ⟨fbM, fun U hU hW => ⟨rfl, preM.mk hPc hKE hDc hZ hS hFc hU hW⟩⟩ rfl rfl hl.1 rfl (lv_room (Nat.le_of_ble_eq_true rfl)) dJx4a65c_grow_92f84_37 ⟨Nat.le_of_ble_eq_true rfl, Nat.le_of_ble_eq_true rfl⟩) hS (fun q _ h => hFc q h) hFc (fun r_134 u t H locs ht hvm hw hB hz1 hk1 hS => ?_)
    obtain ⟨PL_135, pf_136⟩ := u
    obtain ⟨hP1, hD1⟩ := hB
    rw [ht] at hP1
    try dsimp only at hw hP1 hD1
    obtain ⟨hP, hD⟩ := va_joinP (wr := [(la, .inr (0, [.int mo, .ref ad, .int ln]))]) (rx := []) (pl1 := va_pl PL_135 pf_136) hP hD [] [0] rfl rfl (by decide) (by decide) hk1 hFc hP1 hD1
    have hP : va_P (eD E) vwCl ([(la, .inr (0, [.int mo, .ref ad, .int ln]))] ++ va_pl PL_135 pf_136) H := hP
    have hD : va_D A ([(la, .inr (0, [.int mo, .ref ad, .int ln]))] ++ va_pl PL_135 pf_136) := hD
    rcases r_134 with _ | y_137
    · have hw := hw.1 rfl
      refine lv_dup_x1 hx hb dJx4a65c_grow_92f84_40 rfl rfl ?_
      exact hw.elim
    · have hw := hw.2 y_137 rfl
      refine lv_dup_x1 hx hb dJx4a65c_grow_92f84_40 rfl rfl ?_
      refine va_put (D := eD E) (ci := 0) (v := .ref y_137) (ty := .array (.object "java/lang/Object")) (C := RJx4a65c) (T := TJx4a65c) (N := 3) hx hb hta lay_AL tyJx4a65c tyJx4a65c_ok nmJx4a65c hown hKE.1 hP hD hS 0 rfl rfl 1 (by decide) (hta _ tw_40) (fun _ h9 => h9) rfl (by decide +kernel) rfl rfl (Nat.le_of_ble_eq_true rfl) dJx4a65c_grow_92f84_41 (fun H locs hP hD hS => ?_)
      have hP : va_P (eD E) vwCl ([(la, .inr (0, [.int mo, .ref y_137, .int ln]))] ++ va_pl PL_135 pf_136) H := hP
      have hD : va_D A ([(la, .inr (0, [.int mo, .ref y_137, .int ln]))] ++ va_pl PL_135 pf_136) := hD
      have hP9 : va_P (eD E) vwCl (wL la mo y_137 ln PL_135 pf_136) H := hP
      have hD9 : va_D A (wL la mo y_137 ln PL_135 pf_136) := hD
      exact W.aret (v := .ref y_137) hx hb hr (Or.inr ⟨_, rfl⟩) (Or.inr ⟨_, rfl⟩) (fun t ht hW => ⟨⟨(some y_137), (mo, y_137, ln, PL_135, pf_136), rfl, hw, ⟨by rw [ht]; exact hP9, hD9⟩⟩, hS.F ht⟩) hS.2.2 dJx4a65c_grow_92f84_44
  · have hw := hw.2 c_132
    exact hw.elim
def wp_Jx4a65c_grow_92f84_v (E : EV) (post : Option Nat → Int32 → Nat → Int32 → List Nat → (Nat → va_E) → Prop) (mo : Int32) (ln : Int32) (PL : List Nat) (pf : Nat → va_E) (p0 : Int32) : Prop := ((¬ (if 10 < p0 then p0 else 10) < 0 ∧ (if 10 < p0 then p0 else 10).toNatClampNeg ≤ 32) ∧ (∀ q_139 : Nat, q_139 ∉ PL → ¬ q_139 = eA E 0 → ∀ pf_140 : Nat → va_E, pf_140 = va_up pf q_139 (.inl (eC E 2, (if 10 < p0 then p0 else 10).toNatClampNeg, .inr (.inr (.inr (.inr (fun _ => none)))))) → post (some q_139) mo q_139 ln (PL ++ [q_139]) pf_140))
set_option maxHeartbeats 4000000 in
set_option maxRecDepth 100000 in
theorem c_Jx4a65c_grow_92f84_v (E : EV) (l : Launch) (la : Nat) (mo : Int32) (ln : Int32) (PL : List Nat) (pf : Nat → va_E) (p0 : Int32) (hz : Nat) (post : Option Nat → Int32 → Nat → Int32 → List Nat → (Nat → va_E) → Prop) (hw : wp_Jx4a65c_grow_92f84_v E post mo ln PL pf p0) : Met l yJx4a65c_grow_92f84 (Cond.code yJx4a65c_grow_92f84 cJx4a65c_grow_92f84 4 (some (.array (.object "java/lang/Object"))) :: ALLW) ({ frames := 1, cells := 1, slots := 32, locals := 14 } : Room) (va_Pc [.ref la, .int p0] (preM E (wL la mo (eA E 0) ln PL pf) hz)) (va_Qq (fun (r : Option Nat) (u : Int32 × Nat × Int32 × List Nat × (Nat → va_E)) => post r u.1 u.2.1 u.2.2.1 u.2.2.2.1 u.2.2.2.2) (fun (u : Int32 × Nat × Int32 × List Nat × (Nat → va_E)) t => va_P (eD E) vwCl (wL la u.1 u.2.1 u.2.2.1 u.2.2.2.1 u.2.2.2.2) t.heap ∧ va_D (va_A (wL la mo (eA E 0) ln PL pf) hz) (wL la u.1 u.2.1 u.2.2.1 u.2.2.2.1 u.2.2.2.2)) (va_A (wL la mo (eA E 0) ln PL pf) hz)) 1 32 (va_A (wL la mo (eA E 0) ln PL pf) hz) := by
  refine Met.ofW (cc := cJx4a65c_grow_92f84) (maxL := 4) (ret := (some (.array (.object "java/lang/Object")))) (by decide) rfl ?_
  intro p e s m args below meth c s₁ B hml hv
  obtain ⟨rfl, hpre⟩ := hv
  have hx := B.exec
  have hb := B.bytes
  have hr := B.returns
  have hlocks := B.notSynchronized
  have hts := atoms_spec (ws := (Cond.code yJx4a65c_grow_92f84 cJx4a65c_grow_92f84 4 (some (.array (.object "java/lang/Object"))) :: ALLW)) B.pre
  have hta : ∀ w ∈ ALLW, w.before ([.ref la, .int p0] : List Value).toArray s = true := fun w h => hts w (List.mem_cons_of_mem _ h)
  have hown : s.vm.findClass RJx4a65c = some m.cls := findClass_of_methodNamed B.named
  obtain ⟨hsz, hP, hKE, hD0, hZ⟩ := hpre
  subst hsz
  have hD := hD0.self (sz := s.heap.size)
  generalize hAe : va_A (wL la mo (eA E 0) ln PL pf) s.heap.size = A at hD hZ ⊢
  have hA : ∀ q : Nat, s.heap.size ≤ q → A q := fun q h => by rw [← hAe]; exact Or.inr h
  have hS : va_S A s.heap s.heap [] := va_S.rf
  have hP : va_P (eD E) vwCl ([(la, .inr (0, [.int mo, .ref (eA E 0), .int ln]))] ++ va_pl PL pf) s.heap := hP
  have hD : va_D A ([(la, .inr (0, [.int mo, .ref (eA E 0), .int ln]))] ++ va_pl PL pf) := hD
  have hl := lv_entry ([.ref la, .int p0]) (n := 4) (Nat.le_of_ble_eq_true rfl)
  rw [lg_entry_eq]
  generalize (lg_sl ([.ref la, .int p0]) ++ List.replicate (4 - (lg_sl ([.ref la, .int p0])).length) Slot.unset).toArray = ls at hl ⊢
  have hl : lv_has ls 4 [(0, .ref la), (1, .int p0)] := hl
  unfold wp_Jx4a65c_grow_92f84_v at hw
  refine lv_aload_n hx hb dJx4a65c_grow_92f84_0 rfl (lv_at hl 0 rfl) ?_
  refine va_get (D := eD E) (ci := 0) (v := .ref (eA E 0)) (C := RJx4a65c) (T := TJx4a65c) (N := 3) hx hb hta lay_AL hown hKE.1 hP 0 rfl rfl 1 (by decide) (hta _ tw_40) (fun _ h9 => h9) rfl dJx4a65c_grow_92f84_1 ?_
  refine va_tlen hx hb hZ.2.1 hS (v := 0) (by decide) dJx4a65c_grow_92f84_4 ?_
  refine lv_istore_n (lv' := [(2, .int 0), (0, .ref la), (1, .int p0)]) hx hb dJx4a65c_grow_92f84_5 rfl hl (by decide) rfl (fun ls hl => ?_)
  refine lv_iload_n hx hb dJx4a65c_grow_92f84_6 rfl (lv_at hl 0 rfl) ?_
  refine lv_if_gt (tgt := 20) hx hb dJx4a65c_grow_92f84_7 (by decide) (fun c9 => absurd c9 (by decide)) (fun _ => ?_)
  refine lv_aload_n hx hb dJx4a65c_grow_92f84_10 rfl (lv_at hl 1 rfl) ?_
  refine va_get (D := eD E) (ci := 0) (v := .ref (eA E 0)) (C := RJx4a65c) (T := TJx4a65c) (N := 3) hx hb hta lay_AL hown hKE.1 hP 0 rfl rfl 1 (by decide) (hta _ tw_40) (fun _ h9 => h9) rfl dJx4a65c_grow_92f84_11 ?_
  refine va_gets hx hb hZ.1 hS hown (hta _ tw_38) (fun _ h9 => h9) dJx4a65c_grow_92f84_14 ?_
  refine lv_acmp_eq (rx := some (eA E 0)) (ry := some (eA E 0)) (tgt := 45) hx hb dJx4a65c_grow_92f84_17 (by decide) (fun _ => ?_) (fun c9 => absurd rfl c9)
  refine lv_aload_n hx hb dJx4a65c_grow_92f84_45 rfl (lv_at hl 1 rfl) ?_
  refine lv_bipush (v := 10) hx hb dJx4a65c_grow_92f84_46 (by decide) ?_
  refine lv_iload_n hx hb dJx4a65c_grow_92f84_48 rfl (lv_at hl 2 rfl) ?_
  refine va_mmax hx hb (hml.trans hl.1.symm) hown (hta _ tw_381) (hta _ tw_291) (hta _ tw_8) (hta _ tw_292) (Nat.le_of_ble_eq_true rfl) (Nat.le_of_ble_eq_true rfl) (Nat.le_of_ble_eq_true rfl) (Nat.le_of_ble_eq_true rfl) dJx4a65c_grow_92f84_49 ?_
  obtain ⟨⟨hnk_138, hmk_138⟩, hw⟩ := hw
  refine va_newq hx hb hown (hta _ tw_382) hKE.2.2.1 hKE.1 hP hD hS hA hnk_138 rfl (by have := hmk_138; omega) (Nat.le_of_ble_eq_true rfl) (Nat.le_trans (Nat.add_le_add_left hmk_138 0) (Nat.le_of_ble_eq_true rfl)) dJx4a65c_grow_92f84_52 (fun q_139 cA H hK9 hP hD hS => ?_)
  have hcA := newO hKE hK9
  subst hcA
  refine W.widen (k := 1) (n := 32) (Nat.le_of_ble_eq_true rfl) (Nat.add_le_add_left hmk_138 0) ?_
  have hqe := newq_ne hZ hD
  obtain ⟨hqk_138, hP, hD⟩ := pl_push hP hD
  obtain ⟨pf_140, epf_140⟩ : ∃ z : Nat → va_E, z = va_up pf q_139 (.inl (eC E 2, (if 10 < p0 then p0 else 10).toNatClampNeg, .inr (.inr (.inr (.inr (fun _ => none)))))) := ⟨_, rfl⟩
  have hw := hw q_139 hqk_138 hqe pf_140 epf_140
  have hP : va_P (eD E) vwCl ([(la, .inr (0, [.int mo, .ref (eA E 0), .int ln]))] ++ va_pl (PL ++ [q_139]) pf_140) H := by rw [epf_140]; exact hP
  have hD : va_D A ([(la, .inr (0, [.int mo, .ref (eA E 0), .int ln]))] ++ va_pl (PL ++ [q_139]) pf_140) := by rw [epf_140]; exact hD
  have hf_141 : pf_140 q_139 = (.inl (eC E 2, (if 10 < p0 then p0 else 10).toNatClampNeg, .inr (.inr (.inr (.inr (fun _ => none)))))) := by rw [epf_140]; exact va_up_self _ _ _
  have hy_142 : q_139 ∈ (PL ++ [q_139]) := List.mem_append_right _ List.mem_cons_self
  refine lv_dup_x1 hx hb dJx4a65c_grow_92f84_55 rfl rfl ?_
  refine va_put (D := eD E) (ci := 0) (v := .ref q_139) (ty := .array (.object "java/lang/Object")) (C := RJx4a65c) (T := TJx4a65c) (N := 3) hx hb hta lay_AL tyJx4a65c tyJx4a65c_ok nmJx4a65c hown hKE.1 hP hD hS 0 rfl rfl 1 (by decide) (hta _ tw_40) (fun _ h9 => h9) rfl (by decide +kernel) rfl rfl (Nat.le_of_ble_eq_true rfl) dJx4a65c_grow_92f84_56 (fun H locs hP hD hS => ?_)
  have hP : va_P (eD E) vwCl ([(la, .inr (0, [.int mo, .ref q_139, .int ln]))] ++ va_pl (PL ++ [q_139]) pf_140) H := hP
  have hD : va_D A ([(la, .inr (0, [.int mo, .ref q_139, .int ln]))] ++ va_pl (PL ++ [q_139]) pf_140) := hD
  have hP9 : va_P (eD E) vwCl (wL la mo q_139 ln (PL ++ [q_139]) pf_140) H := hP
  have hD9 : va_D A (wL la mo q_139 ln (PL ++ [q_139]) pf_140) := hD
  exact W.aret (v := .ref q_139) hx hb hr (Or.inr ⟨_, rfl⟩) (Or.inr ⟨_, rfl⟩) (fun t ht hW => ⟨⟨(some q_139), (mo, q_139, ln, (PL ++ [q_139]), pf_140), rfl, hw, ⟨by rw [ht]; exact hP9, hD9⟩⟩, hS.F ht⟩) hS.2.2 dJx4a65c_grow_92f84_59
def wp_Jx4a65c_grow_d5877 (E : EV) (post : Option Nat → Int32 → Nat → Int32 → List Nat → (Nat → va_E) → Prop) (mo : Int32) (ad : Nat) (ln : Int32) (PL : List Nat) (pf : Nat → va_E) : Prop := (wp_Jx4a65c_grow_92f84 E (fun (r_143 : Option Nat) (mo_144 : Int32) (ad_145 : Nat) (ln_146 : Int32) (PL_147 : List Nat) (pf_148 : Nat → va_E) => post r_143 mo_144 ad_145 ln_146 PL_147 pf_148) mo ad ln PL pf (ln + 1))
set_option maxHeartbeats 4000000 in
set_option maxRecDepth 100000 in
theorem c_Jx4a65c_grow_d5877 (E : EV) (l : Launch) (la : Nat) (mo : Int32) (ad : Nat) (ln : Int32) (PL : List Nat) (pf : Nat → va_E) (hz : Nat) (post : Option Nat → Int32 → Nat → Int32 → List Nat → (Nat → va_E) → Prop) (hw : wp_Jx4a65c_grow_d5877 E post mo ad ln PL pf) : Met l yJx4a65c_grow_d5877 (Cond.code yJx4a65c_grow_d5877 cJx4a65c_grow_d5877 1 (some (.array (.object "java/lang/Object"))) :: ALLW) ({ frames := 4, cells := 1, slots := 32, locals := 85 } : Room) (va_Pc [.ref la] (preM E (wL la mo ad ln PL pf) hz)) (va_Qq (fun (r : Option Nat) (u : Int32 × Nat × Int32 × List Nat × (Nat → va_E)) => post r u.1 u.2.1 u.2.2.1 u.2.2.2.1 u.2.2.2.2) (fun (u : Int32 × Nat × Int32 × List Nat × (Nat → va_E)) t => va_P (eD E) vwCl (wL la u.1 u.2.1 u.2.2.1 u.2.2.2.1 u.2.2.2.2) t.heap ∧ va_D (va_A (wL la mo ad ln PL pf) hz) (wL la u.1 u.2.1 u.2.2.1 u.2.2.2.1 u.2.2.2.2)) (va_A (wL la mo ad ln PL pf) hz)) 1 32 (va_A (wL la mo ad ln PL pf) hz) := by
  refine Met.ofW (cc := cJx4a65c_grow_d5877) (maxL := 1) (ret := (some (.array (.object "java/lang/Object")))) (by decide) rfl ?_
  intro p e s m args below meth c s₁ B hml hv
  obtain ⟨rfl, hpre⟩ := hv
  have hx := B.exec
  have hb := B.bytes
  have hr := B.returns
  have hlocks := B.notSynchronized
  have hts := atoms_spec (ws := (Cond.code yJx4a65c_grow_d5877 cJx4a65c_grow_d5877 1 (some (.array (.object "java/lang/Object"))) :: ALLW)) B.pre
  have hta : ∀ w ∈ ALLW, w.before ([.ref la] : List Value).toArray s = true := fun w h => hts w (List.mem_cons_of_mem _ h)
  have hown : s.vm.findClass RJx4a65c = some m.cls := findClass_of_methodNamed B.named
  obtain ⟨hsz, hP, hKE, hD0, hZ⟩ := hpre
  subst hsz
  have hD := hD0.self (sz := s.heap.size)
  generalize hAe : va_A (wL la mo ad ln PL pf) s.heap.size = A at hD hZ ⊢
  have hA : ∀ q : Nat, s.heap.size ≤ q → A q := fun q h => by rw [← hAe]; exact Or.inr h
  have hS : va_S A s.heap s.heap [] := va_S.rf
  have hP : va_P (eD E) vwCl ([(la, .inr (0, [.int mo, .ref ad, .int ln]))] ++ va_pl PL pf) s.heap := hP
  have hD : va_D A ([(la, .inr (0, [.int mo, .ref ad, .int ln]))] ++ va_pl PL pf) := hD
  have hl := lv_entry ([.ref la]) (n := 1) (Nat.le_of_ble_eq_true rfl)
  rw [lg_entry_eq]
  generalize (lg_sl ([.ref la]) ++ List.replicate (1 - (lg_sl ([.ref la])).length) Slot.unset).toArray = ls at hl ⊢
  have hl : lv_has ls 1 [(0, .ref la)] := hl
  unfold wp_Jx4a65c_grow_d5877 at hw
  refine lv_aload_n hx hb dJx4a65c_grow_d5877_0 rfl (lv_at hl 0 rfl) ?_
  refine lv_aload_n hx hb dJx4a65c_grow_d5877_1 rfl (lv_at hl 0 rfl) ?_
  refine va_get (D := eD E) (ci := 0) (v := .int ln) (C := RJx4a65c) (T := TJx4a65c) (N := 3) hx hb hta lay_AL hown hKE.1 hP 0 rfl rfl 2 (by decide) (hta _ tw_41) (fun _ h9 => h9) rfl dJx4a65c_grow_d5877_2 ?_
  refine lv_iconst (v := 1) hx hb dJx4a65c_grow_d5877_5 (by decide) ?_
  refine lv_iadd hx hb dJx4a65c_grow_d5877_6 ?_
  have hPc : va_P (eD E) vwCl (wL la mo ad ln PL pf) s.heap := hP
  have hDc : va_D A (wL la mo ad ln PL pf) := hD
  have hFc : ∀ q, va_A (wL la mo ad ln PL pf) s.heap.size q → A q := frS hDc hS hA
  refine va_callq (va_runV (As := [.int (ln + 1)]) (rest := []) ⟨hx, hb, hml, hown, hta⟩ (c_Jx4a65c_grow_92f84 E l la mo ad ln PL pf (ln + 1) s.heap.size _ hw) (pcV (n := 1) hta tw_347 tw_344 tw_4 tw_346 tp_18 rfl rfl hd_Jx4a65c_grow_92f84 ⟨Nat.le_of_ble_eq_true rfl, Nat.le_of_ble_eq_true rfl⟩) ⟨fbM, va_recv hKE.1 hP (ci := 0) (q0 := 0) rfl rfl, fun U hU hW => ⟨rfl, preM.mk hPc hKE hDc hZ hS hFc hU hW⟩⟩ rfl rfl hl.1 rfl (lv_room (Nat.le_of_ble_eq_true rfl)) dJx4a65c_grow_d5877_7 ⟨Nat.le_of_ble_eq_true rfl, Nat.le_of_ble_eq_true rfl⟩) hS (fun q _ h => hFc q h) hFc (fun r_143 u t H locs ht hvm hw hB hz1 hk1 hS => ?_)
  obtain ⟨mo_144, ad_145, ln_146, PL_147, pf_148⟩ := u
  obtain ⟨hP1, hD1⟩ := hB
  rw [ht] at hP1
  try dsimp only at hw hP1 hD1
  have hP : va_P (eD E) vwCl ([(la, .inr (0, [.int mo_144, .ref ad_145, .int ln_146]))] ++ va_pl PL_147 pf_148) H := hP1
  have hD : va_D A ([(la, .inr (0, [.int mo_144, .ref ad_145, .int ln_146]))] ++ va_pl PL_147 pf_148) := hD1.weaken (fun _ q _ h => hFc q.1 h)
  have hP9 : va_P (eD E) vwCl (wL la mo_144 ad_145 ln_146 PL_147 pf_148) H := hP
  have hD9 : va_D A (wL la mo_144 ad_145 ln_146 PL_147 pf_148) := hD
  exact W.aret (v := va_rf r_143) hx hb hr (Or.inr ⟨_, rfl⟩) (va_rf_or _) (fun t ht hW => ⟨⟨r_143, (mo_144, ad_145, ln_146, PL_147, pf_148), rfl, hw, ⟨by rw [ht]; exact hP9, hD9⟩⟩, hS.F ht⟩) hS.2.2 dJx4a65c_grow_d5877_10
def wp_Jx4a65c_grow_d5877_v (E : EV) (post : Option Nat → Int32 → Nat → Int32 → List Nat → (Nat → va_E) → Prop) (mo : Int32) (ln : Int32) (PL : List Nat) (pf : Nat → va_E) : Prop := (wp_Jx4a65c_grow_92f84_v E (fun (r_149 : Option Nat) (mo_150 : Int32) (ad_151 : Nat) (ln_152 : Int32) (PL_153 : List Nat) (pf_154 : Nat → va_E) => post r_149 mo_150 ad_151 ln_152 PL_153 pf_154) mo ln PL pf (ln + 1))
set_option maxHeartbeats 4000000 in
set_option maxRecDepth 100000 in
theorem c_Jx4a65c_grow_d5877_v (E : EV) (l : Launch) (la : Nat) (mo : Int32) (ln : Int32) (PL : List Nat) (pf : Nat → va_E) (hz : Nat) (post : Option Nat → Int32 → Nat → Int32 → List Nat → (Nat → va_E) → Prop) (hw : wp_Jx4a65c_grow_d5877_v E post mo ln PL pf) : Met l yJx4a65c_grow_d5877 (Cond.code yJx4a65c_grow_d5877 cJx4a65c_grow_d5877 1 (some (.array (.object "java/lang/Object"))) :: ALLW) ({ frames := 2, cells := 1, slots := 32, locals := 37 } : Room) (va_Pc [.ref la] (preM E (wL la mo (eA E 0) ln PL pf) hz)) (va_Qq (fun (r : Option Nat) (u : Int32 × Nat × Int32 × List Nat × (Nat → va_E)) => post r u.1 u.2.1 u.2.2.1 u.2.2.2.1 u.2.2.2.2) (fun (u : Int32 × Nat × Int32 × List Nat × (Nat → va_E)) t => va_P (eD E) vwCl (wL la u.1 u.2.1 u.2.2.1 u.2.2.2.1 u.2.2.2.2) t.heap ∧ va_D (va_A (wL la mo (eA E 0) ln PL pf) hz) (wL la u.1 u.2.1 u.2.2.1 u.2.2.2.1 u.2.2.2.2)) (va_A (wL la mo (eA E 0) ln PL pf) hz)) 1 32 (va_A (wL la mo (eA E 0) ln PL pf) hz) := by
  refine Met.ofW (cc := cJx4a65c_grow_d5877) (maxL := 1) (ret := (some (.array (.object "java/lang/Object")))) (by decide) rfl ?_
  intro p e s m args below meth c s₁ B hml hv
  obtain ⟨rfl, hpre⟩ := hv
  have hx := B.exec
  have hb := B.bytes
  have hr := B.returns
  have hlocks := B.notSynchronized
  have hts := atoms_spec (ws := (Cond.code yJx4a65c_grow_d5877 cJx4a65c_grow_d5877 1 (some (.array (.object "java/lang/Object"))) :: ALLW)) B.pre
  have hta : ∀ w ∈ ALLW, w.before ([.ref la] : List Value).toArray s = true := fun w h => hts w (List.mem_cons_of_mem _ h)
  have hown : s.vm.findClass RJx4a65c = some m.cls := findClass_of_methodNamed B.named
  obtain ⟨hsz, hP, hKE, hD0, hZ⟩ := hpre
  subst hsz
  have hD := hD0.self (sz := s.heap.size)
  generalize hAe : va_A (wL la mo (eA E 0) ln PL pf) s.heap.size = A at hD hZ ⊢
  have hA : ∀ q : Nat, s.heap.size ≤ q → A q := fun q h => by rw [← hAe]; exact Or.inr h
  have hS : va_S A s.heap s.heap [] := va_S.rf
  have hP : va_P (eD E) vwCl ([(la, .inr (0, [.int mo, .ref (eA E 0), .int ln]))] ++ va_pl PL pf) s.heap := hP
  have hD : va_D A ([(la, .inr (0, [.int mo, .ref (eA E 0), .int ln]))] ++ va_pl PL pf) := hD
  have hl := lv_entry ([.ref la]) (n := 1) (Nat.le_of_ble_eq_true rfl)
  rw [lg_entry_eq]
  generalize (lg_sl ([.ref la]) ++ List.replicate (1 - (lg_sl ([.ref la])).length) Slot.unset).toArray = ls at hl ⊢
  have hl : lv_has ls 1 [(0, .ref la)] := hl
  unfold wp_Jx4a65c_grow_d5877_v at hw
  refine lv_aload_n hx hb dJx4a65c_grow_d5877_0 rfl (lv_at hl 0 rfl) ?_
  refine lv_aload_n hx hb dJx4a65c_grow_d5877_1 rfl (lv_at hl 0 rfl) ?_
  refine va_get (D := eD E) (ci := 0) (v := .int ln) (C := RJx4a65c) (T := TJx4a65c) (N := 3) hx hb hta lay_AL hown hKE.1 hP 0 rfl rfl 2 (by decide) (hta _ tw_41) (fun _ h9 => h9) rfl dJx4a65c_grow_d5877_2 ?_
  refine lv_iconst (v := 1) hx hb dJx4a65c_grow_d5877_5 (by decide) ?_
  refine lv_iadd hx hb dJx4a65c_grow_d5877_6 ?_
  have hPc : va_P (eD E) vwCl (wL la mo (eA E 0) ln PL pf) s.heap := hP
  have hDc : va_D A (wL la mo (eA E 0) ln PL pf) := hD
  have hFc : ∀ q, va_A (wL la mo (eA E 0) ln PL pf) s.heap.size q → A q := frS hDc hS hA
  refine va_callq (va_runV (As := [.int (ln + 1)]) (rest := []) ⟨hx, hb, hml, hown, hta⟩ (c_Jx4a65c_grow_92f84_v E l la mo ln PL pf (ln + 1) s.heap.size _ hw) (pcV (n := 1) hta tw_347 tw_344 tw_4 tw_346 tp_18 rfl rfl hd_Jx4a65c_grow_92f84 ⟨Nat.le_of_ble_eq_true rfl, Nat.le_of_ble_eq_true rfl⟩) ⟨fbM, va_recv hKE.1 hP (ci := 0) (q0 := 0) rfl rfl, fun U hU hW => ⟨rfl, preM.mk hPc hKE hDc hZ hS hFc hU hW⟩⟩ rfl rfl hl.1 rfl (lv_room (Nat.le_of_ble_eq_true rfl)) dJx4a65c_grow_d5877_7 ⟨Nat.le_of_ble_eq_true rfl, Nat.le_of_ble_eq_true rfl⟩) hS (fun q _ h => hFc q h) hFc (fun r_149 u t H locs ht hvm hw hB hz1 hk1 hS => ?_)
  obtain ⟨mo_150, ad_151, ln_152, PL_153, pf_154⟩ := u
  obtain ⟨hP1, hD1⟩ := hB
  rw [ht] at hP1
  try dsimp only at hw hP1 hD1
  have hP : va_P (eD E) vwCl ([(la, .inr (0, [.int mo_150, .ref ad_151, .int ln_152]))] ++ va_pl PL_153 pf_154) H := hP1
  have hD : va_D A ([(la, .inr (0, [.int mo_150, .ref ad_151, .int ln_152]))] ++ va_pl PL_153 pf_154) := hD1.weaken (fun _ q _ h => hFc q.1 h)
  have hP9 : va_P (eD E) vwCl (wL la mo_150 ad_151 ln_152 PL_153 pf_154) H := hP
  have hD9 : va_D A (wL la mo_150 ad_151 ln_152 PL_153 pf_154) := hD
  exact W.aret (v := va_rf r_149) hx hb hr (Or.inr ⟨_, rfl⟩) (va_rf_or _) (fun t ht hW => ⟨⟨r_149, (mo_150, ad_151, ln_152, PL_153, pf_154), rfl, hw, ⟨by rw [ht]; exact hP9, hD9⟩⟩, hS.F ht⟩) hS.2.2 dJx4a65c_grow_d5877_10
def wp_Jx4a65c_add_72be8 (E : EV) (post : Int32 → Nat → Int32 → List Nat → (Nat → va_E) → Prop) (mo : Int32) (ad : Nat) (ln : Int32) (PL : List Nat) (pf : Nat → va_E) (cm : Nat) (p1 : Nat) (p2 : Int32) : Prop := (∃ (anz_155 : Nat) (afz_155 : Nat → Option Nat), p1 ∈ PL ∧ pf p1 = .inl (eC E 2, anz_155, .inr (.inr (.inr (.inr afz_155)))) ∧ ((p2 = (Int32.ofNat anz_155) → (wp_Jx4a65c_grow_d5877 E (fun (r_164 : Option Nat) (mo_165 : Int32) (ad_166 : Nat) (ln_167 : Int32) (PL_168 : List Nat) (pf_169 : Nat → va_E) => ((r_164 = none → False) ∧ (∀ y_170 : Nat, r_164 = some y_170 → (∃ ckz_171 cxz_171 cyz_171 cpz_171 : Int32, cm ∈ PL_168 ∧ pf_169 cm = .inr (1, [.int ckz_171, .int cxz_171, .int cyz_171, .int cpz_171]) ∧ (∃ (anz_173 : Nat) (afz_173 : Nat → Option Nat), y_170 ∈ PL_168 ∧ pf_169 y_170 = .inl (eC E 2, anz_173, .inr (.inr (.inr (.inr afz_173)))) ∧ (vp_in p2 anz_173 ∧ (∀ pf_176 : Nat → va_E, pf_176 = va_up pf_169 y_170 (.inl (eC E 2, anz_173, .inr (.inr (.inr (.inr (va_up afz_173 p2.toNatClampNeg (some cm))))))) → post mo_165 ad_166 (p2 + 1) PL_168 pf_176))))))) mo ad ln PL pf)) ∧ (¬ (p2 = (Int32.ofNat anz_155)) → (∃ ckz_158 cxz_158 cyz_158 cpz_158 : Int32, cm ∈ PL ∧ pf cm = .inr (1, [.int ckz_158, .int cxz_158, .int cyz_158, .int cpz_158]) ∧ (vp_in p2 anz_155 ∧ (∀ pf_162 : Nat → va_E, pf_162 = va_up pf p1 (.inl (eC E 2, anz_155, .inr (.inr (.inr (.inr (va_up afz_155 p2.toNatClampNeg (some cm))))))) → post mo ad (p2 + 1) PL pf_162))))))
set_option maxHeartbeats 4000000 in
set_option maxRecDepth 100000 in
theorem c_Jx4a65c_add_72be8 (E : EV) (l : Launch) (la : Nat) (mo : Int32) (ad : Nat) (ln : Int32) (PL : List Nat) (pf : Nat → va_E) (cm : Nat) (p1 : Nat) (p2 : Int32) (hz : Nat) (post : Int32 → Nat → Int32 → List Nat → (Nat → va_E) → Prop) (hw : wp_Jx4a65c_add_72be8 E post mo ad ln PL pf cm p1 p2) : Met l yJx4a65c_add_72be8 (Cond.code yJx4a65c_add_72be8 cJx4a65c_add_72be8 4 none :: ALLW) ({ frames := 5, cells := 1, slots := 32, locals := 105 } : Room) (va_Pc [.ref la, .ref cm, .ref p1, .int p2] (preM E (wL la mo ad ln PL pf) hz)) (va_Qv (fun (u : Int32 × Nat × Int32 × List Nat × (Nat → va_E)) => post u.1 u.2.1 u.2.2.1 u.2.2.2.1 u.2.2.2.2) (fun (u : Int32 × Nat × Int32 × List Nat × (Nat → va_E)) t => va_P (eD E) vwCl (wL la u.1 u.2.1 u.2.2.1 u.2.2.2.1 u.2.2.2.2) t.heap ∧ va_D (va_A (wL la mo ad ln PL pf) hz) (wL la u.1 u.2.1 u.2.2.1 u.2.2.2.1 u.2.2.2.2)) (va_A (wL la mo ad ln PL pf) hz)) 1 32 (va_A (wL la mo ad ln PL pf) hz) := by
  refine Met.ofW (cc := cJx4a65c_add_72be8) (maxL := 4) (ret := none) (by decide) rfl ?_
  intro p e s m args below meth c s₁ B hml hv
  obtain ⟨rfl, hpre⟩ := hv
  have hx := B.exec
  have hb := B.bytes
  have hr := B.returns
  have hlocks := B.notSynchronized
  have hts := atoms_spec (ws := (Cond.code yJx4a65c_add_72be8 cJx4a65c_add_72be8 4 none :: ALLW)) B.pre
  have hta : ∀ w ∈ ALLW, w.before ([.ref la, .ref cm, .ref p1, .int p2] : List Value).toArray s = true := fun w h => hts w (List.mem_cons_of_mem _ h)
  have hown : s.vm.findClass RJx4a65c = some m.cls := findClass_of_methodNamed B.named
  obtain ⟨hsz, hP, hKE, hD0, hZ⟩ := hpre
  subst hsz
  have hD := hD0.self (sz := s.heap.size)
  generalize hAe : va_A (wL la mo ad ln PL pf) s.heap.size = A at hD hZ ⊢
  have hA : ∀ q : Nat, s.heap.size ≤ q → A q := fun q h => by rw [← hAe]; exact Or.inr h
  have hS : va_S A s.heap s.heap [] := va_S.rf
  have hP : va_P (eD E) vwCl ([(la, .inr (0, [.int mo, .ref ad, .int ln]))] ++ va_pl PL pf) s.heap := hP
  have hD : va_D A ([(la, .inr (0, [.int mo, .ref ad, .int ln]))] ++ va_pl PL pf) := hD
  have hl := lv_entry ([.ref la, .ref cm, .ref p1, .int p2]) (n := 4) (Nat.le_of_ble_eq_true rfl)
  rw [lg_entry_eq]
  generalize (lg_sl ([.ref la, .ref cm, .ref p1, .int p2]) ++ List.replicate (4 - (lg_sl ([.ref la, .ref cm, .ref p1, .int p2])).length) Slot.unset).toArray = ls at hl ⊢
  have hl : lv_has ls 4 [(0, .ref la), (1, .ref cm), (2, .ref p1), (3, .int p2)] := hl
  unfold wp_Jx4a65c_add_72be8 at hw
  refine lv_iload_n hx hb dJx4a65c_add_72be8_0 rfl (lv_at hl 3 rfl) ?_
  refine lv_aload_n hx hb dJx4a65c_add_72be8_1 rfl (lv_at hl 2 rfl) ?_
  obtain ⟨anz_155, afz_155, hyz_155, hfz_155, hw⟩ := hw
  obtain ⟨i_156, hi_156⟩ := va_pl_get (X := [(la, .inr (0, [.int mo, .ref ad, .int ln]))]) (f := pf) hyz_155
  have gi_156 := hi_156
  rw [hfz_155] at hi_156
  refine va_alen hx hb hKE.1 hP i_156 2 hi_156 rfl (v := (Int32.ofNat anz_155)) rfl dJx4a65c_add_72be8_2 ?_
  refine lv_icmp_ne (tgt := 11) hx hb dJx4a65c_add_72be8_3 (by decide) (fun c_157 => ?_) (fun c_157 => ?_)
  · have hw := hw.2 c_157
    refine lv_aload_n hx hb dJx4a65c_add_72be8_11 rfl (lv_at hl 2 rfl) ?_
    refine lv_iload_n hx hb dJx4a65c_add_72be8_12 rfl (lv_at hl 3 rfl) ?_
    refine lv_aload_n hx hb dJx4a65c_add_72be8_13 rfl (lv_at hl 1 rfl) ?_
    obtain ⟨ckz_158, cxz_158, cyz_158, cpz_158, hyz_158, hfz_158, hw⟩ := hw
    obtain ⟨i_159, hi_159⟩ := va_pl_get (X := [(la, .inr (0, [.int mo, .ref ad, .int ln]))]) (f := pf) hyz_158
    rw [hfz_158] at hi_159
    obtain ⟨i_160, hi_160⟩ := va_pl_get (X := [(la, .inr (0, [.int mo, .ref ad, .int ln]))]) (f := pf) hyz_155
    have gi_160 := hi_160
    rw [hfz_155] at hi_160
    obtain ⟨hi_161, hw⟩ := hw
    have hDo := hD
    refine va_astqO hx hb hKE.1 hP hD hS i_160 2 i_159 1 (r := (RX0, TX0, 4)) hi_160 rfl (hKE.2.1 _ (List.mem_of_getElem? (i := 14) rfl)) hi_159 rfl hi_161 dJx4a65c_add_72be8_14 (fun H locs hP hD hS => ?_)
    obtain ⟨hP, hD⟩ := pl_set hDo hyz_155 gi_160 hP hD
    obtain ⟨pf_162, epf_162⟩ : ∃ z : Nat → va_E, z = va_up pf p1 (.inl (eC E 2, anz_155, .inr (.inr (.inr (.inr (va_up afz_155 p2.toNatClampNeg (some cm))))))) := ⟨_, rfl⟩
    have hw := hw pf_162 epf_162
    have hP : va_P (eD E) vwCl ([(la, .inr (0, [.int mo, .ref ad, .int ln]))] ++ va_pl PL pf_162) H := by rw [epf_162]; exact hP
    have hD : va_D A ([(la, .inr (0, [.int mo, .ref ad, .int ln]))] ++ va_pl PL pf_162) := by rw [epf_162]; exact hD
    have hf_163 : pf_162 p1 = (.inl (eC E 2, anz_155, .inr (.inr (.inr (.inr (va_up afz_155 p2.toNatClampNeg (some cm))))))) := by rw [epf_162]; exact va_up_self _ _ _
    refine lv_aload_n hx hb dJx4a65c_add_72be8_15 rfl (lv_at hl 0 rfl) ?_
    refine lv_iload_n hx hb dJx4a65c_add_72be8_16 rfl (lv_at hl 3 rfl) ?_
    refine lv_iconst (v := 1) hx hb dJx4a65c_add_72be8_17 (by decide) ?_
    refine lv_iadd hx hb dJx4a65c_add_72be8_18 ?_
    refine va_put (D := eD E) (ci := 0) (v := .int (p2 + 1)) (ty := .int) (C := RJx4a65c) (T := TJx4a65c) (N := 3) hx hb hta lay_AL tyJx4a65c tyJx4a65c_ok nmJx4a65c hown hKE.1 hP hD hS 0 rfl rfl 2 (by decide) (hta _ tw_41) (fun _ h9 => h9) rfl (by decide +kernel) rfl rfl (Nat.le_of_ble_eq_true rfl) dJx4a65c_add_72be8_19 (fun H locs hP hD hS => ?_)
    have hP : va_P (eD E) vwCl ([(la, .inr (0, [.int mo, .ref ad, .int (p2 + 1)]))] ++ va_pl PL pf_162) H := hP
    have hD : va_D A ([(la, .inr (0, [.int mo, .ref ad, .int (p2 + 1)]))] ++ va_pl PL pf_162) := hD
    have hP9 : va_P (eD E) vwCl (wL la mo ad (p2 + 1) PL pf_162) H := hP
    have hD9 : va_D A (wL la mo ad (p2 + 1) PL pf_162) := hD
    refine W.widen (k := 1) (n := 32) (Nat.le_of_ble_eq_true rfl) (Nat.le_of_ble_eq_true rfl) ?_
    exact W.vret hx hb hr (fun t ht hW => ⟨⟨(mo, ad, (p2 + 1), PL, pf_162), rfl, hw, ⟨by rw [ht]; exact hP9, hD9⟩⟩, hS.F ht⟩) hS.2.2 dJx4a65c_add_72be8_22
  · have hw := hw.1 c_157
    refine lv_aload_n hx hb dJx4a65c_add_72be8_6 rfl (lv_at hl 0 rfl) ?_
    have hPc : va_P (eD E) vwCl (wL la mo ad ln PL pf) s.heap := hP
    have hDc : va_D A (wL la mo ad ln PL pf) := hD
    have hFc : ∀ q, va_A (wL la mo ad ln PL pf) s.heap.size q → A q := frS hDc hS hA
    refine va_callq (va_runV (As := []) (rest := []) ⟨hx, hb, hml, hown, hta⟩ (c_Jx4a65c_grow_d5877 E l la mo ad ln PL pf s.heap.size _ hw) (pcV (n := 0) hta tw_343 tw_340 tw_4 tw_342 tp_17 rfl rfl hd_Jx4a65c_grow_d5877 ⟨Nat.le_of_ble_eq_true rfl, Nat.le_of_ble_eq_true rfl⟩) ⟨fbM, va_recv hKE.1 hP (ci := 0) (q0 := 0) rfl rfl, fun U hU hW => ⟨rfl, preM.mk hPc hKE hDc hZ hS hFc hU hW⟩⟩ rfl rfl hl.1 rfl (lv_room (Nat.le_of_ble_eq_true rfl)) dJx4a65c_add_72be8_7 ⟨Nat.le_of_ble_eq_true rfl, Nat.le_of_ble_eq_true rfl⟩) hS (fun q _ h => hFc q h) hFc (fun r_164 u t H locs ht hvm hw hB hz1 hk1 hS => ?_)
    obtain ⟨mo_165, ad_166, ln_167, PL_168, pf_169⟩ := u
    obtain ⟨hP1, hD1⟩ := hB
    rw [ht] at hP1
    try dsimp only at hw hP1 hD1
    have hP : va_P (eD E) vwCl ([(la, .inr (0, [.int mo_165, .ref ad_166, .int ln_167]))] ++ va_pl PL_168 pf_169) H := hP1
    have hD : va_D A ([(la, .inr (0, [.int mo_165, .ref ad_166, .int ln_167]))] ++ va_pl PL_168 pf_169) := hD1.weaken (fun _ q _ h => hFc q.1 h)
    rcases r_164 with _ | y_170
    · have hw := hw.1 rfl
      refine lv_astore_nN (lv' := [(2, .null), (0, .ref la), (1, .ref cm), (3, .int p2)]) hx hb dJx4a65c_add_72be8_10 rfl hl (by decide) rfl (fun ls hl => ?_)
      refine lv_aload_nN hx hb dJx4a65c_add_72be8_11 rfl (lv_at hl 0 rfl) ?_
      refine lv_iload_n hx hb dJx4a65c_add_72be8_12 rfl (lv_at hl 3 rfl) ?_
      refine lv_aload_n hx hb dJx4a65c_add_72be8_13 rfl (lv_at hl 2 rfl) ?_
      exact hw.elim
    · have hw := hw.2 y_170 rfl
      refine lv_astore_n (lv' := [(2, .ref y_170), (0, .ref la), (1, .ref cm), (3, .int p2)]) hx hb dJx4a65c_add_72be8_10 rfl hl (by decide) rfl (fun ls hl => ?_)
      refine lv_aload_n hx hb dJx4a65c_add_72be8_11 rfl (lv_at hl 0 rfl) ?_
      refine lv_iload_n hx hb dJx4a65c_add_72be8_12 rfl (lv_at hl 3 rfl) ?_
      refine lv_aload_n hx hb dJx4a65c_add_72be8_13 rfl (lv_at hl 2 rfl) ?_
      obtain ⟨ckz_171, cxz_171, cyz_171, cpz_171, hyz_171, hfz_171, hw⟩ := hw
      obtain ⟨i_172, hi_172⟩ := va_pl_get (X := [(la, .inr (0, [.int mo_165, .ref ad_166, .int ln_167]))]) (f := pf_169) hyz_171
      rw [hfz_171] at hi_172
      obtain ⟨anz_173, afz_173, hyz_173, hfz_173, hw⟩ := hw
      obtain ⟨i_174, hi_174⟩ := va_pl_get (X := [(la, .inr (0, [.int mo_165, .ref ad_166, .int ln_167]))]) (f := pf_169) hyz_173
      have gi_174 := hi_174
      rw [hfz_173] at hi_174
      obtain ⟨hi_175, hw⟩ := hw
      have hDo := hD
      refine va_astqO hx hb hKE.1 hP hD hS i_174 2 i_172 1 (r := (RX0, TX0, 4)) hi_174 rfl (hKE.2.1 _ (List.mem_of_getElem? (i := 14) rfl)) hi_172 rfl hi_175 dJx4a65c_add_72be8_14 (fun H locs hP hD hS => ?_)
      obtain ⟨hP, hD⟩ := pl_set hDo hyz_173 gi_174 hP hD
      obtain ⟨pf_176, epf_176⟩ : ∃ z : Nat → va_E, z = va_up pf_169 y_170 (.inl (eC E 2, anz_173, .inr (.inr (.inr (.inr (va_up afz_173 p2.toNatClampNeg (some cm))))))) := ⟨_, rfl⟩
      have hw := hw pf_176 epf_176
      have hP : va_P (eD E) vwCl ([(la, .inr (0, [.int mo_165, .ref ad_166, .int ln_167]))] ++ va_pl PL_168 pf_176) H := by rw [epf_176]; exact hP
      have hD : va_D A ([(la, .inr (0, [.int mo_165, .ref ad_166, .int ln_167]))] ++ va_pl PL_168 pf_176) := by rw [epf_176]; exact hD
      have hf_177 : pf_176 y_170 = (.inl (eC E 2, anz_173, .inr (.inr (.inr (.inr (va_up afz_173 p2.toNatClampNeg (some cm))))))) := by rw [epf_176]; exact va_up_self _ _ _
      refine lv_aload_n hx hb dJx4a65c_add_72be8_15 rfl (lv_at hl 1 rfl) ?_
      refine lv_iload_n hx hb dJx4a65c_add_72be8_16 rfl (lv_at hl 3 rfl) ?_
      refine lv_iconst (v := 1) hx hb dJx4a65c_add_72be8_17 (by decide) ?_
      refine lv_iadd hx hb dJx4a65c_add_72be8_18 ?_
      refine va_put (D := eD E) (ci := 0) (v := .int (p2 + 1)) (ty := .int) (C := RJx4a65c) (T := TJx4a65c) (N := 3) hx hb hta lay_AL tyJx4a65c tyJx4a65c_ok nmJx4a65c hown hKE.1 hP hD hS 0 rfl rfl 2 (by decide) (hta _ tw_41) (fun _ h9 => h9) rfl (by decide +kernel) rfl rfl (Nat.le_of_ble_eq_true rfl) dJx4a65c_add_72be8_19 (fun H locs hP hD hS => ?_)
      have hP : va_P (eD E) vwCl ([(la, .inr (0, [.int mo_165, .ref ad_166, .int (p2 + 1)]))] ++ va_pl PL_168 pf_176) H := hP
      have hD : va_D A ([(la, .inr (0, [.int mo_165, .ref ad_166, .int (p2 + 1)]))] ++ va_pl PL_168 pf_176) := hD
      have hP9 : va_P (eD E) vwCl (wL la mo_165 ad_166 (p2 + 1) PL_168 pf_176) H := hP
      have hD9 : va_D A (wL la mo_165 ad_166 (p2 + 1) PL_168 pf_176) := hD
      exact W.vret hx hb hr (fun t ht hW => ⟨⟨(mo_165, ad_166, (p2 + 1), PL_168, pf_176), rfl, hw, ⟨by rw [ht]; exact hP9, hD9⟩⟩, hS.F ht⟩) hS.2.2 dJx4a65c_add_72be8_22
def wp_Jx4a65c_add_72be8_v (E : EV) (post : Int32 → Nat → Int32 → List Nat → (Nat → va_E) → Prop) (mo : Int32) (ln : Int32) (PL : List Nat) (pf : Nat → va_E) (cm : Nat) (p2 : Int32) : Prop := ((p2 = 0 → (wp_Jx4a65c_grow_d5877_v E (fun (r_186 : Option Nat) (mo_187 : Int32) (ad_188 : Nat) (ln_189 : Int32) (PL_190 : List Nat) (pf_191 : Nat → va_E) => ((r_186 = none → False) ∧ (∀ y_192 : Nat, r_186 = some y_192 → (∃ ckz_193 cxz_193 cyz_193 cpz_193 : Int32, cm ∈ PL_190 ∧ pf_191 cm = .inr (1, [.int ckz_193, .int cxz_193, .int cyz_193, .int cpz_193]) ∧ (∃ (anz_195 : Nat) (afz_195 : Nat → Option Nat), y_192 ∈ PL_190 ∧ pf_191 y_192 = .inl (eC E 2, anz_195, .inr (.inr (.inr (.inr afz_195)))) ∧ (vp_in p2 anz_195 ∧ (∀ pf_198 : Nat → va_E, pf_198 = va_up pf_191 y_192 (.inl (eC E 2, anz_195, .inr (.inr (.inr (.inr (va_up afz_195 p2.toNatClampNeg (some cm))))))) → post mo_187 ad_188 (p2 + 1) PL_190 pf_198))))))) mo ln PL pf)) ∧ (¬ (p2 = 0) → (∃ ckz_179 cxz_179 cyz_179 cpz_179 : Int32, cm ∈ PL ∧ pf cm = .inr (1, [.int ckz_179, .int cxz_179, .int cyz_179, .int cpz_179]) ∧ (∃ (anz_181 : Nat) (afz_181 : Nat → Option Nat), (eA E 0) ∈ PL ∧ pf (eA E 0) = .inl (eC E 2, anz_181, .inr (.inr (.inr (.inr afz_181)))) ∧ (vp_in p2 anz_181 ∧ (∀ pf_184 : Nat → va_E, pf_184 = va_up pf (eA E 0) (.inl (eC E 2, anz_181, .inr (.inr (.inr (.inr (va_up afz_181 p2.toNatClampNeg (some cm))))))) → post mo (eA E 0) (p2 + 1) PL pf_184))))))
set_option maxHeartbeats 4000000 in
set_option maxRecDepth 100000 in
theorem c_Jx4a65c_add_72be8_v (E : EV) (l : Launch) (la : Nat) (mo : Int32) (ln : Int32) (PL : List Nat) (pf : Nat → va_E) (cm : Nat) (p2 : Int32) (hz : Nat) (post : Int32 → Nat → Int32 → List Nat → (Nat → va_E) → Prop) (hw : wp_Jx4a65c_add_72be8_v E post mo ln PL pf cm p2) : Met l yJx4a65c_add_72be8 (Cond.code yJx4a65c_add_72be8 cJx4a65c_add_72be8 4 none :: ALLW) ({ frames := 3, cells := 1, slots := 32, locals := 57 } : Room) (va_Pc [.ref la, .ref cm, .ref (eA E 0), .int p2] (preM E (wL la mo (eA E 0) ln PL pf) hz)) (va_Qv (fun (u : Int32 × Nat × Int32 × List Nat × (Nat → va_E)) => post u.1 u.2.1 u.2.2.1 u.2.2.2.1 u.2.2.2.2) (fun (u : Int32 × Nat × Int32 × List Nat × (Nat → va_E)) t => va_P (eD E) vwCl (wL la u.1 u.2.1 u.2.2.1 u.2.2.2.1 u.2.2.2.2) t.heap ∧ va_D (va_A (wL la mo (eA E 0) ln PL pf) hz) (wL la u.1 u.2.1 u.2.2.1 u.2.2.2.1 u.2.2.2.2)) (va_A (wL la mo (eA E 0) ln PL pf) hz)) 1 32 (va_A (wL la mo (eA E 0) ln PL pf) hz) := by
  refine Met.ofW (cc := cJx4a65c_add_72be8) (maxL := 4) (ret := none) (by decide) rfl ?_
  intro p e s m args below meth c s₁ B hml hv
  obtain ⟨rfl, hpre⟩ := hv
  have hx := B.exec
  have hb := B.bytes
  have hr := B.returns
  have hlocks := B.notSynchronized
  have hts := atoms_spec (ws := (Cond.code yJx4a65c_add_72be8 cJx4a65c_add_72be8 4 none :: ALLW)) B.pre
  have hta : ∀ w ∈ ALLW, w.before ([.ref la, .ref cm, .ref (eA E 0), .int p2] : List Value).toArray s = true := fun w h => hts w (List.mem_cons_of_mem _ h)
  have hown : s.vm.findClass RJx4a65c = some m.cls := findClass_of_methodNamed B.named
  obtain ⟨hsz, hP, hKE, hD0, hZ⟩ := hpre
  subst hsz
  have hD := hD0.self (sz := s.heap.size)
  generalize hAe : va_A (wL la mo (eA E 0) ln PL pf) s.heap.size = A at hD hZ ⊢
  have hA : ∀ q : Nat, s.heap.size ≤ q → A q := fun q h => by rw [← hAe]; exact Or.inr h
  have hS : va_S A s.heap s.heap [] := va_S.rf
  have hP : va_P (eD E) vwCl ([(la, .inr (0, [.int mo, .ref (eA E 0), .int ln]))] ++ va_pl PL pf) s.heap := hP
  have hD : va_D A ([(la, .inr (0, [.int mo, .ref (eA E 0), .int ln]))] ++ va_pl PL pf) := hD
  have hl := lv_entry ([.ref la, .ref cm, .ref (eA E 0), .int p2]) (n := 4) (Nat.le_of_ble_eq_true rfl)
  rw [lg_entry_eq]
  generalize (lg_sl ([.ref la, .ref cm, .ref (eA E 0), .int p2]) ++ List.replicate (4 - (lg_sl ([.ref la, .ref cm, .ref (eA E 0), .int p2])).length) Slot.unset).toArray = ls at hl ⊢
  have hl : lv_has ls 4 [(0, .ref la), (1, .ref cm), (2, .ref (eA E 0)), (3, .int p2)] := hl
  unfold wp_Jx4a65c_add_72be8_v at hw
  refine lv_iload_n hx hb dJx4a65c_add_72be8_0 rfl (lv_at hl 3 rfl) ?_
  refine lv_aload_n hx hb dJx4a65c_add_72be8_1 rfl (lv_at hl 2 rfl) ?_
  refine va_tlen hx hb hZ.2.1 hS (v := 0) (by decide) dJx4a65c_add_72be8_2 ?_
  refine lv_icmp_ne (tgt := 11) hx hb dJx4a65c_add_72be8_3 (by decide) (fun c_178 => ?_) (fun c_178 => ?_)
  · have hw := hw.2 c_178
    refine lv_aload_n hx hb dJx4a65c_add_72be8_11 rfl (lv_at hl 2 rfl) ?_
    refine lv_iload_n hx hb dJx4a65c_add_72be8_12 rfl (lv_at hl 3 rfl) ?_
    refine lv_aload_n hx hb dJx4a65c_add_72be8_13 rfl (lv_at hl 1 rfl) ?_
    obtain ⟨ckz_179, cxz_179, cyz_179, cpz_179, hyz_179, hfz_179, hw⟩ := hw
    obtain ⟨i_180, hi_180⟩ := va_pl_get (X := [(la, .inr (0, [.int mo, .ref (eA E 0), .int ln]))]) (f := pf) hyz_179
    rw [hfz_179] at hi_180
    obtain ⟨anz_181, afz_181, hyz_181, hfz_181, hw⟩ := hw
    obtain ⟨i_182, hi_182⟩ := va_pl_get (X := [(la, .inr (0, [.int mo, .ref (eA E 0), .int ln]))]) (f := pf) hyz_181
    have gi_182 := hi_182
    rw [hfz_181] at hi_182
    obtain ⟨hi_183, hw⟩ := hw
    have hDo := hD
    refine va_astqO hx hb hKE.1 hP hD hS i_182 2 i_180 1 (r := (RX0, TX0, 4)) hi_182 rfl (hKE.2.1 _ (List.mem_of_getElem? (i := 14) rfl)) hi_180 rfl hi_183 dJx4a65c_add_72be8_14 (fun H locs hP hD hS => ?_)
    obtain ⟨hP, hD⟩ := pl_set hDo hyz_181 gi_182 hP hD
    obtain ⟨pf_184, epf_184⟩ : ∃ z : Nat → va_E, z = va_up pf (eA E 0) (.inl (eC E 2, anz_181, .inr (.inr (.inr (.inr (va_up afz_181 p2.toNatClampNeg (some cm))))))) := ⟨_, rfl⟩
    have hw := hw pf_184 epf_184
    have hP : va_P (eD E) vwCl ([(la, .inr (0, [.int mo, .ref (eA E 0), .int ln]))] ++ va_pl PL pf_184) H := by rw [epf_184]; exact hP
    have hD : va_D A ([(la, .inr (0, [.int mo, .ref (eA E 0), .int ln]))] ++ va_pl PL pf_184) := by rw [epf_184]; exact hD
    have hf_185 : pf_184 (eA E 0) = (.inl (eC E 2, anz_181, .inr (.inr (.inr (.inr (va_up afz_181 p2.toNatClampNeg (some cm))))))) := by rw [epf_184]; exact va_up_self _ _ _
    refine lv_aload_n hx hb dJx4a65c_add_72be8_15 rfl (lv_at hl 0 rfl) ?_
    refine lv_iload_n hx hb dJx4a65c_add_72be8_16 rfl (lv_at hl 3 rfl) ?_
    refine lv_iconst (v := 1) hx hb dJx4a65c_add_72be8_17 (by decide) ?_
    refine lv_iadd hx hb dJx4a65c_add_72be8_18 ?_
    refine va_put (D := eD E) (ci := 0) (v := .int (p2 + 1)) (ty := .int) (C := RJx4a65c) (T := TJx4a65c) (N := 3) hx hb hta lay_AL tyJx4a65c tyJx4a65c_ok nmJx4a65c hown hKE.1 hP hD hS 0 rfl rfl 2 (by decide) (hta _ tw_41) (fun _ h9 => h9) rfl (by decide +kernel) rfl rfl (Nat.le_of_ble_eq_true rfl) dJx4a65c_add_72be8_19 (fun H locs hP hD hS => ?_)
    have hP : va_P (eD E) vwCl ([(la, .inr (0, [.int mo, .ref (eA E 0), .int (p2 + 1)]))] ++ va_pl PL pf_184) H := hP
    have hD : va_D A ([(la, .inr (0, [.int mo, .ref (eA E 0), .int (p2 + 1)]))] ++ va_pl PL pf_184) := hD
    have hP9 : va_P (eD E) vwCl (wL la mo (eA E 0) (p2 + 1) PL pf_184) H := hP
    have hD9 : va_D A (wL la mo (eA E 0) (p2 + 1) PL pf_184) := hD
    refine W.widen (k := 1) (n := 32) (Nat.le_of_ble_eq_true rfl) (Nat.le_of_ble_eq_true rfl) ?_
    exact W.vret hx hb hr (fun t ht hW => ⟨⟨(mo, (eA E 0), (p2 + 1), PL, pf_184), rfl, hw, ⟨by rw [ht]; exact hP9, hD9⟩⟩, hS.F ht⟩) hS.2.2 dJx4a65c_add_72be8_22
  · have hw := hw.1 c_178
    refine lv_aload_n hx hb dJx4a65c_add_72be8_6 rfl (lv_at hl 0 rfl) ?_
    have hPc : va_P (eD E) vwCl (wL la mo (eA E 0) ln PL pf) s.heap := hP
    have hDc : va_D A (wL la mo (eA E 0) ln PL pf) := hD
    have hFc : ∀ q, va_A (wL la mo (eA E 0) ln PL pf) s.heap.size q → A q := frS hDc hS hA
    refine va_callq (va_runV (As := []) (rest := []) ⟨hx, hb, hml, hown, hta⟩ (c_Jx4a65c_grow_d5877_v E l la mo ln PL pf s.heap.size _ hw) (pcV (n := 0) hta tw_343 tw_340 tw_4 tw_342 tp_17 rfl rfl hd_Jx4a65c_grow_d5877 ⟨Nat.le_of_ble_eq_true rfl, Nat.le_of_ble_eq_true rfl⟩) ⟨fbM, va_recv hKE.1 hP (ci := 0) (q0 := 0) rfl rfl, fun U hU hW => ⟨rfl, preM.mk hPc hKE hDc hZ hS hFc hU hW⟩⟩ rfl rfl hl.1 rfl (lv_room (Nat.le_of_ble_eq_true rfl)) dJx4a65c_add_72be8_7 ⟨Nat.le_of_ble_eq_true rfl, Nat.le_of_ble_eq_true rfl⟩) hS (fun q _ h => hFc q h) hFc (fun r_186 u t H locs ht hvm hw hB hz1 hk1 hS => ?_)
    obtain ⟨mo_187, ad_188, ln_189, PL_190, pf_191⟩ := u
    obtain ⟨hP1, hD1⟩ := hB
    rw [ht] at hP1
    try dsimp only at hw hP1 hD1
    have hP : va_P (eD E) vwCl ([(la, .inr (0, [.int mo_187, .ref ad_188, .int ln_189]))] ++ va_pl PL_190 pf_191) H := hP1
    have hD : va_D A ([(la, .inr (0, [.int mo_187, .ref ad_188, .int ln_189]))] ++ va_pl PL_190 pf_191) := hD1.weaken (fun _ q _ h => hFc q.1 h)
    rcases r_186 with _ | y_192
    · have hw := hw.1 rfl
      refine lv_astore_nN (lv' := [(2, .null), (0, .ref la), (1, .ref cm), (3, .int p2)]) hx hb dJx4a65c_add_72be8_10 rfl hl (by decide) rfl (fun ls hl => ?_)
      refine lv_aload_nN hx hb dJx4a65c_add_72be8_11 rfl (lv_at hl 0 rfl) ?_
      refine lv_iload_n hx hb dJx4a65c_add_72be8_12 rfl (lv_at hl 3 rfl) ?_
      refine lv_aload_n hx hb dJx4a65c_add_72be8_13 rfl (lv_at hl 2 rfl) ?_
      exact hw.elim
    · have hw := hw.2 y_192 rfl
      refine lv_astore_n (lv' := [(2, .ref y_192), (0, .ref la), (1, .ref cm), (3, .int p2)]) hx hb dJx4a65c_add_72be8_10 rfl hl (by decide) rfl (fun ls hl => ?_)
      refine lv_aload_n hx hb dJx4a65c_add_72be8_11 rfl (lv_at hl 0 rfl) ?_
      refine lv_iload_n hx hb dJx4a65c_add_72be8_12 rfl (lv_at hl 3 rfl) ?_
      refine lv_aload_n hx hb dJx4a65c_add_72be8_13 rfl (lv_at hl 2 rfl) ?_
      obtain ⟨ckz_193, cxz_193, cyz_193, cpz_193, hyz_193, hfz_193, hw⟩ := hw
      obtain ⟨i_194, hi_194⟩ := va_pl_get (X := [(la, .inr (0, [.int mo_187, .ref ad_188, .int ln_189]))]) (f := pf_191) hyz_193
      rw [hfz_193] at hi_194
      obtain ⟨anz_195, afz_195, hyz_195, hfz_195, hw⟩ := hw
      obtain ⟨i_196, hi_196⟩ := va_pl_get (X := [(la, .inr (0, [.int mo_187, .ref ad_188, .int ln_189]))]) (f := pf_191) hyz_195
      have gi_196 := hi_196
      rw [hfz_195] at hi_196
      obtain ⟨hi_197, hw⟩ := hw
      have hDo := hD
      refine va_astqO hx hb hKE.1 hP hD hS i_196 2 i_194 1 (r := (RX0, TX0, 4)) hi_196 rfl (hKE.2.1 _ (List.mem_of_getElem? (i := 14) rfl)) hi_194 rfl hi_197 dJx4a65c_add_72be8_14 (fun H locs hP hD hS => ?_)
      obtain ⟨hP, hD⟩ := pl_set hDo hyz_195 gi_196 hP hD
      obtain ⟨pf_198, epf_198⟩ : ∃ z : Nat → va_E, z = va_up pf_191 y_192 (.inl (eC E 2, anz_195, .inr (.inr (.inr (.inr (va_up afz_195 p2.toNatClampNeg (some cm))))))) := ⟨_, rfl⟩
      have hw := hw pf_198 epf_198
      have hP : va_P (eD E) vwCl ([(la, .inr (0, [.int mo_187, .ref ad_188, .int ln_189]))] ++ va_pl PL_190 pf_198) H := by rw [epf_198]; exact hP
      have hD : va_D A ([(la, .inr (0, [.int mo_187, .ref ad_188, .int ln_189]))] ++ va_pl PL_190 pf_198) := by rw [epf_198]; exact hD
      have hf_199 : pf_198 y_192 = (.inl (eC E 2, anz_195, .inr (.inr (.inr (.inr (va_up afz_195 p2.toNatClampNeg (some cm))))))) := by rw [epf_198]; exact va_up_self _ _ _
      refine lv_aload_n hx hb dJx4a65c_add_72be8_15 rfl (lv_at hl 1 rfl) ?_
      refine lv_iload_n hx hb dJx4a65c_add_72be8_16 rfl (lv_at hl 3 rfl) ?_
      refine lv_iconst (v := 1) hx hb dJx4a65c_add_72be8_17 (by decide) ?_
      refine lv_iadd hx hb dJx4a65c_add_72be8_18 ?_
      refine va_put (D := eD E) (ci := 0) (v := .int (p2 + 1)) (ty := .int) (C := RJx4a65c) (T := TJx4a65c) (N := 3) hx hb hta lay_AL tyJx4a65c tyJx4a65c_ok nmJx4a65c hown hKE.1 hP hD hS 0 rfl rfl 2 (by decide) (hta _ tw_41) (fun _ h9 => h9) rfl (by decide +kernel) rfl rfl (Nat.le_of_ble_eq_true rfl) dJx4a65c_add_72be8_19 (fun H locs hP hD hS => ?_)
      have hP : va_P (eD E) vwCl ([(la, .inr (0, [.int mo_187, .ref ad_188, .int (p2 + 1)]))] ++ va_pl PL_190 pf_198) H := hP
      have hD : va_D A ([(la, .inr (0, [.int mo_187, .ref ad_188, .int (p2 + 1)]))] ++ va_pl PL_190 pf_198) := hD
      have hP9 : va_P (eD E) vwCl (wL la mo_187 ad_188 (p2 + 1) PL_190 pf_198) H := hP
      have hD9 : va_D A (wL la mo_187 ad_188 (p2 + 1) PL_190 pf_198) := hD
      exact W.vret hx hb hr (fun t ht hW => ⟨⟨(mo_187, ad_188, (p2 + 1), PL_190, pf_198), rfl, hw, ⟨by rw [ht]; exact hP9, hD9⟩⟩, hS.F ht⟩) hS.2.2 dJx4a65c_add_72be8_22
def wp_Jx4a65c_add_9ea2d_g (E : EV) (post : Int32 → Int32 → Nat → Int32 → List Nat → (Nat → va_E) → Prop) (mo : Int32) (ad : Nat) (ln : Int32) (PL : List Nat) (pf : Nat → va_E) (cm : Nat) : Prop := (wp_Jx4a65c_add_72be8 E (fun (mo_213 : Int32) (ad_214 : Nat) (ln_215 : Int32) (PL_216 : List Nat) (pf_217 : Nat → va_E) => post 1 mo_213 ad_214 ln_215 PL_216 pf_217) (mo + 1) ad ln PL pf cm ad ln)
set_option maxHeartbeats 4000000 in
set_option maxRecDepth 100000 in
theorem c_Jx4a65c_add_9ea2d_g (E : EV) (l : Launch) (la : Nat) (mo : Int32) (ad : Nat) (ln : Int32) (PL : List Nat) (pf : Nat → va_E) (cm : Nat) (hz : Nat) (post : Int32 → Int32 → Nat → Int32 → List Nat → (Nat → va_E) → Prop) (hw : wp_Jx4a65c_add_9ea2d_g E post mo ad ln PL pf cm) : Met l yJx4a65c_add_9ea2d (Cond.code yJx4a65c_add_9ea2d cJx4a65c_add_9ea2d 2 (some .boolean) :: ALLW) ({ frames := 6, cells := 1, slots := 32, locals := 128 } : Room) (va_Pc [.ref la, .ref cm] (preM E (wL la mo ad ln PL pf) hz)) (va_Qi (fun (r : Int32) (u : Int32 × Nat × Int32 × List Nat × (Nat → va_E)) => post r u.1 u.2.1 u.2.2.1 u.2.2.2.1 u.2.2.2.2) (fun (u : Int32 × Nat × Int32 × List Nat × (Nat → va_E)) t => va_P (eD E) vwCl (wL la u.1 u.2.1 u.2.2.1 u.2.2.2.1 u.2.2.2.2) t.heap ∧ va_D (va_A (wL la mo ad ln PL pf) hz) (wL la u.1 u.2.1 u.2.2.1 u.2.2.2.1 u.2.2.2.2)) (va_A (wL la mo ad ln PL pf) hz)) 1 32 (va_A (wL la mo ad ln PL pf) hz) := by
  refine Met.ofW (cc := cJx4a65c_add_9ea2d) (maxL := 2) (ret := (some .boolean)) (by decide) rfl ?_
  intro p e s m args below meth c s₁ B hml hv
  obtain ⟨rfl, hpre⟩ := hv
  have hx := B.exec
  have hb := B.bytes
  have hr := B.returns
  have hlocks := B.notSynchronized
  have hts := atoms_spec (ws := (Cond.code yJx4a65c_add_9ea2d cJx4a65c_add_9ea2d 2 (some .boolean) :: ALLW)) B.pre
  have hta : ∀ w ∈ ALLW, w.before ([.ref la, .ref cm] : List Value).toArray s = true := fun w h => hts w (List.mem_cons_of_mem _ h)
  have hown : s.vm.findClass RJx4a65c = some m.cls := findClass_of_methodNamed B.named
  obtain ⟨hsz, hP, hKE, hD0, hZ⟩ := hpre
  subst hsz
  have hD := hD0.self (sz := s.heap.size)
  generalize hAe : va_A (wL la mo ad ln PL pf) s.heap.size = A at hD hZ ⊢
  have hA : ∀ q : Nat, s.heap.size ≤ q → A q := fun q h => by rw [← hAe]; exact Or.inr h
  have hS : va_S A s.heap s.heap [] := va_S.rf
  have hP : va_P (eD E) vwCl ([(la, .inr (0, [.int mo, .ref ad, .int ln]))] ++ va_pl PL pf) s.heap := hP
  have hD : va_D A ([(la, .inr (0, [.int mo, .ref ad, .int ln]))] ++ va_pl PL pf) := hD
  have hl := lv_entry ([.ref la, .ref cm]) (n := 2) (Nat.le_of_ble_eq_true rfl)
  rw [lg_entry_eq]
  generalize (lg_sl ([.ref la, .ref cm]) ++ List.replicate (2 - (lg_sl ([.ref la, .ref cm])).length) Slot.unset).toArray = ls at hl ⊢
  have hl : lv_has ls 2 [(0, .ref la), (1, .ref cm)] := hl
  unfold wp_Jx4a65c_add_9ea2d_g at hw
  refine lv_aload_n hx hb dJx4a65c_add_9ea2d_0 rfl (lv_at hl 0 rfl) ?_
  refine lv_dup hx hb dJx4a65c_add_9ea2d_1 rfl ?_
  refine va_get (D := eD E) (ci := 0) (v := .int mo) (C := RJx4a65c) (T := TJx4a65c) (N := 3) hx hb hta lay_AL hown hKE.1 hP 0 rfl rfl 0 (by decide) (hta _ tw_43) (fun x h9 => u_same (hta _ tw_44) x h9) rfl dJx4a65c_add_9ea2d_2 ?_
  refine lv_iconst (v := 1) hx hb dJx4a65c_add_9ea2d_5 (by decide) ?_
  refine lv_iadd hx hb dJx4a65c_add_9ea2d_6 ?_
  refine va_put (D := eD E) (ci := 0) (v := .int (mo + 1)) (ty := .int) (C := RJx4a65c) (T := TJx4a65c) (N := 3) hx hb hta lay_AL tyJx4a65c tyJx4a65c_ok nmJx4a65c hown hKE.1 hP hD hS 0 rfl rfl 0 (by decide) (hta _ tw_43) (fun x h9 => u_same (hta _ tw_44) x h9) rfl (by decide +kernel) rfl rfl (Nat.le_of_ble_eq_true rfl) dJx4a65c_add_9ea2d_7 (fun H locs hP hD hS => ?_)
  have hP : va_P (eD E) vwCl ([(la, .inr (0, [.int (mo + 1), .ref ad, .int ln]))] ++ va_pl PL pf) H := hP
  have hD : va_D A ([(la, .inr (0, [.int (mo + 1), .ref ad, .int ln]))] ++ va_pl PL pf) := hD
  refine lv_aload_n hx hb dJx4a65c_add_9ea2d_10 rfl (lv_at hl 0 rfl) ?_
  refine lv_aload_n hx hb dJx4a65c_add_9ea2d_11 rfl (lv_at hl 1 rfl) ?_
  refine lv_aload_n hx hb dJx4a65c_add_9ea2d_12 rfl (lv_at hl 0 rfl) ?_
  refine va_get (D := eD E) (ci := 0) (v := .ref ad) (C := RJx4a65c) (T := TJx4a65c) (N := 3) hx hb hta lay_AL hown hKE.1 hP 0 rfl rfl 1 (by decide) (hta _ tw_40) (fun _ h9 => h9) rfl dJx4a65c_add_9ea2d_13 ?_
  refine lv_aload_n hx hb dJx4a65c_add_9ea2d_16 rfl (lv_at hl 0 rfl) ?_
  refine va_get (D := eD E) (ci := 0) (v := .int ln) (C := RJx4a65c) (T := TJx4a65c) (N := 3) hx hb hta lay_AL hown hKE.1 hP 0 rfl rfl 2 (by decide) (hta _ tw_41) (fun _ h9 => h9) rfl dJx4a65c_add_9ea2d_17 ?_
  have hPc : va_P (eD E) vwCl (wL la (mo + 1) ad ln PL pf) H := hP
  have hDc : va_D A (wL la (mo + 1) ad ln PL pf) := hD
  have hFc : ∀ q, va_A (wL la (mo + 1) ad ln PL pf) H.size q → A q := frS hDc hS hA
  refine va_callv (va_runV (As := [.ref cm, .ref ad, .int ln]) (rest := []) ⟨hx, hb, hml, hown, hta⟩ (c_Jx4a65c_add_72be8 E l la (mo + 1) ad ln PL pf cm ad ln H.size _ hw) (pcV (n := 3) hta tw_339 tw_336 tw_4 tw_338 tp_16 rfl rfl hd_Jx4a65c_add_72be8 ⟨Nat.le_of_ble_eq_true rfl, Nat.le_of_ble_eq_true rfl⟩) ⟨fbM, va_recv hKE.1 hP (ci := 0) (q0 := 0) rfl rfl, fun U hU hW => ⟨rfl, preM.mk hPc hKE hDc hZ hS hFc hU hW⟩⟩ rfl rfl hl.1 rfl (lv_room (Nat.le_of_ble_eq_true rfl)) dJx4a65c_add_9ea2d_20 ⟨Nat.le_of_ble_eq_true rfl, Nat.le_of_ble_eq_true rfl⟩) hS (fun q _ h => hFc q h) hFc (fun u t H locs ht hvm hw hB hz1 hk1 hS => ?_)
  obtain ⟨mo_213, ad_214, ln_215, PL_216, pf_217⟩ := u
  obtain ⟨hP1, hD1⟩ := hB
  rw [ht] at hP1
  try dsimp only at hw hP1 hD1
  have hP : va_P (eD E) vwCl ([(la, .inr (0, [.int mo_213, .ref ad_214, .int ln_215]))] ++ va_pl PL_216 pf_217) H := hP1
  have hD : va_D A ([(la, .inr (0, [.int mo_213, .ref ad_214, .int ln_215]))] ++ va_pl PL_216 pf_217) := hD1.weaken (fun _ q _ h => hFc q.1 h)
  refine lv_iconst (v := 1) hx hb dJx4a65c_add_9ea2d_23 (by decide) ?_
  have hP9 : va_P (eD E) vwCl (wL la mo_213 ad_214 ln_215 PL_216 pf_217) H := hP
  have hD9 : va_D A (wL la mo_213 ad_214 ln_215 PL_216 pf_217) := hD
  exact W.zret (v := 1) hx hb hr rfl (fun t ht hW => ⟨⟨1, (mo_213, ad_214, ln_215, PL_216, pf_217), rfl, hw, ⟨by rw [ht]; exact hP9, hD9⟩⟩, hS.F ht⟩) hS.2.2 dJx4a65c_add_9ea2d_24
def wp_Jx4a65c_add_9ea2d_v (E : EV) (post : Int32 → Int32 → Nat → Int32 → List Nat → (Nat → va_E) → Prop) (mo : Int32) (ln : Int32) (PL : List Nat) (pf : Nat → va_E) (cm : Nat) : Prop := (wp_Jx4a65c_add_72be8_v E (fun (mo_219 : Int32) (ad_220 : Nat) (ln_221 : Int32) (PL_222 : List Nat) (pf_223 : Nat → va_E) => post 1 mo_219 ad_220 ln_221 PL_222 pf_223) (mo + 1) ln PL pf cm ln)
set_option maxHeartbeats 4000000 in
set_option maxRecDepth 100000 in
theorem c_Jx4a65c_add_9ea2d_v (E : EV) (l : Launch) (la : Nat) (mo : Int32) (ln : Int32) (PL : List Nat) (pf : Nat → va_E) (cm : Nat) (hz : Nat) (post : Int32 → Int32 → Nat → Int32 → List Nat → (Nat → va_E) → Prop) (hw : wp_Jx4a65c_add_9ea2d_v E post mo ln PL pf cm) : Met l yJx4a65c_add_9ea2d (Cond.code yJx4a65c_add_9ea2d cJx4a65c_add_9ea2d 2 (some .boolean) :: ALLW) ({ frames := 6, cells := 1, slots := 32, locals := 128 } : Room) (va_Pc [.ref la, .ref cm] (preM E (wL la mo (eA E 0) ln PL pf) hz)) (va_Qi (fun (r : Int32) (u : Int32 × Nat × Int32 × List Nat × (Nat → va_E)) => post r u.1 u.2.1 u.2.2.1 u.2.2.2.1 u.2.2.2.2) (fun (u : Int32 × Nat × Int32 × List Nat × (Nat → va_E)) t => va_P (eD E) vwCl (wL la u.1 u.2.1 u.2.2.1 u.2.2.2.1 u.2.2.2.2) t.heap ∧ va_D (va_A (wL la mo (eA E 0) ln PL pf) hz) (wL la u.1 u.2.1 u.2.2.1 u.2.2.2.1 u.2.2.2.2)) (va_A (wL la mo (eA E 0) ln PL pf) hz)) 1 32 (va_A (wL la mo (eA E 0) ln PL pf) hz) := by
  refine Met.ofW (cc := cJx4a65c_add_9ea2d) (maxL := 2) (ret := (some .boolean)) (by decide) rfl ?_
  intro p e s m args below meth c s₁ B hml hv
  obtain ⟨rfl, hpre⟩ := hv
  have hx := B.exec
  have hb := B.bytes
  have hr := B.returns
  have hlocks := B.notSynchronized
  have hts := atoms_spec (ws := (Cond.code yJx4a65c_add_9ea2d cJx4a65c_add_9ea2d 2 (some .boolean) :: ALLW)) B.pre
  have hta : ∀ w ∈ ALLW, w.before ([.ref la, .ref cm] : List Value).toArray s = true := fun w h => hts w (List.mem_cons_of_mem _ h)
  have hown : s.vm.findClass RJx4a65c = some m.cls := findClass_of_methodNamed B.named
  obtain ⟨hsz, hP, hKE, hD0, hZ⟩ := hpre
  subst hsz
  have hD := hD0.self (sz := s.heap.size)
  generalize hAe : va_A (wL la mo (eA E 0) ln PL pf) s.heap.size = A at hD hZ ⊢
  have hA : ∀ q : Nat, s.heap.size ≤ q → A q := fun q h => by rw [← hAe]; exact Or.inr h
  have hS : va_S A s.heap s.heap [] := va_S.rf
  have hP : va_P (eD E) vwCl ([(la, .inr (0, [.int mo, .ref (eA E 0), .int ln]))] ++ va_pl PL pf) s.heap := hP
  have hD : va_D A ([(la, .inr (0, [.int mo, .ref (eA E 0), .int ln]))] ++ va_pl PL pf) := hD
  have hl := lv_entry ([.ref la, .ref cm]) (n := 2) (Nat.le_of_ble_eq_true rfl)
  rw [lg_entry_eq]
  generalize (lg_sl ([.ref la, .ref cm]) ++ List.replicate (2 - (lg_sl ([.ref la, .ref cm])).length) Slot.unset).toArray = ls at hl ⊢
  have hl : lv_has ls 2 [(0, .ref la), (1, .ref cm)] := hl
  unfold wp_Jx4a65c_add_9ea2d_v at hw
  refine lv_aload_n hx hb dJx4a65c_add_9ea2d_0 rfl (lv_at hl 0 rfl) ?_
  refine lv_dup hx hb dJx4a65c_add_9ea2d_1 rfl ?_
  refine va_get (D := eD E) (ci := 0) (v := .int mo) (C := RJx4a65c) (T := TJx4a65c) (N := 3) hx hb hta lay_AL hown hKE.1 hP 0 rfl rfl 0 (by decide) (hta _ tw_43) (fun x h9 => u_same (hta _ tw_44) x h9) rfl dJx4a65c_add_9ea2d_2 ?_
  refine lv_iconst (v := 1) hx hb dJx4a65c_add_9ea2d_5 (by decide) ?_
  refine lv_iadd hx hb dJx4a65c_add_9ea2d_6 ?_
  refine va_put (D := eD E) (ci := 0) (v := .int (mo + 1)) (ty := .int) (C := RJx4a65c) (T := TJx4a65c) (N := 3) hx hb hta lay_AL tyJx4a65c tyJx4a65c_ok nmJx4a65c hown hKE.1 hP hD hS 0 rfl rfl 0 (by decide) (hta _ tw_43) (fun x h9 => u_same (hta _ tw_44) x h9) rfl (by decide +kernel) rfl rfl (Nat.le_of_ble_eq_true rfl) dJx4a65c_add_9ea2d_7 (fun H locs hP hD hS => ?_)
  have hP : va_P (eD E) vwCl ([(la, .inr (0, [.int (mo + 1), .ref (eA E 0), .int ln]))] ++ va_pl PL pf) H := hP
  have hD : va_D A ([(la, .inr (0, [.int (mo + 1), .ref (eA E 0), .int ln]))] ++ va_pl PL pf) := hD
  refine lv_aload_n hx hb dJx4a65c_add_9ea2d_10 rfl (lv_at hl 0 rfl) ?_
  refine lv_aload_n hx hb dJx4a65c_add_9ea2d_11 rfl (lv_at hl 1 rfl) ?_
  refine lv_aload_n hx hb dJx4a65c_add_9ea2d_12 rfl (lv_at hl 0 rfl) ?_
  refine va_get (D := eD E) (ci := 0) (v := .ref (eA E 0)) (C := RJx4a65c) (T := TJx4a65c) (N := 3) hx hb hta lay_AL hown hKE.1 hP 0 rfl rfl 1 (by decide) (hta _ tw_40) (fun _ h9 => h9) rfl dJx4a65c_add_9ea2d_13 ?_
  refine lv_aload_n hx hb dJx4a65c_add_9ea2d_16 rfl (lv_at hl 0 rfl) ?_
  refine va_get (D := eD E) (ci := 0) (v := .int ln) (C := RJx4a65c) (T := TJx4a65c) (N := 3) hx hb hta lay_AL hown hKE.1 hP 0 rfl rfl 2 (by decide) (hta _ tw_41) (fun _ h9 => h9) rfl dJx4a65c_add_9ea2d_17 ?_
  have hPc : va_P (eD E) vwCl (wL la (mo + 1) (eA E 0) ln PL pf) H := hP
  have hDc : va_D A (wL la (mo + 1) (eA E 0) ln PL pf) := hD
  have hFc : ∀ q, va_A (wL la (mo + 1) (eA E 0) ln PL pf) H.size q → A q := frS hDc hS hA
  refine va_callv (va_runV (As := [.ref cm, .ref (eA E 0), .int ln]) (rest := []) ⟨hx, hb, hml, hown, hta⟩ (c_Jx4a65c_add_72be8_v E l la (mo + 1) ln PL pf cm ln H.size _ hw) (pcV (n := 3) hta tw_339 tw_336 tw_4 tw_338 tp_16 rfl rfl hd_Jx4a65c_add_72be8 ⟨Nat.le_of_ble_eq_true rfl, Nat.le_of_ble_eq_true rfl⟩) ⟨fbM, va_recv hKE.1 hP (ci := 0) (q0 := 0) rfl rfl, fun U hU hW => ⟨rfl, preM.mk hPc hKE hDc hZ hS hFc hU hW⟩⟩ rfl rfl hl.1 rfl (lv_room (Nat.le_of_ble_eq_true rfl)) dJx4a65c_add_9ea2d_20 ⟨Nat.le_of_ble_eq_true rfl, Nat.le_of_ble_eq_true rfl⟩) hS (fun q _ h => hFc q h) hFc (fun u t H locs ht hvm hw hB hz1 hk1 hS => ?_)
  obtain ⟨mo_219, ad_220, ln_221, PL_222, pf_223⟩ := u
  obtain ⟨hP1, hD1⟩ := hB
  rw [ht] at hP1
  try dsimp only at hw hP1 hD1
  have hP : va_P (eD E) vwCl ([(la, .inr (0, [.int mo_219, .ref ad_220, .int ln_221]))] ++ va_pl PL_222 pf_223) H := hP1
  have hD : va_D A ([(la, .inr (0, [.int mo_219, .ref ad_220, .int ln_221]))] ++ va_pl PL_222 pf_223) := hD1.weaken (fun _ q _ h => hFc q.1 h)
  refine lv_iconst (v := 1) hx hb dJx4a65c_add_9ea2d_23 (by decide) ?_
  have hP9 : va_P (eD E) vwCl (wL la mo_219 ad_220 ln_221 PL_222 pf_223) H := hP
  have hD9 : va_D A (wL la mo_219 ad_220 ln_221 PL_222 pf_223) := hD
  exact W.zret (v := 1) hx hb hr rfl (fun t ht hW => ⟨⟨1, (mo_219, ad_220, ln_221, PL_222, pf_223), rfl, hw, ⟨by rw [ht]; exact hP9, hD9⟩⟩, hS.F ht⟩) hS.2.2 dJx4a65c_add_9ea2d_24
def wp_Jx4a65c_add_9ea2d (E : EV) (post : Int32 → Int32 → Nat → Int32 → List Nat → (Nat → va_E) → Prop) (mo : Int32) (ad : Nat) (ln : Int32) (PL : List Nat) (pf : Nat → va_E) (cm : Nat) : Prop := (ad = eA E 0 → wp_Jx4a65c_add_9ea2d_v E post mo ln PL pf cm) ∧ (¬ ad = eA E 0 → wp_Jx4a65c_add_9ea2d_g E post mo ad ln PL pf cm)
theorem c_Jx4a65c_add_9ea2d (E : EV) (l : Launch) (la : Nat) (mo : Int32) (ad : Nat) (ln : Int32) (PL : List Nat) (pf : Nat → va_E) (cm : Nat) (hz : Nat) (post : Int32 → Int32 → Nat → Int32 → List Nat → (Nat → va_E) → Prop) (hw : wp_Jx4a65c_add_9ea2d E post mo ad ln PL pf cm) : Met l yJx4a65c_add_9ea2d (Cond.code yJx4a65c_add_9ea2d cJx4a65c_add_9ea2d 2 (some .boolean) :: ALLW) ({ frames := 6, cells := 1, slots := 32, locals := 128 } : Room) (va_Pc [.ref la, .ref cm] (preM E (wL la mo ad ln PL pf) hz)) (va_Qi (fun (r : Int32) (u : Int32 × Nat × Int32 × List Nat × (Nat → va_E)) => post r u.1 u.2.1 u.2.2.1 u.2.2.2.1 u.2.2.2.2) (fun (u : Int32 × Nat × Int32 × List Nat × (Nat → va_E)) t => va_P (eD E) vwCl (wL la u.1 u.2.1 u.2.2.1 u.2.2.2.1 u.2.2.2.2) t.heap ∧ va_D (va_A (wL la mo ad ln PL pf) hz) (wL la u.1 u.2.1 u.2.2.1 u.2.2.2.1 u.2.2.2.2)) (va_A (wL la mo ad ln PL pf) hz)) 1 32 (va_A (wL la mo ad ln PL pf) hz) := by
  by_cases h : ad = eA E 0
  · have hw2 := hw.1 h
    subst h
    exact c_Jx4a65c_add_9ea2d_v E l la mo ln PL pf cm hz post hw2
  · exact c_Jx4a65c_add_9ea2d_g E l la mo ad ln PL pf cm hz post (hw.2 h)
def wp_Jx4a65c_fastRemove_b59b0 (E : EV) (post : Int32 → Nat → Int32 → List Nat → (Nat → va_E) → Prop) (mo : Int32) (ad : Nat) (ln : Int32) (PL : List Nat) (pf : Nat → va_E) (p0 : Nat) (p1 : Int32) : Prop := (((ln - 1) ≤ p1 → (∃ (anz_225 : Nat) (afz_225 : Nat → Option Nat), p0 ∈ PL ∧ pf p0 = .inl (eC E 2, anz_225, .inr (.inr (.inr (.inr afz_225)))) ∧ (vp_in (ln - 1) anz_225 ∧ (∀ pf_228 : Nat → va_E, pf_228 = va_up pf p0 (.inl (eC E 2, anz_225, .inr (.inr (.inr (.inr (va_up afz_225 (ln - 1).toNatClampNeg none)))))) → post (mo + 1) ad (ln - 1) PL pf_228)))) ∧ (¬ (ln - 1) ≤ p1 → (∃ (anz_230 : Nat) (afz_230 : Nat → Option Nat), p0 ∈ PL ∧ pf p0 = .inl (eC E 2, anz_230, .inr (.inr (.inr (.inr afz_230)))) ∧ ((¬ (p1 + 1) < 0 ∧ ¬ p1 < 0 ∧ ¬ ((ln - 1) - p1) < 0 ∧ (p1 + 1).toNatClampNeg + ((ln - 1) - p1).toNatClampNeg ≤ anz_230 ∧ p1.toNatClampNeg + ((ln - 1) - p1).toNatClampNeg ≤ anz_230) ∧ (∀ i : Nat, i < ((ln - 1) - p1).toNatClampNeg → ∀ y : Nat, afz_230 ((p1 + 1).toNatClampNeg + i) = some y → y ∈ PL ∧ ∃ k1 k2 k3 k4 : Int32, pf y = .inr (1, [.int k1, .int k2, .int k3, .int k4])) ∧ (∀ pf_234 : Nat → va_E, pf_234 = va_up pf p0 (.inl (eC E 2, anz_230, .inr (.inr (.inr (.inr (va_cpy afz_230 afz_230 (p1 + 1).toNatClampNeg p1.toNatClampNeg ((ln - 1) - p1).toNatClampNeg)))))) → (vp_in (ln - 1) anz_230 ∧ (∀ pf_238 : Nat → va_E, pf_238 = va_up pf_234 p0 (.inl (eC E 2, anz_230, .inr (.inr (.inr (.inr (va_up (va_cpy afz_230 afz_230 (p1 + 1).toNatClampNeg p1.toNatClampNeg ((ln - 1) - p1).toNatClampNeg) (ln - 1).toNatClampNeg none)))))) → post (mo + 1) ad (ln - 1) PL pf_238)))))))
set_option maxHeartbeats 4000000 in
set_option maxRecDepth 100000 in
theorem c_Jx4a65c_fastRemove_b59b0 (E : EV) (l : Launch) (la : Nat) (mo : Int32) (ad : Nat) (ln : Int32) (PL : List Nat) (pf : Nat → va_E) (p0 : Nat) (p1 : Int32) (hz : Nat) (post : Int32 → Nat → Int32 → List Nat → (Nat → va_E) → Prop) (hw : wp_Jx4a65c_fastRemove_b59b0 E post mo ad ln PL pf p0 p1) : Met l yJx4a65c_fastRemove_b59b0 (Cond.code yJx4a65c_fastRemove_b59b0 cJx4a65c_fastRemove_b59b0 4 none :: ALLW) ({ frames := 1, cells := 0, slots := 0, locals := 18 } : Room) (va_Pc [.ref la, .ref p0, .int p1] (preM E (wL la mo ad ln PL pf) hz)) (va_Qv (fun (u : Int32 × Nat × Int32 × List Nat × (Nat → va_E)) => post u.1 u.2.1 u.2.2.1 u.2.2.2.1 u.2.2.2.2) (fun (u : Int32 × Nat × Int32 × List Nat × (Nat → va_E)) t => va_P (eD E) vwCl (wL la u.1 u.2.1 u.2.2.1 u.2.2.2.1 u.2.2.2.2) t.heap ∧ va_D (va_A (wL la mo ad ln PL pf) hz) (wL la u.1 u.2.1 u.2.2.1 u.2.2.2.1 u.2.2.2.2)) (va_A (wL la mo ad ln PL pf) hz)) 0 0 (va_A (wL la mo ad ln PL pf) hz) := by
  refine Met.ofW (cc := cJx4a65c_fastRemove_b59b0) (maxL := 4) (ret := none) (by decide) rfl ?_
  intro p e s m args below meth c s₁ B hml hv
  obtain ⟨rfl, hpre⟩ := hv
  have hx := B.exec
  have hb := B.bytes
  have hr := B.returns
  have hlocks := B.notSynchronized
  have hts := atoms_spec (ws := (Cond.code yJx4a65c_fastRemove_b59b0 cJx4a65c_fastRemove_b59b0 4 none :: ALLW)) B.pre
  have hta : ∀ w ∈ ALLW, w.before ([.ref la, .ref p0, .int p1] : List Value).toArray s = true := fun w h => hts w (List.mem_cons_of_mem _ h)
  have hown : s.vm.findClass RJx4a65c = some m.cls := findClass_of_methodNamed B.named
  obtain ⟨hsz, hP, hKE, hD0, hZ⟩ := hpre
  subst hsz
  have hD := hD0.self (sz := s.heap.size)
  generalize hAe : va_A (wL la mo ad ln PL pf) s.heap.size = A at hD hZ ⊢
  have hA : ∀ q : Nat, s.heap.size ≤ q → A q := fun q h => by rw [← hAe]; exact Or.inr h
  have hS : va_S A s.heap s.heap [] := va_S.rf
  have hP : va_P (eD E) vwCl ([(la, .inr (0, [.int mo, .ref ad, .int ln]))] ++ va_pl PL pf) s.heap := hP
  have hD : va_D A ([(la, .inr (0, [.int mo, .ref ad, .int ln]))] ++ va_pl PL pf) := hD
  have hl := lv_entry ([.ref la, .ref p0, .int p1]) (n := 4) (Nat.le_of_ble_eq_true rfl)
  rw [lg_entry_eq]
  generalize (lg_sl ([.ref la, .ref p0, .int p1]) ++ List.replicate (4 - (lg_sl ([.ref la, .ref p0, .int p1])).length) Slot.unset).toArray = ls at hl ⊢
  have hl : lv_has ls 4 [(0, .ref la), (1, .ref p0), (2, .int p1)] := hl
  unfold wp_Jx4a65c_fastRemove_b59b0 at hw
  refine lv_aload_n hx hb dJx4a65c_fastRemove_b59b0_0 rfl (lv_at hl 0 rfl) ?_
  refine lv_dup hx hb dJx4a65c_fastRemove_b59b0_1 rfl ?_
  refine va_get (D := eD E) (ci := 0) (v := .int mo) (C := RJx4a65c) (T := TJx4a65c) (N := 3) hx hb hta lay_AL hown hKE.1 hP 0 rfl rfl 0 (by decide) (hta _ tw_43) (fun x h9 => u_same (hta _ tw_44) x h9) rfl dJx4a65c_fastRemove_b59b0_2 ?_
  refine lv_iconst (v := 1) hx hb dJx4a65c_fastRemove_b59b0_5 (by decide) ?_
  refine lv_iadd hx hb dJx4a65c_fastRemove_b59b0_6 ?_
  refine va_put (D := eD E) (ci := 0) (v := .int (mo + 1)) (ty := .int) (C := RJx4a65c) (T := TJx4a65c) (N := 3) hx hb hta lay_AL tyJx4a65c tyJx4a65c_ok nmJx4a65c hown hKE.1 hP hD hS 0 rfl rfl 0 (by decide) (hta _ tw_43) (fun x h9 => u_same (hta _ tw_44) x h9) rfl (by decide +kernel) rfl rfl (Nat.le_of_ble_eq_true rfl) dJx4a65c_fastRemove_b59b0_7 (fun H locs hP hD hS => ?_)
  have hP : va_P (eD E) vwCl ([(la, .inr (0, [.int (mo + 1), .ref ad, .int ln]))] ++ va_pl PL pf) H := hP
  have hD : va_D A ([(la, .inr (0, [.int (mo + 1), .ref ad, .int ln]))] ++ va_pl PL pf) := hD
  refine lv_aload_n hx hb dJx4a65c_fastRemove_b59b0_10 rfl (lv_at hl 0 rfl) ?_
  refine va_get (D := eD E) (ci := 0) (v := .int ln) (C := RJx4a65c) (T := TJx4a65c) (N := 3) hx hb hta lay_AL hown hKE.1 hP 0 rfl rfl 2 (by decide) (hta _ tw_41) (fun _ h9 => h9) rfl dJx4a65c_fastRemove_b59b0_11 ?_
  refine lv_iconst (v := 1) hx hb dJx4a65c_fastRemove_b59b0_14 (by decide) ?_
  refine lv_isub hx hb dJx4a65c_fastRemove_b59b0_15 ?_
  refine lv_dup hx hb dJx4a65c_fastRemove_b59b0_16 rfl ?_
  refine lv_istore_n (lv' := [(3, .int (ln - 1)), (0, .ref la), (1, .ref p0), (2, .int p1)]) hx hb dJx4a65c_fastRemove_b59b0_17 rfl hl (by decide) rfl (fun ls hl => ?_)
  refine lv_iload_n hx hb dJx4a65c_fastRemove_b59b0_18 rfl (lv_at hl 3 rfl) ?_
  refine lv_icmp_le (tgt := 34) hx hb dJx4a65c_fastRemove_b59b0_19 (by decide) (fun c_224 => ?_) (fun c_224 => ?_)
  · have hw := hw.1 c_224
    refine lv_aload_n hx hb dJx4a65c_fastRemove_b59b0_34 rfl (lv_at hl 2 rfl) ?_
    refine lv_aload_n hx hb dJx4a65c_fastRemove_b59b0_35 rfl (lv_at hl 1 rfl) ?_
    refine lv_iload_n hx hb dJx4a65c_fastRemove_b59b0_36 rfl (lv_at hl 0 rfl) ?_
    refine lv_dup_x1 hx hb dJx4a65c_fastRemove_b59b0_37 rfl rfl ?_
    refine va_put (D := eD E) (ci := 0) (v := .int (ln - 1)) (ty := .int) (C := RJx4a65c) (T := TJx4a65c) (N := 3) hx hb hta lay_AL tyJx4a65c tyJx4a65c_ok nmJx4a65c hown hKE.1 hP hD hS 0 rfl rfl 2 (by decide) (hta _ tw_41) (fun _ h9 => h9) rfl (by decide +kernel) rfl rfl (Nat.le_of_ble_eq_true rfl) dJx4a65c_fastRemove_b59b0_38 (fun H locs hP hD hS => ?_)
    have hP : va_P (eD E) vwCl ([(la, .inr (0, [.int (mo + 1), .ref ad, .int (ln - 1)]))] ++ va_pl PL pf) H := hP
    have hD : va_D A ([(la, .inr (0, [.int (mo + 1), .ref ad, .int (ln - 1)]))] ++ va_pl PL pf) := hD
    refine lv_null hx hb dJx4a65c_fastRemove_b59b0_41 ?_
    obtain ⟨anz_225, afz_225, hyz_225, hfz_225, hw⟩ := hw
    obtain ⟨i_226, hi_226⟩ := va_pl_get (X := [(la, .inr (0, [.int (mo + 1), .ref ad, .int (ln - 1)]))]) (f := pf) hyz_225
    have gi_226 := hi_226
    rw [hfz_225] at hi_226
    obtain ⟨hi_227, hw⟩ := hw
    have hDo := hD
    refine va_astqN hx hb hKE.1 hP hD hS i_226 2 hi_226 rfl hi_227 dJx4a65c_fastRemove_b59b0_42 (fun H locs hP hD hS => ?_)
    obtain ⟨hP, hD⟩ := pl_set hDo hyz_225 gi_226 hP hD
    obtain ⟨pf_228, epf_228⟩ : ∃ z : Nat → va_E, z = va_up pf p0 (.inl (eC E 2, anz_225, .inr (.inr (.inr (.inr (va_up afz_225 (ln - 1).toNatClampNeg none)))))) := ⟨_, rfl⟩
    have hw := hw pf_228 epf_228
    have hP : va_P (eD E) vwCl ([(la, .inr (0, [.int (mo + 1), .ref ad, .int (ln - 1)]))] ++ va_pl PL pf_228) H := by rw [epf_228]; exact hP
    have hD : va_D A ([(la, .inr (0, [.int (mo + 1), .ref ad, .int (ln - 1)]))] ++ va_pl PL pf_228) := by rw [epf_228]; exact hD
    have hf_229 : pf_228 p0 = (.inl (eC E 2, anz_225, .inr (.inr (.inr (.inr (va_up afz_225 (ln - 1).toNatClampNeg none)))))) := by rw [epf_228]; exact va_up_self _ _ _
    have hP9 : va_P (eD E) vwCl (wL la (mo + 1) ad (ln - 1) PL pf_228) H := hP
    have hD9 : va_D A (wL la (mo + 1) ad (ln - 1) PL pf_228) := hD
    exact W.vret hx hb hr (fun t ht hW => ⟨⟨((mo + 1), ad, (ln - 1), PL, pf_228), rfl, hw, ⟨by rw [ht]; exact hP9, hD9⟩⟩, hS.F ht⟩) hS.2.2 dJx4a65c_fastRemove_b59b0_43
  · have hw := hw.2 c_224
    refine lv_aload_n hx hb dJx4a65c_fastRemove_b59b0_22 rfl (lv_at hl 2 rfl) ?_
    refine lv_iload_n hx hb dJx4a65c_fastRemove_b59b0_23 rfl (lv_at hl 3 rfl) ?_
    refine lv_iconst (v := 1) hx hb dJx4a65c_fastRemove_b59b0_24 (by decide) ?_
    refine lv_iadd hx hb dJx4a65c_fastRemove_b59b0_25 ?_
    refine lv_aload_n hx hb dJx4a65c_fastRemove_b59b0_26 rfl (lv_at hl 2 rfl) ?_
    refine lv_iload_n hx hb dJx4a65c_fastRemove_b59b0_27 rfl (lv_at hl 3 rfl) ?_
    refine lv_iload_n hx hb dJx4a65c_fastRemove_b59b0_28 rfl (lv_at hl 0 rfl) ?_
    refine lv_iload_n hx hb dJx4a65c_fastRemove_b59b0_29 rfl (lv_at hl 3 rfl) ?_
    refine lv_isub hx hb dJx4a65c_fastRemove_b59b0_30 ?_
    obtain ⟨anz_230, afz_230, hyz_230, hfz_230, hw⟩ := hw
    obtain ⟨i_231, hi_231⟩ := va_pl_get (X := [(la, .inr (0, [.int (mo + 1), .ref ad, .int ln]))]) (f := pf) hyz_230
    have gi_231 := hi_231
    rw [hfz_230] at hi_231
    obtain ⟨i_232, hi_232⟩ := va_pl_get (X := [(la, .inr (0, [.int (mo + 1), .ref ad, .int ln]))]) (f := pf) hyz_230
    have gi_232 := hi_232
    rw [hfz_230] at hi_232
    obtain ⟨⟨h1k_233, h2k_233, h3k_233, h4k_233, h5k_233⟩, helk_233, hw⟩ := hw
    have hDo := hD
    refine va_copyq hx hb (hml.trans hl.1.symm) hown (hta _ tw_479) (hta _ tw_380) (hta _ tw_379) (hta _ tw_16) hKE.1 hP hD hS i_231 i_232 2 2 hi_231 hi_232 rfl rfl h1k_233 h2k_233 h3k_233 h4k_233 h5k_233 (C := RX0) (fun i hi y hy => by obtain ⟨h1, k1, k2, k3, k4, h2⟩ := helk_233 i hi y hy; exact cmd_cell hKE hP h1 h2) (vb_asgC (hKE.2.1 _ (List.mem_of_getElem? (i := 14) rfl))) (Nat.le_of_ble_eq_true rfl) (Nat.le_of_ble_eq_true rfl) dJx4a65c_fastRemove_b59b0_31 (fun H locs hP hD hS => ?_)
    obtain ⟨hP, hD⟩ := pl_set hDo hyz_230 gi_232 hP hD
    obtain ⟨pf_234, epf_234⟩ : ∃ z : Nat → va_E, z = va_up pf p0 (.inl (eC E 2, anz_230, .inr (.inr (.inr (.inr (va_cpy afz_230 afz_230 (p1 + 1).toNatClampNeg p1.toNatClampNeg ((ln - 1) - p1).toNatClampNeg)))))) := ⟨_, rfl⟩
    have hw := hw pf_234 epf_234
    have hP : va_P (eD E) vwCl ([(la, .inr (0, [.int (mo + 1), .ref ad, .int ln]))] ++ va_pl PL pf_234) H := by rw [epf_234]; exact hP
    have hD : va_D A ([(la, .inr (0, [.int (mo + 1), .ref ad, .int ln]))] ++ va_pl PL pf_234) := by rw [epf_234]; exact hD
    have hf_235 : pf_234 p0 = (.inl (eC E 2, anz_230, .inr (.inr (.inr (.inr (va_cpy afz_230 afz_230 (p1 + 1).toNatClampNeg p1.toNatClampNeg ((ln - 1) - p1).toNatClampNeg)))))) := by rw [epf_234]; exact va_up_self _ _ _
    refine lv_aload_n hx hb dJx4a65c_fastRemove_b59b0_34 rfl (lv_at hl 2 rfl) ?_
    refine lv_aload_n hx hb dJx4a65c_fastRemove_b59b0_35 rfl (lv_at hl 1 rfl) ?_
    refine lv_iload_n hx hb dJx4a65c_fastRemove_b59b0_36 rfl (lv_at hl 0 rfl) ?_
    refine lv_dup_x1 hx hb dJx4a65c_fastRemove_b59b0_37 rfl rfl ?_
    refine va_put (D := eD E) (ci := 0) (v := .int (ln - 1)) (ty := .int) (C := RJx4a65c) (T := TJx4a65c) (N := 3) hx hb hta lay_AL tyJx4a65c tyJx4a65c_ok nmJx4a65c hown hKE.1 hP hD hS 0 rfl rfl 2 (by decide) (hta _ tw_41) (fun _ h9 => h9) rfl (by decide +kernel) rfl rfl (Nat.le_of_ble_eq_true rfl) dJx4a65c_fastRemove_b59b0_38 (fun H locs hP hD hS => ?_)
    have hP : va_P (eD E) vwCl ([(la, .inr (0, [.int (mo + 1), .ref ad, .int (ln - 1)]))] ++ va_pl PL pf_234) H := hP
    have hD : va_D A ([(la, .inr (0, [.int (mo + 1), .ref ad, .int (ln - 1)]))] ++ va_pl PL pf_234) := hD
    refine lv_null hx hb dJx4a65c_fastRemove_b59b0_41 ?_
    obtain ⟨i_236, hi_236⟩ := va_pl_get (X := [(la, .inr (0, [.int (mo + 1), .ref ad, .int (ln - 1)]))]) (f := pf_234) hyz_230
    have gi_236 := hi_236
    rw [hf_235] at hi_236
    obtain ⟨hi_237, hw⟩ := hw
    have hDo := hD
    refine va_astqN hx hb hKE.1 hP hD hS i_236 2 hi_236 rfl hi_237 dJx4a65c_fastRemove_b59b0_42 (fun H locs hP hD hS => ?_)
    obtain ⟨hP, hD⟩ := pl_set hDo hyz_230 gi_236 hP hD
    obtain ⟨pf_238, epf_238⟩ : ∃ z : Nat → va_E, z = va_up pf_234 p0 (.inl (eC E 2, anz_230, .inr (.inr (.inr (.inr (va_up (va_cpy afz_230 afz_230 (p1 + 1).toNatClampNeg p1.toNatClampNeg ((ln - 1) - p1).toNatClampNeg) (ln - 1).toNatClampNeg none)))))) := ⟨_, rfl⟩
    have hw := hw pf_238 epf_238
    have hP : va_P (eD E) vwCl ([(la, .inr (0, [.int (mo + 1), .ref ad, .int (ln - 1)]))] ++ va_pl PL pf_238) H := by rw [epf_238]; exact hP
    have hD : va_D A ([(la, .inr (0, [.int (mo + 1), .ref ad, .int (ln - 1)]))] ++ va_pl PL pf_238) := by rw [epf_238]; exact hD
    have hf_239 : pf_238 p0 = (.inl (eC E 2, anz_230, .inr (.inr (.inr (.inr (va_up (va_cpy afz_230 afz_230 (p1 + 1).toNatClampNeg p1.toNatClampNeg ((ln - 1) - p1).toNatClampNeg) (ln - 1).toNatClampNeg none)))))) := by rw [epf_238]; exact va_up_self _ _ _
    have hP9 : va_P (eD E) vwCl (wL la (mo + 1) ad (ln - 1) PL pf_238) H := hP
    have hD9 : va_D A (wL la (mo + 1) ad (ln - 1) PL pf_238) := hD
    exact W.vret hx hb hr (fun t ht hW => ⟨⟨((mo + 1), ad, (ln - 1), PL, pf_238), rfl, hw, ⟨by rw [ht]; exact hP9, hD9⟩⟩, hS.F ht⟩) hS.2.2 dJx4a65c_fastRemove_b59b0_43
def wp_Jx4a65c_remove_915e3 (E : EV) (post : Option Nat → Int32 → Nat → Int32 → List Nat → (Nat → va_E) → Prop) (mo : Int32) (ad : Nat) (ln : Int32) (PL : List Nat) (pf : Nat → va_E) (p0 : Int32) : Prop := (wp_J15_checkIndex_7cf53 E (fun r_240 : Int32 => (∃ (anz_241 : Nat) (afz_241 : Nat → Option Nat), ad ∈ PL ∧ pf ad = .inl (eC E 2, anz_241, .inr (.inr (.inr (.inr afz_241)))) ∧ (vp_in p0 anz_241 ∧ (∀ o_244, o_244 = (afz_241 p0.toNatClampNeg) → ((o_244 = none → (wp_Jx4a65c_fastRemove_b59b0 E (fun (mo_247 : Int32) (ad_248 : Nat) (ln_249 : Int32) (PL_250 : List Nat) (pf_251 : Nat → va_E) => post none mo_247 ad_248 ln_249 PL_250 pf_251) mo ad ln PL pf ad p0)) ∧ (∀ y_245 : Nat, o_244 = some y_245 → (wp_Jx4a65c_fastRemove_b59b0 E (fun (mo_253 : Int32) (ad_254 : Nat) (ln_255 : Int32) (PL_256 : List Nat) (pf_257 : Nat → va_E) => post (some y_245) mo_253 ad_254 ln_255 PL_256 pf_257) mo ad ln PL pf ad p0))))))) p0 ln)
set_option maxHeartbeats 4000000 in
set_option maxRecDepth 100000 in
theorem c_Jx4a65c_remove_915e3 (E : EV) (l : Launch) (la : Nat) (mo : Int32) (ad : Nat) (ln : Int32) (PL : List Nat) (pf : Nat → va_E) (p0 : Int32) (hz : Nat) (post : Option Nat → Int32 → Nat → Int32 → List Nat → (Nat → va_E) → Prop) (hw : wp_Jx4a65c_remove_915e3 E post mo ad ln PL pf p0) : Met l yJx4a65c_remove_915e3 (Cond.code yJx4a65c_remove_915e3 cJx4a65c_remove_915e3 4 (some (.object "java/lang/Object")) :: ALLW) ({ frames := 2, cells := 0, slots := 0, locals := 43 } : Room) (va_Pc [.ref la, .int p0] (preM E (wL la mo ad ln PL pf) hz)) (va_Qq (fun (r : Option Nat) (u : Int32 × Nat × Int32 × List Nat × (Nat → va_E)) => post r u.1 u.2.1 u.2.2.1 u.2.2.2.1 u.2.2.2.2) (fun (u : Int32 × Nat × Int32 × List Nat × (Nat → va_E)) t => va_P (eD E) vwCl (wL la u.1 u.2.1 u.2.2.1 u.2.2.2.1 u.2.2.2.2) t.heap ∧ va_D (va_A (wL la mo ad ln PL pf) hz) (wL la u.1 u.2.1 u.2.2.1 u.2.2.2.1 u.2.2.2.2)) (va_A (wL la mo ad ln PL pf) hz)) 0 0 (va_A (wL la mo ad ln PL pf) hz) := by
  refine Met.ofW (cc := cJx4a65c_remove_915e3) (maxL := 4) (ret := (some (.object "java/lang/Object"))) (by decide) rfl ?_
  intro p e s m args below meth c s₁ B hml hv
  obtain ⟨rfl, hpre⟩ := hv
  have hx := B.exec
  have hb := B.bytes
  have hr := B.returns
  have hlocks := B.notSynchronized
  have hts := atoms_spec (ws := (Cond.code yJx4a65c_remove_915e3 cJx4a65c_remove_915e3 4 (some (.object "java/lang/Object")) :: ALLW)) B.pre
  have hta : ∀ w ∈ ALLW, w.before ([.ref la, .int p0] : List Value).toArray s = true := fun w h => hts w (List.mem_cons_of_mem _ h)
  have hown : s.vm.findClass RJx4a65c = some m.cls := findClass_of_methodNamed B.named
  obtain ⟨hsz, hP, hKE, hD0, hZ⟩ := hpre
  subst hsz
  have hD := hD0.self (sz := s.heap.size)
  generalize hAe : va_A (wL la mo ad ln PL pf) s.heap.size = A at hD hZ ⊢
  have hA : ∀ q : Nat, s.heap.size ≤ q → A q := fun q h => by rw [← hAe]; exact Or.inr h
  have hS : va_S A s.heap s.heap [] := va_S.rf
  have hP : va_P (eD E) vwCl ([(la, .inr (0, [.int mo, .ref ad, .int ln]))] ++ va_pl PL pf) s.heap := hP
  have hD : va_D A ([(la, .inr (0, [.int mo, .ref ad, .int ln]))] ++ va_pl PL pf) := hD
  have hl := lv_entry ([.ref la, .int p0]) (n := 4) (Nat.le_of_ble_eq_true rfl)
  rw [lg_entry_eq]
  generalize (lg_sl ([.ref la, .int p0]) ++ List.replicate (4 - (lg_sl ([.ref la, .int p0])).length) Slot.unset).toArray = ls at hl ⊢
  have hl : lv_has ls 4 [(0, .ref la), (1, .int p0)] := hl
  unfold wp_Jx4a65c_remove_915e3 at hw
  refine lv_iload_n hx hb dJx4a65c_remove_915e3_0 rfl (lv_at hl 1 rfl) ?_
  refine lv_aload_n hx hb dJx4a65c_remove_915e3_1 rfl (lv_at hl 0 rfl) ?_
  refine va_get (D := eD E) (ci := 0) (v := .int ln) (C := RJx4a65c) (T := TJx4a65c) (N := 3) hx hb hta lay_AL hown hKE.1 hP 0 rfl rfl 2 (by decide) (hta _ tw_41) (fun _ h9 => h9) rfl dJx4a65c_remove_915e3_2 ?_
  have hPc : va_P (eD E) vwCl [] s.heap := va_P_nil
  refine vp_callSi (va_Run.run (va_runS (As := [.int p0, .int ln]) (rest := []) ⟨hx, hb, hml, hown, hta⟩ (c_J15_checkIndex_7cf53 E l p0 ln _ hw) (pcS (n := 2) hta tw_435 tw_433 tw_6 tw_434 rfl rfl hd_J15_checkIndex_7cf53 ⟨Nat.le_of_ble_eq_true rfl, Nat.le_of_ble_eq_true rfl⟩) ⟨fbR, fun U hU hW => ⟨rfl, preR.mk hPc hKE hU hW⟩⟩ rfl rfl hl.1 rfl (lv_room (Nat.le_of_ble_eq_true rfl)) dJx4a65c_remove_915e3_5 ⟨Nat.le_of_ble_eq_true rfl, Nat.le_of_ble_eq_true rfl⟩)) (fun r_240 hw => ?_)
  refine lv_pop hx hb dJx4a65c_remove_915e3_8 rfl ?_
  refine lv_aload_n hx hb dJx4a65c_remove_915e3_9 rfl (lv_at hl 0 rfl) ?_
  refine va_get (D := eD E) (ci := 0) (v := .ref ad) (C := RJx4a65c) (T := TJx4a65c) (N := 3) hx hb hta lay_AL hown hKE.1 hP 0 rfl rfl 1 (by decide) (hta _ tw_40) (fun _ h9 => h9) rfl dJx4a65c_remove_915e3_10 ?_
  refine lv_astore_n (lv' := [(2, .ref ad), (0, .ref la), (1, .int p0)]) hx hb dJx4a65c_remove_915e3_13 rfl hl (by decide) rfl (fun ls hl => ?_)
  refine lv_aload_n hx hb dJx4a65c_remove_915e3_14 rfl (lv_at hl 0 rfl) ?_
  refine lv_iload_n hx hb dJx4a65c_remove_915e3_15 rfl (lv_at hl 2 rfl) ?_
  obtain ⟨anz_241, afz_241, hyz_241, hfz_241, hw⟩ := hw
  obtain ⟨i_242, hi_242⟩ := va_pl_get (X := [(la, .inr (0, [.int mo, .ref ad, .int ln]))]) (f := pf) hyz_241
  have gi_242 := hi_242
  rw [hfz_241] at hi_242
  obtain ⟨hi_243, hw⟩ := hw
  refine va_aldq hx hb hKE.1 hP i_242 2 hi_242 rfl hi_243 dJx4a65c_remove_915e3_16 ?_
  obtain ⟨o_244, eo_244⟩ : ∃ z, z = (afz_241 p0.toNatClampNeg) := ⟨_, rfl⟩
  rw [← eo_244]
  have hw := hw o_244 eo_244
  rcases o_244 with _ | y_245
  · have hw := hw.1 rfl
    refine lv_astore_nN (lv' := [(3, .null), (2, .ref ad), (0, .ref la), (1, .int p0)]) hx hb dJx4a65c_remove_915e3_17 rfl hl (by decide) rfl (fun ls hl => ?_)
    refine lv_aload_n hx hb dJx4a65c_remove_915e3_18 rfl (lv_at hl 2 rfl) ?_
    refine lv_aload_n hx hb dJx4a65c_remove_915e3_19 rfl (lv_at hl 1 rfl) ?_
    refine lv_iload_n hx hb dJx4a65c_remove_915e3_20 rfl (lv_at hl 3 rfl) ?_
    have hPc : va_P (eD E) vwCl (wL la mo ad ln PL pf) s.heap := hP
    have hDc : va_D A (wL la mo ad ln PL pf) := hD
    have hFc : ∀ q, va_A (wL la mo ad ln PL pf) s.heap.size q → A q := frS hDc hS hA
    refine va_callv (va_runV (As := [.ref ad, .int p0]) (rest := []) ⟨hx, hb, hml, hown, hta⟩ (c_Jx4a65c_fastRemove_b59b0 E l la mo ad ln PL pf ad p0 s.heap.size _ hw) (pcV (n := 2) hta tw_478 tw_475 tw_4 tw_477 tp_29 rfl rfl hd_Jx4a65c_fastRemove_b59b0 ⟨Nat.le_of_ble_eq_true rfl, Nat.le_of_ble_eq_true rfl⟩) ⟨fbM, va_recv hKE.1 hP (ci := 0) (q0 := 0) rfl rfl, fun U hU hW => ⟨rfl, preM.mk hPc hKE hDc hZ hS hFc hU hW⟩⟩ rfl rfl hl.1 rfl (lv_room (Nat.le_of_ble_eq_true rfl)) dJx4a65c_remove_915e3_21 ⟨Nat.le_of_ble_eq_true rfl, Nat.le_of_ble_eq_true rfl⟩) hS (fun q _ h => hFc q h) hFc (fun u t H locs ht hvm hw hB hz1 hk1 hS => ?_)
    obtain ⟨mo_247, ad_248, ln_249, PL_250, pf_251⟩ := u
    obtain ⟨hP1, hD1⟩ := hB
    rw [ht] at hP1
    try dsimp only at hw hP1 hD1
    have hP : va_P (eD E) vwCl ([(la, .inr (0, [.int mo_247, .ref ad_248, .int ln_249]))] ++ va_pl PL_250 pf_251) H := hP1
    have hD : va_D A ([(la, .inr (0, [.int mo_247, .ref ad_248, .int ln_249]))] ++ va_pl PL_250 pf_251) := hD1.weaken (fun _ q _ h => hFc q.1 h)
    refine lv_aload_nN hx hb dJx4a65c_remove_915e3_24 rfl (lv_at hl 0 rfl) ?_
    have hP9 : va_P (eD E) vwCl (wL la mo_247 ad_248 ln_249 PL_250 pf_251) H := hP
    have hD9 : va_D A (wL la mo_247 ad_248 ln_249 PL_250 pf_251) := hD
    exact W.aret (v := .null) hx hb hr (Or.inl ⟨_, rfl⟩) (Or.inl rfl) (fun t ht hW => ⟨⟨none, (mo_247, ad_248, ln_249, PL_250, pf_251), rfl, hw, ⟨by rw [ht]; exact hP9, hD9⟩⟩, hS.F ht⟩) hS.2.2 dJx4a65c_remove_915e3_25
  · have hw := hw.2 y_245 rfl
    refine lv_astore_n (lv' := [(3, .ref y_245), (2, .ref ad), (0, .ref la), (1, .int p0)]) hx hb dJx4a65c_remove_915e3_17 rfl hl (by decide) rfl (fun ls hl => ?_)
    refine lv_aload_n hx hb dJx4a65c_remove_915e3_18 rfl (lv_at hl 2 rfl) ?_
    refine lv_aload_n hx hb dJx4a65c_remove_915e3_19 rfl (lv_at hl 1 rfl) ?_
    refine lv_iload_n hx hb dJx4a65c_remove_915e3_20 rfl (lv_at hl 3 rfl) ?_
    have hPc : va_P (eD E) vwCl (wL la mo ad ln PL pf) s.heap := hP
    have hDc : va_D A (wL la mo ad ln PL pf) := hD
    have hFc : ∀ q, va_A (wL la mo ad ln PL pf) s.heap.size q → A q := frS hDc hS hA
    refine va_callv (va_runV (As := [.ref ad, .int p0]) (rest := []) ⟨hx, hb, hml, hown, hta⟩ (c_Jx4a65c_fastRemove_b59b0 E l la mo ad ln PL pf ad p0 s.heap.size _ hw) (pcV (n := 2) hta tw_478 tw_475 tw_4 tw_477 tp_29 rfl rfl hd_Jx4a65c_fastRemove_b59b0 ⟨Nat.le_of_ble_eq_true rfl, Nat.le_of_ble_eq_true rfl⟩) ⟨fbM, va_recv hKE.1 hP (ci := 0) (q0 := 0) rfl rfl, fun U hU hW => ⟨rfl, preM.mk hPc hKE hDc hZ hS hFc hU hW⟩⟩ rfl rfl hl.1 rfl (lv_room (Nat.le_of_ble_eq_true rfl)) dJx4a65c_remove_915e3_21 ⟨Nat.le_of_ble_eq_true rfl, Nat.le_of_ble_eq_true rfl⟩) hS (fun q _ h => hFc q h) hFc (fun u t H locs ht hvm hw hB hz1 hk1 hS => ?_)
    obtain ⟨mo_253, ad_254, ln_255, PL_256, pf_257⟩ := u
    obtain ⟨hP1, hD1⟩ := hB
    rw [ht] at hP1
    try dsimp only at hw hP1 hD1
    have hP : va_P (eD E) vwCl ([(la, .inr (0, [.int mo_253, .ref ad_254, .int ln_255]))] ++ va_pl PL_256 pf_257) H := hP1
    have hD : va_D A ([(la, .inr (0, [.int mo_253, .ref ad_254, .int ln_255]))] ++ va_pl PL_256 pf_257) := hD1.weaken (fun _ q _ h => hFc q.1 h)
    refine lv_aload_n hx hb dJx4a65c_remove_915e3_24 rfl (lv_at hl 0 rfl) ?_
    have hP9 : va_P (eD E) vwCl (wL la mo_253 ad_254 ln_255 PL_256 pf_257) H := hP
    have hD9 : va_D A (wL la mo_253 ad_254 ln_255 PL_256 pf_257) := hD
    exact W.aret (v := .ref y_245) hx hb hr (Or.inl ⟨_, rfl⟩) (Or.inr ⟨_, rfl⟩) (fun t ht hW => ⟨⟨(some y_245), (mo_253, ad_254, ln_255, PL_256, pf_257), rfl, hw, ⟨by rw [ht]; exact hP9, hD9⟩⟩, hS.F ht⟩) hS.2.2 dJx4a65c_remove_915e3_25
