def wp_X0_init (E : EV) (post : Int32 → Int32 → Int32 → Int32 → Prop) (ck : Int32) (cx : Int32) (cy : Int32) (cp : Int32) (p0 : Int32) (p1 : Int32) (p2 : Int32) (p3 : Int32) : Prop := post p0 p1 p2 p3
set_option maxHeartbeats 4000000 in
set_option maxRecDepth 100000 in
theorem c_X0_init (E : EV) (l : Launch) (ca : Nat) (ck : Int32) (cx : Int32) (cy : Int32) (cp : Int32) (p0 : Int32) (p1 : Int32) (p2 : Int32) (p3 : Int32) (hz : Nat) (post : Int32 → Int32 → Int32 → Int32 → Prop) (hw : wp_X0_init E post ck cx cy cp p0 p1 p2 p3) : Met l yX0_init (Cond.code yX0_init cX0_init 5 none :: ALLW) ({ frames := 1, cells := 0, slots := 0, locals := 12 } : Room) (va_Pc [.ref ca, .int p0, .int p1, .int p2, .int p3] (preM E (wC ca ck cx cy cp) hz)) (va_Qv (fun (u : Int32 × Int32 × Int32 × Int32) => post u.1 u.2.1 u.2.2.1 u.2.2.2) (fun (u : Int32 × Int32 × Int32 × Int32) t => va_P (eD E) vwCl (wC ca u.1 u.2.1 u.2.2.1 u.2.2.2) t.heap ∧ va_D (va_A (wC ca ck cx cy cp) hz) (wC ca u.1 u.2.1 u.2.2.1 u.2.2.2)) (va_A (wC ca ck cx cy cp) hz)) 0 0 (va_A (wC ca ck cx cy cp) hz) := by
  refine Met.ofW (cc := cX0_init) (maxL := 5) (ret := none) (by decide) rfl ?_
  intro p e s m args below meth c s₁ B hml hv
  obtain ⟨rfl, hpre⟩ := hv
  have hx := B.exec
  have hb := B.bytes
  have hr := B.returns
  have hlocks := B.notSynchronized
  have hts := atoms_spec (ws := (Cond.code yX0_init cX0_init 5 none :: ALLW)) B.pre
  have hta : ∀ w ∈ ALLW, w.before ([.ref ca, .int p0, .int p1, .int p2, .int p3] : List Value).toArray s = true := fun w h => hts w (List.mem_cons_of_mem _ h)
  have hown : s.vm.findClass RX0 = some m.cls := findClass_of_methodNamed B.named
  have hin : meth.name = "<init>" := (name_of_methodNamed B.named B.method).1
  obtain ⟨hsz, hP, hKE, hD0, hZ⟩ := hpre
  subst hsz
  have hD := hD0.self (sz := s.heap.size)
  generalize hAe : va_A (wC ca ck cx cy cp) s.heap.size = A at hD hZ ⊢
  have hA : ∀ q : Nat, s.heap.size ≤ q → A q := fun q h => by rw [← hAe]; exact Or.inr h
  have hS : va_S A s.heap s.heap [] := va_S.rf
  have hP : va_P (eD E) vwCl [(ca, .inr (1, [.int ck, .int cx, .int cy, .int cp]))] s.heap := hP
  have hD : va_D A [(ca, .inr (1, [.int ck, .int cx, .int cy, .int cp]))] := hD
  have hl := lv_entry ([.ref ca, .int p0, .int p1, .int p2, .int p3]) (n := 5) (Nat.le_of_ble_eq_true rfl)
  rw [lg_entry_eq]
  generalize (lg_sl ([.ref ca, .int p0, .int p1, .int p2, .int p3]) ++ List.replicate (5 - (lg_sl ([.ref ca, .int p0, .int p1, .int p2, .int p3])).length) Slot.unset).toArray = ls at hl ⊢
  have hl : lv_has ls 5 [(0, .ref ca), (1, .int p0), (2, .int p1), (3, .int p2), (4, .int p3)] := hl
  unfold wp_X0_init at hw
  refine lv_aload_n hx hb dX0_init_0 rfl (lv_at hl 0 rfl) ?_
  refine W.objInit hx hb hown (hta _ tw_429) (hta _ tw_25) (hta _ tw_26) rfl (by rw [hml]; exact hl.1) rfl dX0_init_1 (Nat.le_of_ble_eq_true rfl) (Nat.le_of_ble_eq_true rfl) ?_
  refine W.eq (g2 := F0 m 4 ls []) rfl ?_
  refine lv_aload_n hx hb dX0_init_4 rfl (lv_at hl 0 rfl) ?_
  refine lv_iload_n hx hb dX0_init_5 rfl (lv_at hl 1 rfl) ?_
  refine va_putF (D := eD E) (ci := 1) (v := .int p0) (ty := .int) (C := RX0) (T := TX0) (N := 4) hx hb hta lay_X0 tyX0 tyX0_ok nmX0 hown hKE.1 hP hD hS 0 rfl rfl 0 (by decide) (hta _ tw_430) (fun _ h9 => h9) rfl hin rfl (by decide +kernel) rfl rfl (Nat.le_of_ble_eq_true rfl) dX0_init_6 (fun H locs hP hD hS => ?_)
  have hP : va_P (eD E) vwCl [(ca, .inr (1, [.int p0, .int cx, .int cy, .int cp]))] H := hP
  have hD : va_D A [(ca, .inr (1, [.int p0, .int cx, .int cy, .int cp]))] := hD
  refine lv_aload_n hx hb dX0_init_9 rfl (lv_at hl 0 rfl) ?_
  refine lv_iload_n hx hb dX0_init_10 rfl (lv_at hl 2 rfl) ?_
  refine va_putF (D := eD E) (ci := 1) (v := .int p1) (ty := .int) (C := RX0) (T := TX0) (N := 4) hx hb hta lay_X0 tyX0 tyX0_ok nmX0 hown hKE.1 hP hD hS 0 rfl rfl 1 (by decide) (hta _ tw_432) (fun _ h9 => h9) rfl hin rfl (by decide +kernel) rfl rfl (Nat.le_of_ble_eq_true rfl) dX0_init_11 (fun H locs hP hD hS => ?_)
  have hP : va_P (eD E) vwCl [(ca, .inr (1, [.int p0, .int p1, .int cy, .int cp]))] H := hP
  have hD : va_D A [(ca, .inr (1, [.int p0, .int p1, .int cy, .int cp]))] := hD
  refine lv_aload_n hx hb dX0_init_14 rfl (lv_at hl 0 rfl) ?_
  refine lv_iload_n hx hb dX0_init_15 rfl (lv_at hl 3 rfl) ?_
  refine va_putF (D := eD E) (ci := 1) (v := .int p2) (ty := .int) (C := RX0) (T := TX0) (N := 4) hx hb hta lay_X0 tyX0 tyX0_ok nmX0 hown hKE.1 hP hD hS 0 rfl rfl 2 (by decide) (hta _ tw_434) (fun _ h9 => h9) rfl hin rfl (by decide +kernel) rfl rfl (Nat.le_of_ble_eq_true rfl) dX0_init_16 (fun H locs hP hD hS => ?_)
  have hP : va_P (eD E) vwCl [(ca, .inr (1, [.int p0, .int p1, .int p2, .int cp]))] H := hP
  have hD : va_D A [(ca, .inr (1, [.int p0, .int p1, .int p2, .int cp]))] := hD
  refine lv_aload_n hx hb dX0_init_19 rfl (lv_at hl 0 rfl) ?_
  refine lv_iload hx hb dX0_init_20 (lv_at hl 4 rfl) ?_
  refine va_putF (D := eD E) (ci := 1) (v := .int p3) (ty := .int) (C := RX0) (T := TX0) (N := 4) hx hb hta lay_X0 tyX0 tyX0_ok nmX0 hown hKE.1 hP hD hS 0 rfl rfl 3 (by decide) (hta _ tw_436) (fun _ h9 => h9) rfl hin rfl (by decide +kernel) rfl rfl (Nat.le_of_ble_eq_true rfl) dX0_init_22 (fun H locs hP hD hS => ?_)
  have hP : va_P (eD E) vwCl [(ca, .inr (1, [.int p0, .int p1, .int p2, .int p3]))] H := hP
  have hD : va_D A [(ca, .inr (1, [.int p0, .int p1, .int p2, .int p3]))] := hD
  have hP9 : va_P (eD E) vwCl (wC ca p0 p1 p2 p3) H := hP
  have hD9 : va_D A (wC ca p0 p1 p2 p3) := hD
  exact W.vret hx hb hr (fun t ht hW => ⟨⟨(p0, p1, p2, p3), rfl, hw, ⟨by rw [ht]; exact hP9, hD9⟩⟩, hS.F ht⟩) hS.2.2 dX0_init_25
def wp_X2_endCommand (E : EV) (post : (Nat → Int32) → Option Nat → Int32 → Nat → Int32 → List Nat → (Nat → va_E) → (Nat → Int64) → Int32 → (Nat → Int64) → Int32 → (Nat → Int32) → Prop) (gx : Nat → Int32) (lt : Option Nat) (mo : Int32) (ad : Nat) (ln : Int32) (PL : List Nat) (pf : Nat → va_E) (pw : Nat → Int64) (pk : Int32) (lw : Nat → Int64) (lk : Int32) (ik : Nat → Int32) (p0 : Int32) : Prop := (((gx 4) = 4 → (wp_X2_repeatLatest E (fun (gx_1038 : Nat → Int32) (lt_1039 : Option Nat) (mo_1040 : Int32) (ad_1041 : Nat) (ln_1042 : Int32) (PL_1043 : List Nat) (pf_1044 : Nat → va_E) (pw_1045 : Nat → Int64) (pk_1046 : Int32) (lw_1047 : Nat → Int64) (lk_1048 : Int32) (ik_1049 : Nat → Int32) => post gx_1038 lt_1039 mo_1040 ad_1041 ln_1042 PL_1043 pf_1044 pw_1045 pk_1046 lw_1047 lk_1048 ik_1049) gx lt mo ad ln PL pf pw pk lw lk ik p0)) ∧ (¬ (gx 4) = 4 → (((gx 4) = 3 → (∀ q_1011 : Nat, q_1011 ∉ PL → ∀ pf_1012 : Nat → va_E, pf_1012 = va_up pf q_1011 (.inr (1, [.int 0, .int 0, .int 0, .int 0])) → (wp_X0_init E (fun (ck_1018 : Int32) (cx_1019 : Int32) (cy_1020 : Int32) (cp_1021 : Int32) => (∀ pf_1022 : Nat → va_E, pf_1022 = va_up pf_1012 q_1011 (.inr (1, [.int ck_1018, .int cx_1019, .int cy_1020, .int cp_1021])) → (wp_X2_queueIfRight E (fun (r_1024 : Int32) (gx_1025 : Nat → Int32) (lt_1026 : Option Nat) (mo_1027 : Int32) (ad_1028 : Nat) (ln_1029 : Int32) (PL_1030 : List Nat) (pf_1031 : Nat → va_E) (pw_1032 : Nat → Int64) (pk_1033 : Int32) (lw_1034 : Nat → Int64) (lk_1035 : Int32) (ik_1036 : Nat → Int32) => post gx_1025 lt_1026 mo_1027 ad_1028 ln_1029 PL_1030 pf_1031 pw_1032 pk_1033 lw_1034 lk_1035 ik_1036) gx lt mo ad ln (PL ++ [q_1011]) pf_1022 pw pk lw lk ik q_1011))) 0 0 0 0 3 0 0 p0))) ∧ (¬ (gx 4) = 3 → (∀ q_983 : Nat, q_983 ∉ PL → ∀ pf_984 : Nat → va_E, pf_984 = va_up pf q_983 (.inr (1, [.int 0, .int 0, .int 0, .int 0])) → (wp_X2_signed E (fun r_988 : Int32 => (wp_X2_signed E (fun r_989 : Int32 => (wp_X0_init E (fun (ck_992 : Int32) (cx_993 : Int32) (cy_994 : Int32) (cp_995 : Int32) => (∀ pf_996 : Nat → va_E, pf_996 = va_up pf_984 q_983 (.inr (1, [.int ck_992, .int cx_993, .int cy_994, .int cp_995])) → (wp_X2_queueMotion E (fun (gx_999 : Nat → Int32) (lt_1000 : Option Nat) (mo_1001 : Int32) (ad_1002 : Nat) (ln_1003 : Int32) (PL_1004 : List Nat) (pf_1005 : Nat → va_E) (pw_1006 : Nat → Int64) (pk_1007 : Int32) (lw_1008 : Nat → Int64) (lk_1009 : Int32) (ik_1010 : Nat → Int32) => post gx_999 lt_1000 mo_1001 ad_1002 ln_1003 PL_1004 pf_1005 pw_1006 pk_1007 lw_1008 lk_1009 ik_1010) gx lt mo ad ln (PL ++ [q_983]) pf_996 pw pk lw lk ik q_983))) 0 0 0 0 (gx 4) r_988 r_989 0)) p0)) (gx 5)))))))
set_option maxHeartbeats 4000000 in
set_option maxRecDepth 100000 in
theorem c_X2_endCommand (E : EV) (l : Launch) (ax : Nat → Nat) (gx : Nat → Int32) (lt : Option Nat) (mo : Int32) (ad : Nat) (ln : Int32) (PL : List Nat) (pf : Nat → va_E) (pw : Nat → Int64) (pk : Int32) (lw : Nat → Int64) (lk : Int32) (ik : Nat → Int32) (p0 : Int32) (hz : Nat) (post : (Nat → Int32) → Option Nat → Int32 → Nat → Int32 → List Nat → (Nat → va_E) → (Nat → Int64) → Int32 → (Nat → Int64) → Int32 → (Nat → Int32) → Prop) (hw : wp_X2_endCommand E post gx lt mo ad ln PL pf pw pk lw lk ik p0) : Met l yX2_endCommand (Cond.code yX2_endCommand cX2_endCommand 2 none :: ALLW) ({ frames := 9, cells := 9, slots := 288, locals := 192 } : Room) (va_Pc [.ref (ax 0), .int p0] (preM E (wX E ax gx lt mo ad ln PL pf pw pk lw lk ik) hz)) (va_Qv (fun (u : (Nat → Int32) × Option Nat × Int32 × Nat × Int32 × List Nat × (Nat → va_E) × (Nat → Int64) × Int32 × (Nat → Int64) × Int32 × (Nat → Int32)) => post u.1 u.2.1 u.2.2.1 u.2.2.2.1 u.2.2.2.2.1 u.2.2.2.2.2.1 u.2.2.2.2.2.2.1 u.2.2.2.2.2.2.2.1 u.2.2.2.2.2.2.2.2.1 u.2.2.2.2.2.2.2.2.2.1 u.2.2.2.2.2.2.2.2.2.2.1 u.2.2.2.2.2.2.2.2.2.2.2) (fun (u : (Nat → Int32) × Option Nat × Int32 × Nat × Int32 × List Nat × (Nat → va_E) × (Nat → Int64) × Int32 × (Nat → Int64) × Int32 × (Nat → Int32)) t => va_P (eD E) vwCl (wX E ax u.1 u.2.1 u.2.2.1 u.2.2.2.1 u.2.2.2.2.1 u.2.2.2.2.2.1 u.2.2.2.2.2.2.1 u.2.2.2.2.2.2.2.1 u.2.2.2.2.2.2.2.2.1 u.2.2.2.2.2.2.2.2.2.1 u.2.2.2.2.2.2.2.2.2.2.1 u.2.2.2.2.2.2.2.2.2.2.2) t.heap ∧ va_D (va_A (wX E ax gx lt mo ad ln PL pf pw pk lw lk ik) hz) (wX E ax u.1 u.2.1 u.2.2.1 u.2.2.2.1 u.2.2.2.2.1 u.2.2.2.2.2.1 u.2.2.2.2.2.2.1 u.2.2.2.2.2.2.2.1 u.2.2.2.2.2.2.2.2.1 u.2.2.2.2.2.2.2.2.2.1 u.2.2.2.2.2.2.2.2.2.2.1 u.2.2.2.2.2.2.2.2.2.2.2)) (va_A (wX E ax gx lt mo ad ln PL pf pw pk lw lk ik) hz)) 9 288 (va_A (wX E ax gx lt mo ad ln PL pf pw pk lw lk ik) hz) := by
  refine Met.ofW (cc := cX2_endCommand) (maxL := 2) (ret := none) (by decide) rfl ?_
  intro p e s m args below meth c s₁ B hml hv
  obtain ⟨rfl, hpre⟩ := hv
  have hx := B.exec
  have hb := B.bytes
  have hr := B.returns
  have hlocks := B.notSynchronized
  have hts := atoms_spec (ws := (Cond.code yX2_endCommand cX2_endCommand 2 none :: ALLW)) B.pre
  have hta : ∀ w ∈ ALLW, w.before ([.ref (ax 0), .int p0] : List Value).toArray s = true := fun w h => hts w (List.mem_cons_of_mem _ h)
  have hown : s.vm.findClass RX2 = some m.cls := findClass_of_methodNamed B.named
  obtain ⟨hsz, hP, hKE, hD0, hZ⟩ := hpre
  subst hsz
  have hD := hD0.self (sz := s.heap.size)
  generalize hAe : va_A (wX E ax gx lt mo ad ln PL pf pw pk lw lk ik) s.heap.size = A at hD hZ ⊢
  have hA : ∀ q : Nat, s.heap.size ≤ q → A q := fun q h => by rw [← hAe]; exact Or.inr h
  have hS : va_S A s.heap s.heap [] := va_S.rf
  have hP : va_P (eD E) vwCl ([((ax 0), .inr (3, [.ref (ax 1), .ref (ax 2), .ref (ax 4), .ref (ax 6), .int (gx 4), .int (gx 5), .int (gx 6), .int (gx 7), va_rf lt, .int (gx 9), .int (gx 10), .int (gx 11), .int (gx 12), .int (gx 13), .int (gx 14), .int (gx 15), .int (gx 16), .int (gx 17), .int (gx 18)])), ((ax 1), .inr (0, [.int mo, .ref ad, .int ln])), ((ax 2), .inr (2, [.ref (ax 3), .int pk])), ((ax 3), .inl (eC E 1, 157, .inr (.inl pw))), ((ax 4), .inr (2, [.ref (ax 5), .int lk])), ((ax 5), .inl (eC E 1, 157, .inr (.inl lw))), ((ax 6), .inl (eC E 0, 3, .inl ik))] ++ va_pl PL pf) s.heap := hP
  have hD : va_D A ([((ax 0), .inr (3, [.ref (ax 1), .ref (ax 2), .ref (ax 4), .ref (ax 6), .int (gx 4), .int (gx 5), .int (gx 6), .int (gx 7), va_rf lt, .int (gx 9), .int (gx 10), .int (gx 11), .int (gx 12), .int (gx 13), .int (gx 14), .int (gx 15), .int (gx 16), .int (gx 17), .int (gx 18)])), ((ax 1), .inr (0, [.int mo, .ref ad, .int ln])), ((ax 2), .inr (2, [.ref (ax 3), .int pk])), ((ax 3), .inl (eC E 1, 157, .inr (.inl pw))), ((ax 4), .inr (2, [.ref (ax 5), .int lk])), ((ax 5), .inl (eC E 1, 157, .inr (.inl lw))), ((ax 6), .inl (eC E 0, 3, .inl ik))] ++ va_pl PL pf) := hD
  have hl := lv_entry ([.ref (ax 0), .int p0]) (n := 2) (Nat.le_of_ble_eq_true rfl)
  rw [lg_entry_eq]
  generalize (lg_sl ([.ref (ax 0), .int p0]) ++ List.replicate (2 - (lg_sl ([.ref (ax 0), .int p0])).length) Slot.unset).toArray = ls at hl ⊢
  have hl : lv_has ls 2 [(0, .ref (ax 0)), (1, .int p0)] := hl
  unfold wp_X2_endCommand at hw
  refine lv_aload_n hx hb dX2_endCommand_0 rfl (lv_at hl 0 rfl) ?_
  refine va_get (D := eD E) (ci := 3) (v := .int (gx 4)) (C := RX2) (T := TX2) (N := 19) hx hb hta lay_X2 hown hKE.1 hP 0 rfl rfl 4 (by decide) (hta _ tw_72) (fun _ h9 => h9) rfl dX2_endCommand_1 ?_
  refine lv_iconst (v := 4) hx hb dX2_endCommand_4 (by decide) ?_
  refine lv_icmp_ne (tgt := 16) hx hb dX2_endCommand_5 (by decide) (fun c_981 => ?_) (fun c_981 => ?_)
  · have hw := hw.2 c_981
    refine lv_aload_n hx hb dX2_endCommand_16 rfl (lv_at hl 0 rfl) ?_
    refine va_get (D := eD E) (ci := 3) (v := .int (gx 4)) (C := RX2) (T := TX2) (N := 19) hx hb hta lay_X2 hown hKE.1 hP 0 rfl rfl 4 (by decide) (hta _ tw_72) (fun _ h9 => h9) rfl dX2_endCommand_17 ?_
    refine lv_iconst (v := 3) hx hb dX2_endCommand_20 (by decide) ?_
    refine lv_icmp_ne (tgt := 43) hx hb dX2_endCommand_21 (by decide) (fun c_982 => ?_) (fun c_982 => ?_)
    · have hw := hw.2 c_982
      refine lv_aload_n hx hb dX2_endCommand_43 rfl (lv_at hl 0 rfl) ?_
      refine va_new (ci := 1) (fs := [.int 0, .int 0, .int 0, .int 0]) (C := RX0) (T := TX0) (N := 4) hx hb hta lay_X0 tyX0 tyX0_ok hown (hta _ tw_177) (hta _ tw_181) (hta _ tw_15) hKE.1 hP hD hS hA rfl (fun j hj => by rcases (show j = 0 ∨ j = 1 ∨ j = 2 ∨ j = 3 by omega) with rfl | rfl | rfl | rfl <;> rfl) (Nat.le_of_ble_eq_true rfl) (Nat.le_of_ble_eq_true rfl) dX2_endCommand_44 (fun q_983 H hP hD hS => ?_)
      refine W.widen (k := 1) (n := 4) (Nat.le_of_ble_eq_true rfl) (Nat.le_of_ble_eq_true rfl) ?_
      obtain ⟨hqk_985, hP, hD⟩ := pl_push hP hD
      obtain ⟨pf_984, epf_984⟩ : ∃ z : Nat → va_E, z = va_up pf q_983 (.inr (1, [.int 0, .int 0, .int 0, .int 0])) := ⟨_, rfl⟩
      have hw := hw q_983 hqk_985 pf_984 epf_984
      have hP : va_P (eD E) vwCl ([((ax 0), .inr (3, [.ref (ax 1), .ref (ax 2), .ref (ax 4), .ref (ax 6), .int (gx 4), .int (gx 5), .int (gx 6), .int (gx 7), va_rf lt, .int (gx 9), .int (gx 10), .int (gx 11), .int (gx 12), .int (gx 13), .int (gx 14), .int (gx 15), .int (gx 16), .int (gx 17), .int (gx 18)])), ((ax 1), .inr (0, [.int mo, .ref ad, .int ln])), ((ax 2), .inr (2, [.ref (ax 3), .int pk])), ((ax 3), .inl (eC E 1, 157, .inr (.inl pw))), ((ax 4), .inr (2, [.ref (ax 5), .int lk])), ((ax 5), .inl (eC E 1, 157, .inr (.inl lw))), ((ax 6), .inl (eC E 0, 3, .inl ik))] ++ va_pl (PL ++ [q_983]) pf_984) H := by rw [epf_984]; exact hP
      have hD : va_D A ([((ax 0), .inr (3, [.ref (ax 1), .ref (ax 2), .ref (ax 4), .ref (ax 6), .int (gx 4), .int (gx 5), .int (gx 6), .int (gx 7), va_rf lt, .int (gx 9), .int (gx 10), .int (gx 11), .int (gx 12), .int (gx 13), .int (gx 14), .int (gx 15), .int (gx 16), .int (gx 17), .int (gx 18)])), ((ax 1), .inr (0, [.int mo, .ref ad, .int ln])), ((ax 2), .inr (2, [.ref (ax 3), .int pk])), ((ax 3), .inl (eC E 1, 157, .inr (.inl pw))), ((ax 4), .inr (2, [.ref (ax 5), .int lk])), ((ax 5), .inl (eC E 1, 157, .inr (.inl lw))), ((ax 6), .inl (eC E 0, 3, .inl ik))] ++ va_pl (PL ++ [q_983]) pf_984) := by rw [epf_984]; exact hD
      have hf_986 : pf_984 q_983 = .inr (1, [.int 0, .int 0, .int 0, .int 0]) := by rw [epf_984]; exact va_up_self _ _ _
      have hy_987 : q_983 ∈ (PL ++ [q_983]) := List.mem_append_right _ List.mem_cons_self
      refine lv_dup hx hb dX2_endCommand_47 rfl ?_
      refine lv_aload_n hx hb dX2_endCommand_48 rfl (lv_at hl 0 rfl) ?_
      refine va_get (D := eD E) (ci := 3) (v := .int (gx 4)) (C := RX2) (T := TX2) (N := 19) hx hb hta lay_X2 hown hKE.1 hP 0 rfl rfl 4 (by decide) (hta _ tw_72) (fun _ h9 => h9) rfl dX2_endCommand_49 ?_
      refine lv_aload_n hx hb dX2_endCommand_52 rfl (lv_at hl 0 rfl) ?_
      refine va_get (D := eD E) (ci := 3) (v := .int (gx 5)) (C := RX2) (T := TX2) (N := 19) hx hb hta lay_X2 hown hKE.1 hP 0 rfl rfl 5 (by decide) (hta _ tw_73) (fun _ h9 => h9) rfl dX2_endCommand_53 ?_
      have hPc : va_P (eD E) vwCl [] H := va_P_nil
      refine vp_callSi (va_Run.run (va_runS (As := [.int (gx 5)]) (rest := [.int (gx 4), .ref q_983, .ref q_983, .ref (ax 0)]) ⟨hx, hb, hml, hown, hta⟩ (c_X2_signed E l (gx 5) _ hw) (pcS (n := 1) hta tw_449 tw_447 tw_1 tw_448 rfl rfl hd_X2_signed ⟨Nat.le_of_ble_eq_true rfl, Nat.le_of_ble_eq_true rfl⟩) ⟨fbR, fun U hU hW => ⟨rfl, preR.mk hPc hKE hU hW⟩⟩ rfl rfl hl.1 rfl (lv_room (Nat.le_of_ble_eq_true rfl)) dX2_endCommand_56 ⟨Nat.le_of_ble_eq_true rfl, Nat.le_of_ble_eq_true rfl⟩)) (fun r_988 hw => ?_)
      refine lv_iload_n hx hb dX2_endCommand_59 rfl (lv_at hl 1 rfl) ?_
      have hPc : va_P (eD E) vwCl [] H := va_P_nil
      refine vp_callSi (va_Run.run (va_runS (As := [.int p0]) (rest := [.int r_988, .int (gx 4), .ref q_983, .ref q_983, .ref (ax 0)]) ⟨hx, hb, hml, hown, hta⟩ (c_X2_signed E l p0 _ hw) (pcS (n := 1) hta tw_449 tw_447 tw_1 tw_448 rfl rfl hd_X2_signed ⟨Nat.le_of_ble_eq_true rfl, Nat.le_of_ble_eq_true rfl⟩) ⟨fbR, fun U hU hW => ⟨rfl, preR.mk hPc hKE hU hW⟩⟩ rfl rfl hl.1 rfl (lv_room (Nat.le_of_ble_eq_true rfl)) dX2_endCommand_60 ⟨Nat.le_of_ble_eq_true rfl, Nat.le_of_ble_eq_true rfl⟩)) (fun r_989 hw => ?_)
      refine lv_iconst (v := 0) hx hb dX2_endCommand_63 (by decide) ?_
      obtain ⟨i_990, hi_990⟩ := va_pl_get (X := [((ax 0), .inr (3, [.ref (ax 1), .ref (ax 2), .ref (ax 4), .ref (ax 6), .int (gx 4), .int (gx 5), .int (gx 6), .int (gx 7), va_rf lt, .int (gx 9), .int (gx 10), .int (gx 11), .int (gx 12), .int (gx 13), .int (gx 14), .int (gx 15), .int (gx 16), .int (gx 17), .int (gx 18)])), ((ax 1), .inr (0, [.int mo, .ref ad, .int ln])), ((ax 2), .inr (2, [.ref (ax 3), .int pk])), ((ax 3), .inl (eC E 1, 157, .inr (.inl pw))), ((ax 4), .inr (2, [.ref (ax 5), .int lk])), ((ax 5), .inl (eC E 1, 157, .inr (.inl lw))), ((ax 6), .inl (eC E 0, 3, .inl ik))]) (f := pf_984) hy_987
      rw [hf_986] at hi_990
      have hPc : va_P (eD E) vwCl [(q_983, .inr (1, [.int 0, .int 0, .int 0, .int 0]))] H := va_one hP hi_990
      have hDc : va_D A [(q_983, .inr (1, [.int 0, .int 0, .int 0, .int 0]))] := va_D_one hD hi_990
      have hFc : ∀ q, va_A [(q_983, .inr (1, [.int 0, .int 0, .int 0, .int 0]))] H.size q → A q := frP hD hS hA (va_in_one hi_990)
      refine va_callv (va_runIN (As := [.int (gx 4), .int r_988, .int r_989, .int 0]) (rest := [.ref q_983, .ref (ax 0)]) ⟨hx, hb, hml, hown, hta⟩ (c_X0_init E l q_983 0 0 0 0 (gx 4) r_988 r_989 0 H.size _ hw) (pcIN (n := 4) hta tw_428 (hKE.2.1 _ (List.mem_of_getElem? (i := 8) rfl)) tw_15 tw_427 rfl rfl rfl hd_X0_init ⟨Nat.le_of_ble_eq_true rfl, Nat.le_of_ble_eq_true rfl⟩) ⟨fbM, fun U hU hW => ⟨rfl, preM.mk hPc hKE hDc hZ hS hFc hU hW⟩⟩ rfl rfl hl.1 rfl (lv_room (Nat.le_of_ble_eq_true rfl)) dX2_endCommand_64 ⟨Nat.le_of_ble_eq_true rfl, Nat.le_of_ble_eq_true rfl⟩) hS (fun q _ h => hFc q h) hFc (fun u t H locs ht hvm hw hB hz1 hk1 hS => ?_)
      obtain ⟨ck_992, cx_993, cy_994, cp_995⟩ := u
      obtain ⟨hP1, hD1⟩ := hB
      rw [ht] at hP1
      try dsimp only at hw hP1 hD1
      obtain ⟨hP, hD⟩ := jnP hP hD hy_987 hf_986 hk1 hP1
      obtain ⟨pf_996, epf_996⟩ : ∃ z : Nat → va_E, z = va_up pf_984 q_983 (.inr (1, [.int ck_992, .int cx_993, .int cy_994, .int cp_995])) := ⟨_, rfl⟩
      have hw := hw pf_996 epf_996
      have hP : va_P (eD E) vwCl ([((ax 0), .inr (3, [.ref (ax 1), .ref (ax 2), .ref (ax 4), .ref (ax 6), .int (gx 4), .int (gx 5), .int (gx 6), .int (gx 7), va_rf lt, .int (gx 9), .int (gx 10), .int (gx 11), .int (gx 12), .int (gx 13), .int (gx 14), .int (gx 15), .int (gx 16), .int (gx 17), .int (gx 18)])), ((ax 1), .inr (0, [.int mo, .ref ad, .int ln])), ((ax 2), .inr (2, [.ref (ax 3), .int pk])), ((ax 3), .inl (eC E 1, 157, .inr (.inl pw))), ((ax 4), .inr (2, [.ref (ax 5), .int lk])), ((ax 5), .inl (eC E 1, 157, .inr (.inl lw))), ((ax 6), .inl (eC E 0, 3, .inl ik))] ++ va_pl (PL ++ [q_983]) pf_996) H := by rw [epf_996]; exact hP
      have hD : va_D A ([((ax 0), .inr (3, [.ref (ax 1), .ref (ax 2), .ref (ax 4), .ref (ax 6), .int (gx 4), .int (gx 5), .int (gx 6), .int (gx 7), va_rf lt, .int (gx 9), .int (gx 10), .int (gx 11), .int (gx 12), .int (gx 13), .int (gx 14), .int (gx 15), .int (gx 16), .int (gx 17), .int (gx 18)])), ((ax 1), .inr (0, [.int mo, .ref ad, .int ln])), ((ax 2), .inr (2, [.ref (ax 3), .int pk])), ((ax 3), .inl (eC E 1, 157, .inr (.inl pw))), ((ax 4), .inr (2, [.ref (ax 5), .int lk])), ((ax 5), .inl (eC E 1, 157, .inr (.inl lw))), ((ax 6), .inl (eC E 0, 3, .inl ik))] ++ va_pl (PL ++ [q_983]) pf_996) := by rw [epf_996]; exact hD
      have hf_997 : pf_996 q_983 = (.inr (1, [.int ck_992, .int cx_993, .int cy_994, .int cp_995])) := by rw [epf_996]; exact va_up_self _ _ _
      have hPc : va_P (eD E) vwCl (wX E ax gx lt mo ad ln (PL ++ [q_983]) pf_996 pw pk lw lk ik) H := hP
      have hDc : va_D A (wX E ax gx lt mo ad ln (PL ++ [q_983]) pf_996 pw pk lw lk ik) := hD
      have hFc : ∀ q, va_A (wX E ax gx lt mo ad ln (PL ++ [q_983]) pf_996 pw pk lw lk ik) H.size q → A q := frS hDc hS hA
      refine va_callv (va_runV (As := [.ref q_983]) (rest := []) ⟨hx, hb, hml, hown, hta⟩ (c_X2_queueMotion E l ax gx lt mo ad ln (PL ++ [q_983]) pf_996 pw pk lw lk ik q_983 H.size _ hw) (pcV (n := 1) hta tw_453 tw_450 tw_1 tw_452 tp_23 rfl rfl hd_X2_queueMotion ⟨Nat.le_of_ble_eq_true rfl, Nat.le_of_ble_eq_true rfl⟩) ⟨fbM, va_recv hKE.1 hP (ci := 3) (q0 := 0) rfl rfl, fun U hU hW => ⟨rfl, preM.mk hPc hKE hDc hZ hS hFc hU hW⟩⟩ rfl rfl hl.1 rfl (lv_room (Nat.le_of_ble_eq_true rfl)) dX2_endCommand_67 ⟨Nat.le_of_ble_eq_true rfl, Nat.le_of_ble_eq_true rfl⟩) hS (fun q _ h => hFc q h) hFc (fun u t H locs ht hvm hw hB hz1 hk1 hS => ?_)
      obtain ⟨gx_999, lt_1000, mo_1001, ad_1002, ln_1003, PL_1004, pf_1005, pw_1006, pk_1007, lw_1008, lk_1009, ik_1010⟩ := u
      obtain ⟨hP1, hD1⟩ := hB
      rw [ht] at hP1
      try dsimp only at hw hP1 hD1
      have hP : va_P (eD E) vwCl ([((ax 0), .inr (3, [.ref (ax 1), .ref (ax 2), .ref (ax 4), .ref (ax 6), .int (gx_999 4), .int (gx_999 5), .int (gx_999 6), .int (gx_999 7), va_rf lt_1000, .int (gx_999 9), .int (gx_999 10), .int (gx_999 11), .int (gx_999 12), .int (gx_999 13), .int (gx_999 14), .int (gx_999 15), .int (gx_999 16), .int (gx_999 17), .int (gx_999 18)])), ((ax 1), .inr (0, [.int mo_1001, .ref ad_1002, .int ln_1003])), ((ax 2), .inr (2, [.ref (ax 3), .int pk_1007])), ((ax 3), .inl (eC E 1, 157, .inr (.inl pw_1006))), ((ax 4), .inr (2, [.ref (ax 5), .int lk_1009])), ((ax 5), .inl (eC E 1, 157, .inr (.inl lw_1008))), ((ax 6), .inl (eC E 0, 3, .inl ik_1010))] ++ va_pl PL_1004 pf_1005) H := hP1
      have hD : va_D A ([((ax 0), .inr (3, [.ref (ax 1), .ref (ax 2), .ref (ax 4), .ref (ax 6), .int (gx_999 4), .int (gx_999 5), .int (gx_999 6), .int (gx_999 7), va_rf lt_1000, .int (gx_999 9), .int (gx_999 10), .int (gx_999 11), .int (gx_999 12), .int (gx_999 13), .int (gx_999 14), .int (gx_999 15), .int (gx_999 16), .int (gx_999 17), .int (gx_999 18)])), ((ax 1), .inr (0, [.int mo_1001, .ref ad_1002, .int ln_1003])), ((ax 2), .inr (2, [.ref (ax 3), .int pk_1007])), ((ax 3), .inl (eC E 1, 157, .inr (.inl pw_1006))), ((ax 4), .inr (2, [.ref (ax 5), .int lk_1009])), ((ax 5), .inl (eC E 1, 157, .inr (.inl lw_1008))), ((ax 6), .inl (eC E 0, 3, .inl ik_1010))] ++ va_pl PL_1004 pf_1005) := hD1.weaken (fun _ q _ h => hFc q.1 h)
      have hP9 : va_P (eD E) vwCl (wX E ax gx_999 lt_1000 mo_1001 ad_1002 ln_1003 PL_1004 pf_1005 pw_1006 pk_1007 lw_1008 lk_1009 ik_1010) H := hP
      have hD9 : va_D A (wX E ax gx_999 lt_1000 mo_1001 ad_1002 ln_1003 PL_1004 pf_1005 pw_1006 pk_1007 lw_1008 lk_1009 ik_1010) := hD
      refine W.widen (k := 9) (n := 288) (Nat.le_of_ble_eq_true rfl) (Nat.le_of_ble_eq_true rfl) ?_
      exact W.vret hx hb hr (fun t ht hW => ⟨⟨(gx_999, lt_1000, mo_1001, ad_1002, ln_1003, PL_1004, pf_1005, pw_1006, pk_1007, lw_1008, lk_1009, ik_1010), rfl, hw, ⟨by rw [ht]; exact hP9, hD9⟩⟩, hS.F ht⟩) hS.2.2 dX2_endCommand_70
    · have hw := hw.1 c_982
      refine lv_aload_n hx hb dX2_endCommand_24 rfl (lv_at hl 0 rfl) ?_
      refine va_new (ci := 1) (fs := [.int 0, .int 0, .int 0, .int 0]) (C := RX0) (T := TX0) (N := 4) hx hb hta lay_X0 tyX0 tyX0_ok hown (hta _ tw_177) (hta _ tw_181) (hta _ tw_15) hKE.1 hP hD hS hA rfl (fun j hj => by rcases (show j = 0 ∨ j = 1 ∨ j = 2 ∨ j = 3 by omega) with rfl | rfl | rfl | rfl <;> rfl) (Nat.le_of_ble_eq_true rfl) (Nat.le_of_ble_eq_true rfl) dX2_endCommand_25 (fun q_1011 H hP hD hS => ?_)
      refine W.widen (k := 1) (n := 4) (Nat.le_of_ble_eq_true rfl) (Nat.le_of_ble_eq_true rfl) ?_
      obtain ⟨hqk_1013, hP, hD⟩ := pl_push hP hD
      obtain ⟨pf_1012, epf_1012⟩ : ∃ z : Nat → va_E, z = va_up pf q_1011 (.inr (1, [.int 0, .int 0, .int 0, .int 0])) := ⟨_, rfl⟩
      have hw := hw q_1011 hqk_1013 pf_1012 epf_1012
      have hP : va_P (eD E) vwCl ([((ax 0), .inr (3, [.ref (ax 1), .ref (ax 2), .ref (ax 4), .ref (ax 6), .int (gx 4), .int (gx 5), .int (gx 6), .int (gx 7), va_rf lt, .int (gx 9), .int (gx 10), .int (gx 11), .int (gx 12), .int (gx 13), .int (gx 14), .int (gx 15), .int (gx 16), .int (gx 17), .int (gx 18)])), ((ax 1), .inr (0, [.int mo, .ref ad, .int ln])), ((ax 2), .inr (2, [.ref (ax 3), .int pk])), ((ax 3), .inl (eC E 1, 157, .inr (.inl pw))), ((ax 4), .inr (2, [.ref (ax 5), .int lk])), ((ax 5), .inl (eC E 1, 157, .inr (.inl lw))), ((ax 6), .inl (eC E 0, 3, .inl ik))] ++ va_pl (PL ++ [q_1011]) pf_1012) H := by rw [epf_1012]; exact hP
      have hD : va_D A ([((ax 0), .inr (3, [.ref (ax 1), .ref (ax 2), .ref (ax 4), .ref (ax 6), .int (gx 4), .int (gx 5), .int (gx 6), .int (gx 7), va_rf lt, .int (gx 9), .int (gx 10), .int (gx 11), .int (gx 12), .int (gx 13), .int (gx 14), .int (gx 15), .int (gx 16), .int (gx 17), .int (gx 18)])), ((ax 1), .inr (0, [.int mo, .ref ad, .int ln])), ((ax 2), .inr (2, [.ref (ax 3), .int pk])), ((ax 3), .inl (eC E 1, 157, .inr (.inl pw))), ((ax 4), .inr (2, [.ref (ax 5), .int lk])), ((ax 5), .inl (eC E 1, 157, .inr (.inl lw))), ((ax 6), .inl (eC E 0, 3, .inl ik))] ++ va_pl (PL ++ [q_1011]) pf_1012) := by rw [epf_1012]; exact hD
      have hf_1014 : pf_1012 q_1011 = .inr (1, [.int 0, .int 0, .int 0, .int 0]) := by rw [epf_1012]; exact va_up_self _ _ _
      have hy_1015 : q_1011 ∈ (PL ++ [q_1011]) := List.mem_append_right _ List.mem_cons_self
      refine lv_dup hx hb dX2_endCommand_28 rfl ?_
      refine lv_iconst (v := 3) hx hb dX2_endCommand_29 (by decide) ?_
      refine lv_iconst (v := 0) hx hb dX2_endCommand_30 (by decide) ?_
      refine lv_iconst (v := 0) hx hb dX2_endCommand_31 (by decide) ?_
      refine lv_iload_n hx hb dX2_endCommand_32 rfl (lv_at hl 1 rfl) ?_
      obtain ⟨i_1016, hi_1016⟩ := va_pl_get (X := [((ax 0), .inr (3, [.ref (ax 1), .ref (ax 2), .ref (ax 4), .ref (ax 6), .int (gx 4), .int (gx 5), .int (gx 6), .int (gx 7), va_rf lt, .int (gx 9), .int (gx 10), .int (gx 11), .int (gx 12), .int (gx 13), .int (gx 14), .int (gx 15), .int (gx 16), .int (gx 17), .int (gx 18)])), ((ax 1), .inr (0, [.int mo, .ref ad, .int ln])), ((ax 2), .inr (2, [.ref (ax 3), .int pk])), ((ax 3), .inl (eC E 1, 157, .inr (.inl pw))), ((ax 4), .inr (2, [.ref (ax 5), .int lk])), ((ax 5), .inl (eC E 1, 157, .inr (.inl lw))), ((ax 6), .inl (eC E 0, 3, .inl ik))]) (f := pf_1012) hy_1015
      rw [hf_1014] at hi_1016
      have hPc : va_P (eD E) vwCl [(q_1011, .inr (1, [.int 0, .int 0, .int 0, .int 0]))] H := va_one hP hi_1016
      have hDc : va_D A [(q_1011, .inr (1, [.int 0, .int 0, .int 0, .int 0]))] := va_D_one hD hi_1016
      have hFc : ∀ q, va_A [(q_1011, .inr (1, [.int 0, .int 0, .int 0, .int 0]))] H.size q → A q := frP hD hS hA (va_in_one hi_1016)
      refine va_callv (va_runIN (As := [.int 3, .int 0, .int 0, .int p0]) (rest := [.ref q_1011, .ref (ax 0)]) ⟨hx, hb, hml, hown, hta⟩ (c_X0_init E l q_1011 0 0 0 0 3 0 0 p0 H.size _ hw) (pcIN (n := 4) hta tw_428 (hKE.2.1 _ (List.mem_of_getElem? (i := 8) rfl)) tw_15 tw_427 rfl rfl rfl hd_X0_init ⟨Nat.le_of_ble_eq_true rfl, Nat.le_of_ble_eq_true rfl⟩) ⟨fbM, fun U hU hW => ⟨rfl, preM.mk hPc hKE hDc hZ hS hFc hU hW⟩⟩ rfl rfl hl.1 rfl (lv_room (Nat.le_of_ble_eq_true rfl)) dX2_endCommand_33 ⟨Nat.le_of_ble_eq_true rfl, Nat.le_of_ble_eq_true rfl⟩) hS (fun q _ h => hFc q h) hFc (fun u t H locs ht hvm hw hB hz1 hk1 hS => ?_)
      obtain ⟨ck_1018, cx_1019, cy_1020, cp_1021⟩ := u
      obtain ⟨hP1, hD1⟩ := hB
      rw [ht] at hP1
      try dsimp only at hw hP1 hD1
      obtain ⟨hP, hD⟩ := jnP hP hD hy_1015 hf_1014 hk1 hP1
      obtain ⟨pf_1022, epf_1022⟩ : ∃ z : Nat → va_E, z = va_up pf_1012 q_1011 (.inr (1, [.int ck_1018, .int cx_1019, .int cy_1020, .int cp_1021])) := ⟨_, rfl⟩
      have hw := hw pf_1022 epf_1022
      have hP : va_P (eD E) vwCl ([((ax 0), .inr (3, [.ref (ax 1), .ref (ax 2), .ref (ax 4), .ref (ax 6), .int (gx 4), .int (gx 5), .int (gx 6), .int (gx 7), va_rf lt, .int (gx 9), .int (gx 10), .int (gx 11), .int (gx 12), .int (gx 13), .int (gx 14), .int (gx 15), .int (gx 16), .int (gx 17), .int (gx 18)])), ((ax 1), .inr (0, [.int mo, .ref ad, .int ln])), ((ax 2), .inr (2, [.ref (ax 3), .int pk])), ((ax 3), .inl (eC E 1, 157, .inr (.inl pw))), ((ax 4), .inr (2, [.ref (ax 5), .int lk])), ((ax 5), .inl (eC E 1, 157, .inr (.inl lw))), ((ax 6), .inl (eC E 0, 3, .inl ik))] ++ va_pl (PL ++ [q_1011]) pf_1022) H := by rw [epf_1022]; exact hP
      have hD : va_D A ([((ax 0), .inr (3, [.ref (ax 1), .ref (ax 2), .ref (ax 4), .ref (ax 6), .int (gx 4), .int (gx 5), .int (gx 6), .int (gx 7), va_rf lt, .int (gx 9), .int (gx 10), .int (gx 11), .int (gx 12), .int (gx 13), .int (gx 14), .int (gx 15), .int (gx 16), .int (gx 17), .int (gx 18)])), ((ax 1), .inr (0, [.int mo, .ref ad, .int ln])), ((ax 2), .inr (2, [.ref (ax 3), .int pk])), ((ax 3), .inl (eC E 1, 157, .inr (.inl pw))), ((ax 4), .inr (2, [.ref (ax 5), .int lk])), ((ax 5), .inl (eC E 1, 157, .inr (.inl lw))), ((ax 6), .inl (eC E 0, 3, .inl ik))] ++ va_pl (PL ++ [q_1011]) pf_1022) := by rw [epf_1022]; exact hD
      have hf_1023 : pf_1022 q_1011 = (.inr (1, [.int ck_1018, .int cx_1019, .int cy_1020, .int cp_1021])) := by rw [epf_1022]; exact va_up_self _ _ _
      have hPc : va_P (eD E) vwCl (wX E ax gx lt mo ad ln (PL ++ [q_1011]) pf_1022 pw pk lw lk ik) H := hP
      have hDc : va_D A (wX E ax gx lt mo ad ln (PL ++ [q_1011]) pf_1022 pw pk lw lk ik) := hD
      have hFc : ∀ q, va_A (wX E ax gx lt mo ad ln (PL ++ [q_1011]) pf_1022 pw pk lw lk ik) H.size q → A q := frS hDc hS hA
      refine va_calli (va_runV (As := [.ref q_1011]) (rest := []) ⟨hx, hb, hml, hown, hta⟩ (c_X2_queueIfRight E l ax gx lt mo ad ln (PL ++ [q_1011]) pf_1022 pw pk lw lk ik q_1011 H.size _ hw) (pcV (n := 1) hta tw_344 tw_341 tw_1 tw_343 tp_15 rfl rfl hd_X2_queueIfRight ⟨Nat.le_of_ble_eq_true rfl, Nat.le_of_ble_eq_true rfl⟩) ⟨fbM, va_recv hKE.1 hP (ci := 3) (q0 := 0) rfl rfl, fun U hU hW => ⟨rfl, preM.mk hPc hKE hDc hZ hS hFc hU hW⟩⟩ rfl rfl hl.1 rfl (lv_room (Nat.le_of_ble_eq_true rfl)) dX2_endCommand_36 ⟨Nat.le_of_ble_eq_true rfl, Nat.le_of_ble_eq_true rfl⟩) hS (fun q _ h => hFc q h) hFc (fun r_1024 u t H locs ht hvm hw hB hz1 hk1 hS => ?_)
      obtain ⟨gx_1025, lt_1026, mo_1027, ad_1028, ln_1029, PL_1030, pf_1031, pw_1032, pk_1033, lw_1034, lk_1035, ik_1036⟩ := u
      obtain ⟨hP1, hD1⟩ := hB
      rw [ht] at hP1
      try dsimp only at hw hP1 hD1
      have hP : va_P (eD E) vwCl ([((ax 0), .inr (3, [.ref (ax 1), .ref (ax 2), .ref (ax 4), .ref (ax 6), .int (gx_1025 4), .int (gx_1025 5), .int (gx_1025 6), .int (gx_1025 7), va_rf lt_1026, .int (gx_1025 9), .int (gx_1025 10), .int (gx_1025 11), .int (gx_1025 12), .int (gx_1025 13), .int (gx_1025 14), .int (gx_1025 15), .int (gx_1025 16), .int (gx_1025 17), .int (gx_1025 18)])), ((ax 1), .inr (0, [.int mo_1027, .ref ad_1028, .int ln_1029])), ((ax 2), .inr (2, [.ref (ax 3), .int pk_1033])), ((ax 3), .inl (eC E 1, 157, .inr (.inl pw_1032))), ((ax 4), .inr (2, [.ref (ax 5), .int lk_1035])), ((ax 5), .inl (eC E 1, 157, .inr (.inl lw_1034))), ((ax 6), .inl (eC E 0, 3, .inl ik_1036))] ++ va_pl PL_1030 pf_1031) H := hP1
      have hD : va_D A ([((ax 0), .inr (3, [.ref (ax 1), .ref (ax 2), .ref (ax 4), .ref (ax 6), .int (gx_1025 4), .int (gx_1025 5), .int (gx_1025 6), .int (gx_1025 7), va_rf lt_1026, .int (gx_1025 9), .int (gx_1025 10), .int (gx_1025 11), .int (gx_1025 12), .int (gx_1025 13), .int (gx_1025 14), .int (gx_1025 15), .int (gx_1025 16), .int (gx_1025 17), .int (gx_1025 18)])), ((ax 1), .inr (0, [.int mo_1027, .ref ad_1028, .int ln_1029])), ((ax 2), .inr (2, [.ref (ax 3), .int pk_1033])), ((ax 3), .inl (eC E 1, 157, .inr (.inl pw_1032))), ((ax 4), .inr (2, [.ref (ax 5), .int lk_1035])), ((ax 5), .inl (eC E 1, 157, .inr (.inl lw_1034))), ((ax 6), .inl (eC E 0, 3, .inl ik_1036))] ++ va_pl PL_1030 pf_1031) := hD1.weaken (fun _ q _ h => hFc q.1 h)
      refine lv_pop hx hb dX2_endCommand_39 rfl ?_
      refine lv_goto (tgt := 70) hx hb dX2_endCommand_40 (by decide) ?_
      have hP9 : va_P (eD E) vwCl (wX E ax gx_1025 lt_1026 mo_1027 ad_1028 ln_1029 PL_1030 pf_1031 pw_1032 pk_1033 lw_1034 lk_1035 ik_1036) H := hP
      have hD9 : va_D A (wX E ax gx_1025 lt_1026 mo_1027 ad_1028 ln_1029 PL_1030 pf_1031 pw_1032 pk_1033 lw_1034 lk_1035 ik_1036) := hD
      refine W.widen (k := 9) (n := 288) (Nat.le_of_ble_eq_true rfl) (Nat.le_of_ble_eq_true rfl) ?_
      exact W.vret hx hb hr (fun t ht hW => ⟨⟨(gx_1025, lt_1026, mo_1027, ad_1028, ln_1029, PL_1030, pf_1031, pw_1032, pk_1033, lw_1034, lk_1035, ik_1036), rfl, hw, ⟨by rw [ht]; exact hP9, hD9⟩⟩, hS.F ht⟩) hS.2.2 dX2_endCommand_70
  · have hw := hw.1 c_981
    refine lv_aload_n hx hb dX2_endCommand_8 rfl (lv_at hl 0 rfl) ?_
    refine lv_iload_n hx hb dX2_endCommand_9 rfl (lv_at hl 1 rfl) ?_
    have hPc : va_P (eD E) vwCl (wX E ax gx lt mo ad ln PL pf pw pk lw lk ik) s.heap := hP
    have hDc : va_D A (wX E ax gx lt mo ad ln PL pf pw pk lw lk ik) := hD
    have hFc : ∀ q, va_A (wX E ax gx lt mo ad ln PL pf pw pk lw lk ik) s.heap.size q → A q := frS hDc hS hA
    refine va_callv (va_runV (As := [.int p0]) (rest := []) ⟨hx, hb, hml, hown, hta⟩ (c_X2_repeatLatest E l ax gx lt mo ad ln PL pf pw pk lw lk ik p0 s.heap.size _ hw) (pcV (n := 1) hta tw_340 tw_337 tw_1 tw_339 tp_14 rfl rfl hd_X2_repeatLatest ⟨Nat.le_of_ble_eq_true rfl, Nat.le_of_ble_eq_true rfl⟩) ⟨fbM, va_recv hKE.1 hP (ci := 3) (q0 := 0) rfl rfl, fun U hU hW => ⟨rfl, preM.mk hPc hKE hDc hZ hS hFc hU hW⟩⟩ rfl rfl hl.1 rfl (lv_room (Nat.le_of_ble_eq_true rfl)) dX2_endCommand_10 ⟨Nat.le_of_ble_eq_true rfl, Nat.le_of_ble_eq_true rfl⟩) hS (fun q _ h => hFc q h) hFc (fun u t H locs ht hvm hw hB hz1 hk1 hS => ?_)
    obtain ⟨gx_1038, lt_1039, mo_1040, ad_1041, ln_1042, PL_1043, pf_1044, pw_1045, pk_1046, lw_1047, lk_1048, ik_1049⟩ := u
    obtain ⟨hP1, hD1⟩ := hB
    rw [ht] at hP1
    try dsimp only at hw hP1 hD1
    have hP : va_P (eD E) vwCl ([((ax 0), .inr (3, [.ref (ax 1), .ref (ax 2), .ref (ax 4), .ref (ax 6), .int (gx_1038 4), .int (gx_1038 5), .int (gx_1038 6), .int (gx_1038 7), va_rf lt_1039, .int (gx_1038 9), .int (gx_1038 10), .int (gx_1038 11), .int (gx_1038 12), .int (gx_1038 13), .int (gx_1038 14), .int (gx_1038 15), .int (gx_1038 16), .int (gx_1038 17), .int (gx_1038 18)])), ((ax 1), .inr (0, [.int mo_1040, .ref ad_1041, .int ln_1042])), ((ax 2), .inr (2, [.ref (ax 3), .int pk_1046])), ((ax 3), .inl (eC E 1, 157, .inr (.inl pw_1045))), ((ax 4), .inr (2, [.ref (ax 5), .int lk_1048])), ((ax 5), .inl (eC E 1, 157, .inr (.inl lw_1047))), ((ax 6), .inl (eC E 0, 3, .inl ik_1049))] ++ va_pl PL_1043 pf_1044) H := hP1
    have hD : va_D A ([((ax 0), .inr (3, [.ref (ax 1), .ref (ax 2), .ref (ax 4), .ref (ax 6), .int (gx_1038 4), .int (gx_1038 5), .int (gx_1038 6), .int (gx_1038 7), va_rf lt_1039, .int (gx_1038 9), .int (gx_1038 10), .int (gx_1038 11), .int (gx_1038 12), .int (gx_1038 13), .int (gx_1038 14), .int (gx_1038 15), .int (gx_1038 16), .int (gx_1038 17), .int (gx_1038 18)])), ((ax 1), .inr (0, [.int mo_1040, .ref ad_1041, .int ln_1042])), ((ax 2), .inr (2, [.ref (ax 3), .int pk_1046])), ((ax 3), .inl (eC E 1, 157, .inr (.inl pw_1045))), ((ax 4), .inr (2, [.ref (ax 5), .int lk_1048])), ((ax 5), .inl (eC E 1, 157, .inr (.inl lw_1047))), ((ax 6), .inl (eC E 0, 3, .inl ik_1049))] ++ va_pl PL_1043 pf_1044) := hD1.weaken (fun _ q _ h => hFc q.1 h)
    refine lv_goto (tgt := 70) hx hb dX2_endCommand_13 (by decide) ?_
    have hP9 : va_P (eD E) vwCl (wX E ax gx_1038 lt_1039 mo_1040 ad_1041 ln_1042 PL_1043 pf_1044 pw_1045 pk_1046 lw_1047 lk_1048 ik_1049) H := hP
    have hD9 : va_D A (wX E ax gx_1038 lt_1039 mo_1040 ad_1041 ln_1042 PL_1043 pf_1044 pw_1045 pk_1046 lw_1047 lk_1048 ik_1049) := hD
    exact W.vret hx hb hr (fun t ht hW => ⟨⟨(gx_1038, lt_1039, mo_1040, ad_1041, ln_1042, PL_1043, pf_1044, pw_1045, pk_1046, lw_1047, lk_1048, ik_1049), rfl, hw, ⟨by rw [ht]; exact hP9, hD9⟩⟩, hS.F ht⟩) hS.2.2 dX2_endCommand_70
def wp_X2_takeByte (E : EV) (post : (Nat → Int32) → Option Nat → Int32 → Nat → Int32 → List Nat → (Nat → va_E) → (Nat → Int64) → Int32 → (Nat → Int64) → Int32 → (Nat → Int32) → Prop) (gx : Nat → Int32) (lt : Option Nat) (mo : Int32) (ad : Nat) (ln : Int32) (PL : List Nat) (pf : Nat → va_E) (pw : Nat → Int64) (pk : Int32) (lw : Nat → Int64) (lk : Int32) (ik : Nat → Int32) (p0 : Int32) : Prop := (((gx 6) = 0 → (wp_X2_beginCommand E (fun (gx_1081 : Nat → Int32) (lt_1082 : Option Nat) (mo_1083 : Int32) (ad_1084 : Nat) (ln_1085 : Int32) (PL_1086 : List Nat) (pf_1087 : Nat → va_E) (pw_1088 : Nat → Int64) (pk_1089 : Int32) (lw_1090 : Nat → Int64) (lk_1091 : Int32) (ik_1092 : Nat → Int32) => post gx_1081 lt_1082 mo_1083 ad_1084 ln_1085 PL_1086 pf_1087 pw_1088 pk_1089 lw_1090 lk_1091 ik_1092) gx lt mo ad ln PL pf pw pk lw lk ik p0)) ∧ (¬ (gx 6) = 0 → (((gx 6) = 1 → (((gx 4) = 1 → post (upd (upd gx 5 p0) 6 2) lt mo ad ln PL pf pw pk lw lk ik) ∧ (¬ (gx 4) = 1 → (((gx 4) = 2 → post (upd (upd gx 5 p0) 6 2) lt mo ad ln PL pf pw pk lw lk ik) ∧ (¬ (gx 4) = 2 → (wp_X2_endCommand E (fun (gx_1068 : Nat → Int32) (lt_1069 : Option Nat) (mo_1070 : Int32) (ad_1071 : Nat) (ln_1072 : Int32) (PL_1073 : List Nat) (pf_1074 : Nat → va_E) (pw_1075 : Nat → Int64) (pk_1076 : Int32) (lw_1077 : Nat → Int64) (lk_1078 : Int32) (ik_1079 : Nat → Int32) => post gx_1068 lt_1069 mo_1070 ad_1071 ln_1072 PL_1073 pf_1074 pw_1075 pk_1076 lw_1077 lk_1078 ik_1079) (upd gx 6 0) lt mo ad ln PL pf pw pk lw lk ik p0)))))) ∧ (¬ (gx 6) = 1 → (wp_X2_endCommand E (fun (gx_1053 : Nat → Int32) (lt_1054 : Option Nat) (mo_1055 : Int32) (ad_1056 : Nat) (ln_1057 : Int32) (PL_1058 : List Nat) (pf_1059 : Nat → va_E) (pw_1060 : Nat → Int64) (pk_1061 : Int32) (lw_1062 : Nat → Int64) (lk_1063 : Int32) (ik_1064 : Nat → Int32) => post gx_1053 lt_1054 mo_1055 ad_1056 ln_1057 PL_1058 pf_1059 pw_1060 pk_1061 lw_1062 lk_1063 ik_1064) (upd gx 6 0) lt mo ad ln PL pf pw pk lw lk ik p0)))))
set_option maxHeartbeats 4000000 in
set_option maxRecDepth 100000 in
theorem c_X2_takeByte (E : EV) (l : Launch) (ax : Nat → Nat) (gx : Nat → Int32) (lt : Option Nat) (mo : Int32) (ad : Nat) (ln : Int32) (PL : List Nat) (pf : Nat → va_E) (pw : Nat → Int64) (pk : Int32) (lw : Nat → Int64) (lk : Int32) (ik : Nat → Int32) (p0 : Int32) (hz : Nat) (post : (Nat → Int32) → Option Nat → Int32 → Nat → Int32 → List Nat → (Nat → va_E) → (Nat → Int64) → Int32 → (Nat → Int64) → Int32 → (Nat → Int32) → Prop) (hw : wp_X2_takeByte E post gx lt mo ad ln PL pf pw pk lw lk ik p0) : Met l yX2_takeByte (Cond.code yX2_takeByte cX2_takeByte 2 none :: ALLW) ({ frames := 10, cells := 9, slots := 288, locals := 213 } : Room) (va_Pc [.ref (ax 0), .int p0] (preM E (wX E ax gx lt mo ad ln PL pf pw pk lw lk ik) hz)) (va_Qv (fun (u : (Nat → Int32) × Option Nat × Int32 × Nat × Int32 × List Nat × (Nat → va_E) × (Nat → Int64) × Int32 × (Nat → Int64) × Int32 × (Nat → Int32)) => post u.1 u.2.1 u.2.2.1 u.2.2.2.1 u.2.2.2.2.1 u.2.2.2.2.2.1 u.2.2.2.2.2.2.1 u.2.2.2.2.2.2.2.1 u.2.2.2.2.2.2.2.2.1 u.2.2.2.2.2.2.2.2.2.1 u.2.2.2.2.2.2.2.2.2.2.1 u.2.2.2.2.2.2.2.2.2.2.2) (fun (u : (Nat → Int32) × Option Nat × Int32 × Nat × Int32 × List Nat × (Nat → va_E) × (Nat → Int64) × Int32 × (Nat → Int64) × Int32 × (Nat → Int32)) t => va_P (eD E) vwCl (wX E ax u.1 u.2.1 u.2.2.1 u.2.2.2.1 u.2.2.2.2.1 u.2.2.2.2.2.1 u.2.2.2.2.2.2.1 u.2.2.2.2.2.2.2.1 u.2.2.2.2.2.2.2.2.1 u.2.2.2.2.2.2.2.2.2.1 u.2.2.2.2.2.2.2.2.2.2.1 u.2.2.2.2.2.2.2.2.2.2.2) t.heap ∧ va_D (va_A (wX E ax gx lt mo ad ln PL pf pw pk lw lk ik) hz) (wX E ax u.1 u.2.1 u.2.2.1 u.2.2.2.1 u.2.2.2.2.1 u.2.2.2.2.2.1 u.2.2.2.2.2.2.1 u.2.2.2.2.2.2.2.1 u.2.2.2.2.2.2.2.2.1 u.2.2.2.2.2.2.2.2.2.1 u.2.2.2.2.2.2.2.2.2.2.1 u.2.2.2.2.2.2.2.2.2.2.2)) (va_A (wX E ax gx lt mo ad ln PL pf pw pk lw lk ik) hz)) 9 288 (va_A (wX E ax gx lt mo ad ln PL pf pw pk lw lk ik) hz) := by
  refine Met.ofW (cc := cX2_takeByte) (maxL := 2) (ret := none) (by decide) rfl ?_
  intro p e s m args below meth c s₁ B hml hv
  obtain ⟨rfl, hpre⟩ := hv
  have hx := B.exec
  have hb := B.bytes
  have hr := B.returns
  have hlocks := B.notSynchronized
  have hts := atoms_spec (ws := (Cond.code yX2_takeByte cX2_takeByte 2 none :: ALLW)) B.pre
  have hta : ∀ w ∈ ALLW, w.before ([.ref (ax 0), .int p0] : List Value).toArray s = true := fun w h => hts w (List.mem_cons_of_mem _ h)
  have hown : s.vm.findClass RX2 = some m.cls := findClass_of_methodNamed B.named
  obtain ⟨hsz, hP, hKE, hD0, hZ⟩ := hpre
  subst hsz
  have hD := hD0.self (sz := s.heap.size)
  generalize hAe : va_A (wX E ax gx lt mo ad ln PL pf pw pk lw lk ik) s.heap.size = A at hD hZ ⊢
  have hA : ∀ q : Nat, s.heap.size ≤ q → A q := fun q h => by rw [← hAe]; exact Or.inr h
  have hS : va_S A s.heap s.heap [] := va_S.rf
  have hP : va_P (eD E) vwCl ([((ax 0), .inr (3, [.ref (ax 1), .ref (ax 2), .ref (ax 4), .ref (ax 6), .int (gx 4), .int (gx 5), .int (gx 6), .int (gx 7), va_rf lt, .int (gx 9), .int (gx 10), .int (gx 11), .int (gx 12), .int (gx 13), .int (gx 14), .int (gx 15), .int (gx 16), .int (gx 17), .int (gx 18)])), ((ax 1), .inr (0, [.int mo, .ref ad, .int ln])), ((ax 2), .inr (2, [.ref (ax 3), .int pk])), ((ax 3), .inl (eC E 1, 157, .inr (.inl pw))), ((ax 4), .inr (2, [.ref (ax 5), .int lk])), ((ax 5), .inl (eC E 1, 157, .inr (.inl lw))), ((ax 6), .inl (eC E 0, 3, .inl ik))] ++ va_pl PL pf) s.heap := hP
  have hD : va_D A ([((ax 0), .inr (3, [.ref (ax 1), .ref (ax 2), .ref (ax 4), .ref (ax 6), .int (gx 4), .int (gx 5), .int (gx 6), .int (gx 7), va_rf lt, .int (gx 9), .int (gx 10), .int (gx 11), .int (gx 12), .int (gx 13), .int (gx 14), .int (gx 15), .int (gx 16), .int (gx 17), .int (gx 18)])), ((ax 1), .inr (0, [.int mo, .ref ad, .int ln])), ((ax 2), .inr (2, [.ref (ax 3), .int pk])), ((ax 3), .inl (eC E 1, 157, .inr (.inl pw))), ((ax 4), .inr (2, [.ref (ax 5), .int lk])), ((ax 5), .inl (eC E 1, 157, .inr (.inl lw))), ((ax 6), .inl (eC E 0, 3, .inl ik))] ++ va_pl PL pf) := hD
  have hl := lv_entry ([.ref (ax 0), .int p0]) (n := 2) (Nat.le_of_ble_eq_true rfl)
  rw [lg_entry_eq]
  generalize (lg_sl ([.ref (ax 0), .int p0]) ++ List.replicate (2 - (lg_sl ([.ref (ax 0), .int p0])).length) Slot.unset).toArray = ls at hl ⊢
  have hl : lv_has ls 2 [(0, .ref (ax 0)), (1, .int p0)] := hl
  unfold wp_X2_takeByte at hw
  refine lv_aload_n hx hb dX2_takeByte_0 rfl (lv_at hl 0 rfl) ?_
  refine va_get (D := eD E) (ci := 3) (v := .int (gx 6)) (C := RX2) (T := TX2) (N := 19) hx hb hta lay_X2 hown hKE.1 hP 0 rfl rfl 6 (by decide) (hta _ tw_74) (fun _ h9 => h9) rfl dX2_takeByte_1 ?_
  refine lv_if_ne (tgt := 15) hx hb dX2_takeByte_4 (by decide) (fun c_1050 => ?_) (fun c_1050 => ?_)
  · have hw := hw.2 c_1050
    refine lv_aload_n hx hb dX2_takeByte_15 rfl (lv_at hl 0 rfl) ?_
    refine va_get (D := eD E) (ci := 3) (v := .int (gx 6)) (C := RX2) (T := TX2) (N := 19) hx hb hta lay_X2 hown hKE.1 hP 0 rfl rfl 6 (by decide) (hta _ tw_74) (fun _ h9 => h9) rfl dX2_takeByte_16 ?_
    refine lv_iconst (v := 1) hx hb dX2_takeByte_19 (by decide) ?_
    refine lv_icmp_ne (tgt := 52) hx hb dX2_takeByte_20 (by decide) (fun c_1051 => ?_) (fun c_1051 => ?_)
    · have hw := hw.2 c_1051
      refine lv_aload_n hx hb dX2_takeByte_52 rfl (lv_at hl 0 rfl) ?_
      refine lv_iconst (v := 0) hx hb dX2_takeByte_53 (by decide) ?_
      refine va_put (D := eD E) (ci := 3) (v := .int 0) (ty := .int) (C := RX2) (T := TX2) (N := 19) hx hb hta lay_X2 tyX2 tyX2_ok nmX2 hown hKE.1 hP hD hS 0 rfl rfl 6 (by decide) (hta _ tw_74) (fun _ h9 => h9) rfl (by decide +kernel) rfl rfl (Nat.le_of_ble_eq_true rfl) dX2_takeByte_54 (fun H locs hP hD hS => ?_)
      have hP : va_P (eD E) vwCl ([((ax 0), .inr (3, [.ref (ax 1), .ref (ax 2), .ref (ax 4), .ref (ax 6), .int (gx 4), .int (gx 5), .int 0, .int (gx 7), va_rf lt, .int (gx 9), .int (gx 10), .int (gx 11), .int (gx 12), .int (gx 13), .int (gx 14), .int (gx 15), .int (gx 16), .int (gx 17), .int (gx 18)])), ((ax 1), .inr (0, [.int mo, .ref ad, .int ln])), ((ax 2), .inr (2, [.ref (ax 3), .int pk])), ((ax 3), .inl (eC E 1, 157, .inr (.inl pw))), ((ax 4), .inr (2, [.ref (ax 5), .int lk])), ((ax 5), .inl (eC E 1, 157, .inr (.inl lw))), ((ax 6), .inl (eC E 0, 3, .inl ik))] ++ va_pl PL pf) H := hP
      have hD : va_D A ([((ax 0), .inr (3, [.ref (ax 1), .ref (ax 2), .ref (ax 4), .ref (ax 6), .int (gx 4), .int (gx 5), .int 0, .int (gx 7), va_rf lt, .int (gx 9), .int (gx 10), .int (gx 11), .int (gx 12), .int (gx 13), .int (gx 14), .int (gx 15), .int (gx 16), .int (gx 17), .int (gx 18)])), ((ax 1), .inr (0, [.int mo, .ref ad, .int ln])), ((ax 2), .inr (2, [.ref (ax 3), .int pk])), ((ax 3), .inl (eC E 1, 157, .inr (.inl pw))), ((ax 4), .inr (2, [.ref (ax 5), .int lk])), ((ax 5), .inl (eC E 1, 157, .inr (.inl lw))), ((ax 6), .inl (eC E 0, 3, .inl ik))] ++ va_pl PL pf) := hD
      refine lv_aload_n hx hb dX2_takeByte_57 rfl (lv_at hl 0 rfl) ?_
      refine lv_iload_n hx hb dX2_takeByte_58 rfl (lv_at hl 1 rfl) ?_
      have hPc : va_P (eD E) vwCl (wX E ax (upd gx 6 0) lt mo ad ln PL pf pw pk lw lk ik) H := hP
      have hDc : va_D A (wX E ax (upd gx 6 0) lt mo ad ln PL pf pw pk lw lk ik) := hD
      have hFc : ∀ q, va_A (wX E ax (upd gx 6 0) lt mo ad ln PL pf pw pk lw lk ik) H.size q → A q := frS hDc hS hA
      refine va_callv (va_runV (As := [.int p0]) (rest := []) ⟨hx, hb, hml, hown, hta⟩ (c_X2_endCommand E l ax (upd gx 6 0) lt mo ad ln PL pf pw pk lw lk ik p0 H.size _ hw) (pcV (n := 1) hta tw_336 tw_333 tw_1 tw_335 tp_13 rfl rfl hd_X2_endCommand ⟨Nat.le_of_ble_eq_true rfl, Nat.le_of_ble_eq_true rfl⟩) ⟨fbM, va_recv hKE.1 hP (ci := 3) (q0 := 0) rfl rfl, fun U hU hW => ⟨rfl, preM.mk hPc hKE hDc hZ hS hFc hU hW⟩⟩ rfl rfl hl.1 rfl (lv_room (Nat.le_of_ble_eq_true rfl)) dX2_takeByte_59 ⟨Nat.le_of_ble_eq_true rfl, Nat.le_of_ble_eq_true rfl⟩) hS (fun q _ h => hFc q h) hFc (fun u t H locs ht hvm hw hB hz1 hk1 hS => ?_)
      obtain ⟨gx_1053, lt_1054, mo_1055, ad_1056, ln_1057, PL_1058, pf_1059, pw_1060, pk_1061, lw_1062, lk_1063, ik_1064⟩ := u
      obtain ⟨hP1, hD1⟩ := hB
      rw [ht] at hP1
      try dsimp only at hw hP1 hD1
      have hP : va_P (eD E) vwCl ([((ax 0), .inr (3, [.ref (ax 1), .ref (ax 2), .ref (ax 4), .ref (ax 6), .int (gx_1053 4), .int (gx_1053 5), .int (gx_1053 6), .int (gx_1053 7), va_rf lt_1054, .int (gx_1053 9), .int (gx_1053 10), .int (gx_1053 11), .int (gx_1053 12), .int (gx_1053 13), .int (gx_1053 14), .int (gx_1053 15), .int (gx_1053 16), .int (gx_1053 17), .int (gx_1053 18)])), ((ax 1), .inr (0, [.int mo_1055, .ref ad_1056, .int ln_1057])), ((ax 2), .inr (2, [.ref (ax 3), .int pk_1061])), ((ax 3), .inl (eC E 1, 157, .inr (.inl pw_1060))), ((ax 4), .inr (2, [.ref (ax 5), .int lk_1063])), ((ax 5), .inl (eC E 1, 157, .inr (.inl lw_1062))), ((ax 6), .inl (eC E 0, 3, .inl ik_1064))] ++ va_pl PL_1058 pf_1059) H := hP1
      have hD : va_D A ([((ax 0), .inr (3, [.ref (ax 1), .ref (ax 2), .ref (ax 4), .ref (ax 6), .int (gx_1053 4), .int (gx_1053 5), .int (gx_1053 6), .int (gx_1053 7), va_rf lt_1054, .int (gx_1053 9), .int (gx_1053 10), .int (gx_1053 11), .int (gx_1053 12), .int (gx_1053 13), .int (gx_1053 14), .int (gx_1053 15), .int (gx_1053 16), .int (gx_1053 17), .int (gx_1053 18)])), ((ax 1), .inr (0, [.int mo_1055, .ref ad_1056, .int ln_1057])), ((ax 2), .inr (2, [.ref (ax 3), .int pk_1061])), ((ax 3), .inl (eC E 1, 157, .inr (.inl pw_1060))), ((ax 4), .inr (2, [.ref (ax 5), .int lk_1063])), ((ax 5), .inl (eC E 1, 157, .inr (.inl lw_1062))), ((ax 6), .inl (eC E 0, 3, .inl ik_1064))] ++ va_pl PL_1058 pf_1059) := hD1.weaken (fun _ q _ h => hFc q.1 h)
      have hP9 : va_P (eD E) vwCl (wX E ax gx_1053 lt_1054 mo_1055 ad_1056 ln_1057 PL_1058 pf_1059 pw_1060 pk_1061 lw_1062 lk_1063 ik_1064) H := hP
      have hD9 : va_D A (wX E ax gx_1053 lt_1054 mo_1055 ad_1056 ln_1057 PL_1058 pf_1059 pw_1060 pk_1061 lw_1062 lk_1063 ik_1064) := hD
      exact W.vret hx hb hr (fun t ht hW => ⟨⟨(gx_1053, lt_1054, mo_1055, ad_1056, ln_1057, PL_1058, pf_1059, pw_1060, pk_1061, lw_1062, lk_1063, ik_1064), rfl, hw, ⟨by rw [ht]; exact hP9, hD9⟩⟩, hS.F ht⟩) hS.2.2 dX2_takeByte_62
    · have hw := hw.1 c_1051
      refine lv_aload_n hx hb dX2_takeByte_23 rfl (lv_at hl 0 rfl) ?_
      refine va_get (D := eD E) (ci := 3) (v := .int (gx 4)) (C := RX2) (T := TX2) (N := 19) hx hb hta lay_X2 hown hKE.1 hP 0 rfl rfl 4 (by decide) (hta _ tw_72) (fun _ h9 => h9) rfl dX2_takeByte_24 ?_
      refine lv_iconst (v := 1) hx hb dX2_takeByte_27 (by decide) ?_
      refine lv_icmp_eq (tgt := 39) hx hb dX2_takeByte_28 (by decide) (fun c_1065 => ?_) (fun c_1065 => ?_)
      · have hw := hw.1 c_1065
        refine lv_aload_n hx hb dX2_takeByte_39 rfl (lv_at hl 0 rfl) ?_
        refine lv_iload_n hx hb dX2_takeByte_40 rfl (lv_at hl 1 rfl) ?_
        refine va_put (D := eD E) (ci := 3) (v := .int p0) (ty := .int) (C := RX2) (T := TX2) (N := 19) hx hb hta lay_X2 tyX2 tyX2_ok nmX2 hown hKE.1 hP hD hS 0 rfl rfl 5 (by decide) (hta _ tw_73) (fun _ h9 => h9) rfl (by decide +kernel) rfl rfl (Nat.le_of_ble_eq_true rfl) dX2_takeByte_41 (fun H locs hP hD hS => ?_)
        have hP : va_P (eD E) vwCl ([((ax 0), .inr (3, [.ref (ax 1), .ref (ax 2), .ref (ax 4), .ref (ax 6), .int (gx 4), .int p0, .int (gx 6), .int (gx 7), va_rf lt, .int (gx 9), .int (gx 10), .int (gx 11), .int (gx 12), .int (gx 13), .int (gx 14), .int (gx 15), .int (gx 16), .int (gx 17), .int (gx 18)])), ((ax 1), .inr (0, [.int mo, .ref ad, .int ln])), ((ax 2), .inr (2, [.ref (ax 3), .int pk])), ((ax 3), .inl (eC E 1, 157, .inr (.inl pw))), ((ax 4), .inr (2, [.ref (ax 5), .int lk])), ((ax 5), .inl (eC E 1, 157, .inr (.inl lw))), ((ax 6), .inl (eC E 0, 3, .inl ik))] ++ va_pl PL pf) H := hP
        have hD : va_D A ([((ax 0), .inr (3, [.ref (ax 1), .ref (ax 2), .ref (ax 4), .ref (ax 6), .int (gx 4), .int p0, .int (gx 6), .int (gx 7), va_rf lt, .int (gx 9), .int (gx 10), .int (gx 11), .int (gx 12), .int (gx 13), .int (gx 14), .int (gx 15), .int (gx 16), .int (gx 17), .int (gx 18)])), ((ax 1), .inr (0, [.int mo, .ref ad, .int ln])), ((ax 2), .inr (2, [.ref (ax 3), .int pk])), ((ax 3), .inl (eC E 1, 157, .inr (.inl pw))), ((ax 4), .inr (2, [.ref (ax 5), .int lk])), ((ax 5), .inl (eC E 1, 157, .inr (.inl lw))), ((ax 6), .inl (eC E 0, 3, .inl ik))] ++ va_pl PL pf) := hD
        refine lv_aload_n hx hb dX2_takeByte_44 rfl (lv_at hl 0 rfl) ?_
        refine lv_iconst (v := 2) hx hb dX2_takeByte_45 (by decide) ?_
        refine va_put (D := eD E) (ci := 3) (v := .int 2) (ty := .int) (C := RX2) (T := TX2) (N := 19) hx hb hta lay_X2 tyX2 tyX2_ok nmX2 hown hKE.1 hP hD hS 0 rfl rfl 6 (by decide) (hta _ tw_74) (fun _ h9 => h9) rfl (by decide +kernel) rfl rfl (Nat.le_of_ble_eq_true rfl) dX2_takeByte_46 (fun H locs hP hD hS => ?_)
        have hP : va_P (eD E) vwCl ([((ax 0), .inr (3, [.ref (ax 1), .ref (ax 2), .ref (ax 4), .ref (ax 6), .int (gx 4), .int p0, .int 2, .int (gx 7), va_rf lt, .int (gx 9), .int (gx 10), .int (gx 11), .int (gx 12), .int (gx 13), .int (gx 14), .int (gx 15), .int (gx 16), .int (gx 17), .int (gx 18)])), ((ax 1), .inr (0, [.int mo, .ref ad, .int ln])), ((ax 2), .inr (2, [.ref (ax 3), .int pk])), ((ax 3), .inl (eC E 1, 157, .inr (.inl pw))), ((ax 4), .inr (2, [.ref (ax 5), .int lk])), ((ax 5), .inl (eC E 1, 157, .inr (.inl lw))), ((ax 6), .inl (eC E 0, 3, .inl ik))] ++ va_pl PL pf) H := hP
        have hD : va_D A ([((ax 0), .inr (3, [.ref (ax 1), .ref (ax 2), .ref (ax 4), .ref (ax 6), .int (gx 4), .int p0, .int 2, .int (gx 7), va_rf lt, .int (gx 9), .int (gx 10), .int (gx 11), .int (gx 12), .int (gx 13), .int (gx 14), .int (gx 15), .int (gx 16), .int (gx 17), .int (gx 18)])), ((ax 1), .inr (0, [.int mo, .ref ad, .int ln])), ((ax 2), .inr (2, [.ref (ax 3), .int pk])), ((ax 3), .inl (eC E 1, 157, .inr (.inl pw))), ((ax 4), .inr (2, [.ref (ax 5), .int lk])), ((ax 5), .inl (eC E 1, 157, .inr (.inl lw))), ((ax 6), .inl (eC E 0, 3, .inl ik))] ++ va_pl PL pf) := hD
        refine lv_goto (tgt := 62) hx hb dX2_takeByte_49 (by decide) ?_
        have hP9 : va_P (eD E) vwCl (wX E ax (upd (upd gx 5 p0) 6 2) lt mo ad ln PL pf pw pk lw lk ik) H := hP
        have hD9 : va_D A (wX E ax (upd (upd gx 5 p0) 6 2) lt mo ad ln PL pf pw pk lw lk ik) := hD
        refine W.widen (k := 9) (n := 288) (Nat.le_of_ble_eq_true rfl) (Nat.le_of_ble_eq_true rfl) ?_
        exact W.vret hx hb hr (fun t ht hW => ⟨⟨((upd (upd gx 5 p0) 6 2), lt, mo, ad, ln, PL, pf, pw, pk, lw, lk, ik), rfl, hw, ⟨by rw [ht]; exact hP9, hD9⟩⟩, hS.F ht⟩) hS.2.2 dX2_takeByte_62
      · have hw := hw.2 c_1065
        refine lv_aload_n hx hb dX2_takeByte_31 rfl (lv_at hl 0 rfl) ?_
        refine va_get (D := eD E) (ci := 3) (v := .int (gx 4)) (C := RX2) (T := TX2) (N := 19) hx hb hta lay_X2 hown hKE.1 hP 0 rfl rfl 4 (by decide) (hta _ tw_72) (fun _ h9 => h9) rfl dX2_takeByte_32 ?_
        refine lv_iconst (v := 2) hx hb dX2_takeByte_35 (by decide) ?_
        refine lv_icmp_ne (tgt := 52) hx hb dX2_takeByte_36 (by decide) (fun c_1066 => ?_) (fun c_1066 => ?_)
        · have hw := hw.2 c_1066
          refine lv_aload_n hx hb dX2_takeByte_52 rfl (lv_at hl 0 rfl) ?_
          refine lv_iconst (v := 0) hx hb dX2_takeByte_53 (by decide) ?_
          refine va_put (D := eD E) (ci := 3) (v := .int 0) (ty := .int) (C := RX2) (T := TX2) (N := 19) hx hb hta lay_X2 tyX2 tyX2_ok nmX2 hown hKE.1 hP hD hS 0 rfl rfl 6 (by decide) (hta _ tw_74) (fun _ h9 => h9) rfl (by decide +kernel) rfl rfl (Nat.le_of_ble_eq_true rfl) dX2_takeByte_54 (fun H locs hP hD hS => ?_)
          have hP : va_P (eD E) vwCl ([((ax 0), .inr (3, [.ref (ax 1), .ref (ax 2), .ref (ax 4), .ref (ax 6), .int (gx 4), .int (gx 5), .int 0, .int (gx 7), va_rf lt, .int (gx 9), .int (gx 10), .int (gx 11), .int (gx 12), .int (gx 13), .int (gx 14), .int (gx 15), .int (gx 16), .int (gx 17), .int (gx 18)])), ((ax 1), .inr (0, [.int mo, .ref ad, .int ln])), ((ax 2), .inr (2, [.ref (ax 3), .int pk])), ((ax 3), .inl (eC E 1, 157, .inr (.inl pw))), ((ax 4), .inr (2, [.ref (ax 5), .int lk])), ((ax 5), .inl (eC E 1, 157, .inr (.inl lw))), ((ax 6), .inl (eC E 0, 3, .inl ik))] ++ va_pl PL pf) H := hP
          have hD : va_D A ([((ax 0), .inr (3, [.ref (ax 1), .ref (ax 2), .ref (ax 4), .ref (ax 6), .int (gx 4), .int (gx 5), .int 0, .int (gx 7), va_rf lt, .int (gx 9), .int (gx 10), .int (gx 11), .int (gx 12), .int (gx 13), .int (gx 14), .int (gx 15), .int (gx 16), .int (gx 17), .int (gx 18)])), ((ax 1), .inr (0, [.int mo, .ref ad, .int ln])), ((ax 2), .inr (2, [.ref (ax 3), .int pk])), ((ax 3), .inl (eC E 1, 157, .inr (.inl pw))), ((ax 4), .inr (2, [.ref (ax 5), .int lk])), ((ax 5), .inl (eC E 1, 157, .inr (.inl lw))), ((ax 6), .inl (eC E 0, 3, .inl ik))] ++ va_pl PL pf) := hD
          refine lv_aload_n hx hb dX2_takeByte_57 rfl (lv_at hl 0 rfl) ?_
          refine lv_iload_n hx hb dX2_takeByte_58 rfl (lv_at hl 1 rfl) ?_
          have hPc : va_P (eD E) vwCl (wX E ax (upd gx 6 0) lt mo ad ln PL pf pw pk lw lk ik) H := hP
          have hDc : va_D A (wX E ax (upd gx 6 0) lt mo ad ln PL pf pw pk lw lk ik) := hD
          have hFc : ∀ q, va_A (wX E ax (upd gx 6 0) lt mo ad ln PL pf pw pk lw lk ik) H.size q → A q := frS hDc hS hA
          refine va_callv (va_runV (As := [.int p0]) (rest := []) ⟨hx, hb, hml, hown, hta⟩ (c_X2_endCommand E l ax (upd gx 6 0) lt mo ad ln PL pf pw pk lw lk ik p0 H.size _ hw) (pcV (n := 1) hta tw_336 tw_333 tw_1 tw_335 tp_13 rfl rfl hd_X2_endCommand ⟨Nat.le_of_ble_eq_true rfl, Nat.le_of_ble_eq_true rfl⟩) ⟨fbM, va_recv hKE.1 hP (ci := 3) (q0 := 0) rfl rfl, fun U hU hW => ⟨rfl, preM.mk hPc hKE hDc hZ hS hFc hU hW⟩⟩ rfl rfl hl.1 rfl (lv_room (Nat.le_of_ble_eq_true rfl)) dX2_takeByte_59 ⟨Nat.le_of_ble_eq_true rfl, Nat.le_of_ble_eq_true rfl⟩) hS (fun q _ h => hFc q h) hFc (fun u t H locs ht hvm hw hB hz1 hk1 hS => ?_)
          obtain ⟨gx_1068, lt_1069, mo_1070, ad_1071, ln_1072, PL_1073, pf_1074, pw_1075, pk_1076, lw_1077, lk_1078, ik_1079⟩ := u
          obtain ⟨hP1, hD1⟩ := hB
          rw [ht] at hP1
          try dsimp only at hw hP1 hD1
          have hP : va_P (eD E) vwCl ([((ax 0), .inr (3, [.ref (ax 1), .ref (ax 2), .ref (ax 4), .ref (ax 6), .int (gx_1068 4), .int (gx_1068 5), .int (gx_1068 6), .int (gx_1068 7), va_rf lt_1069, .int (gx_1068 9), .int (gx_1068 10), .int (gx_1068 11), .int (gx_1068 12), .int (gx_1068 13), .int (gx_1068 14), .int (gx_1068 15), .int (gx_1068 16), .int (gx_1068 17), .int (gx_1068 18)])), ((ax 1), .inr (0, [.int mo_1070, .ref ad_1071, .int ln_1072])), ((ax 2), .inr (2, [.ref (ax 3), .int pk_1076])), ((ax 3), .inl (eC E 1, 157, .inr (.inl pw_1075))), ((ax 4), .inr (2, [.ref (ax 5), .int lk_1078])), ((ax 5), .inl (eC E 1, 157, .inr (.inl lw_1077))), ((ax 6), .inl (eC E 0, 3, .inl ik_1079))] ++ va_pl PL_1073 pf_1074) H := hP1
          have hD : va_D A ([((ax 0), .inr (3, [.ref (ax 1), .ref (ax 2), .ref (ax 4), .ref (ax 6), .int (gx_1068 4), .int (gx_1068 5), .int (gx_1068 6), .int (gx_1068 7), va_rf lt_1069, .int (gx_1068 9), .int (gx_1068 10), .int (gx_1068 11), .int (gx_1068 12), .int (gx_1068 13), .int (gx_1068 14), .int (gx_1068 15), .int (gx_1068 16), .int (gx_1068 17), .int (gx_1068 18)])), ((ax 1), .inr (0, [.int mo_1070, .ref ad_1071, .int ln_1072])), ((ax 2), .inr (2, [.ref (ax 3), .int pk_1076])), ((ax 3), .inl (eC E 1, 157, .inr (.inl pw_1075))), ((ax 4), .inr (2, [.ref (ax 5), .int lk_1078])), ((ax 5), .inl (eC E 1, 157, .inr (.inl lw_1077))), ((ax 6), .inl (eC E 0, 3, .inl ik_1079))] ++ va_pl PL_1073 pf_1074) := hD1.weaken (fun _ q _ h => hFc q.1 h)
          have hP9 : va_P (eD E) vwCl (wX E ax gx_1068 lt_1069 mo_1070 ad_1071 ln_1072 PL_1073 pf_1074 pw_1075 pk_1076 lw_1077 lk_1078 ik_1079) H := hP
          have hD9 : va_D A (wX E ax gx_1068 lt_1069 mo_1070 ad_1071 ln_1072 PL_1073 pf_1074 pw_1075 pk_1076 lw_1077 lk_1078 ik_1079) := hD
          exact W.vret hx hb hr (fun t ht hW => ⟨⟨(gx_1068, lt_1069, mo_1070, ad_1071, ln_1072, PL_1073, pf_1074, pw_1075, pk_1076, lw_1077, lk_1078, ik_1079), rfl, hw, ⟨by rw [ht]; exact hP9, hD9⟩⟩, hS.F ht⟩) hS.2.2 dX2_takeByte_62
        · have hw := hw.1 c_1066
          refine lv_aload_n hx hb dX2_takeByte_39 rfl (lv_at hl 0 rfl) ?_
          refine lv_iload_n hx hb dX2_takeByte_40 rfl (lv_at hl 1 rfl) ?_
          refine va_put (D := eD E) (ci := 3) (v := .int p0) (ty := .int) (C := RX2) (T := TX2) (N := 19) hx hb hta lay_X2 tyX2 tyX2_ok nmX2 hown hKE.1 hP hD hS 0 rfl rfl 5 (by decide) (hta _ tw_73) (fun _ h9 => h9) rfl (by decide +kernel) rfl rfl (Nat.le_of_ble_eq_true rfl) dX2_takeByte_41 (fun H locs hP hD hS => ?_)
          have hP : va_P (eD E) vwCl ([((ax 0), .inr (3, [.ref (ax 1), .ref (ax 2), .ref (ax 4), .ref (ax 6), .int (gx 4), .int p0, .int (gx 6), .int (gx 7), va_rf lt, .int (gx 9), .int (gx 10), .int (gx 11), .int (gx 12), .int (gx 13), .int (gx 14), .int (gx 15), .int (gx 16), .int (gx 17), .int (gx 18)])), ((ax 1), .inr (0, [.int mo, .ref ad, .int ln])), ((ax 2), .inr (2, [.ref (ax 3), .int pk])), ((ax 3), .inl (eC E 1, 157, .inr (.inl pw))), ((ax 4), .inr (2, [.ref (ax 5), .int lk])), ((ax 5), .inl (eC E 1, 157, .inr (.inl lw))), ((ax 6), .inl (eC E 0, 3, .inl ik))] ++ va_pl PL pf) H := hP
          have hD : va_D A ([((ax 0), .inr (3, [.ref (ax 1), .ref (ax 2), .ref (ax 4), .ref (ax 6), .int (gx 4), .int p0, .int (gx 6), .int (gx 7), va_rf lt, .int (gx 9), .int (gx 10), .int (gx 11), .int (gx 12), .int (gx 13), .int (gx 14), .int (gx 15), .int (gx 16), .int (gx 17), .int (gx 18)])), ((ax 1), .inr (0, [.int mo, .ref ad, .int ln])), ((ax 2), .inr (2, [.ref (ax 3), .int pk])), ((ax 3), .inl (eC E 1, 157, .inr (.inl pw))), ((ax 4), .inr (2, [.ref (ax 5), .int lk])), ((ax 5), .inl (eC E 1, 157, .inr (.inl lw))), ((ax 6), .inl (eC E 0, 3, .inl ik))] ++ va_pl PL pf) := hD
          refine lv_aload_n hx hb dX2_takeByte_44 rfl (lv_at hl 0 rfl) ?_
          refine lv_iconst (v := 2) hx hb dX2_takeByte_45 (by decide) ?_
          refine va_put (D := eD E) (ci := 3) (v := .int 2) (ty := .int) (C := RX2) (T := TX2) (N := 19) hx hb hta lay_X2 tyX2 tyX2_ok nmX2 hown hKE.1 hP hD hS 0 rfl rfl 6 (by decide) (hta _ tw_74) (fun _ h9 => h9) rfl (by decide +kernel) rfl rfl (Nat.le_of_ble_eq_true rfl) dX2_takeByte_46 (fun H locs hP hD hS => ?_)
          have hP : va_P (eD E) vwCl ([((ax 0), .inr (3, [.ref (ax 1), .ref (ax 2), .ref (ax 4), .ref (ax 6), .int (gx 4), .int p0, .int 2, .int (gx 7), va_rf lt, .int (gx 9), .int (gx 10), .int (gx 11), .int (gx 12), .int (gx 13), .int (gx 14), .int (gx 15), .int (gx 16), .int (gx 17), .int (gx 18)])), ((ax 1), .inr (0, [.int mo, .ref ad, .int ln])), ((ax 2), .inr (2, [.ref (ax 3), .int pk])), ((ax 3), .inl (eC E 1, 157, .inr (.inl pw))), ((ax 4), .inr (2, [.ref (ax 5), .int lk])), ((ax 5), .inl (eC E 1, 157, .inr (.inl lw))), ((ax 6), .inl (eC E 0, 3, .inl ik))] ++ va_pl PL pf) H := hP
          have hD : va_D A ([((ax 0), .inr (3, [.ref (ax 1), .ref (ax 2), .ref (ax 4), .ref (ax 6), .int (gx 4), .int p0, .int 2, .int (gx 7), va_rf lt, .int (gx 9), .int (gx 10), .int (gx 11), .int (gx 12), .int (gx 13), .int (gx 14), .int (gx 15), .int (gx 16), .int (gx 17), .int (gx 18)])), ((ax 1), .inr (0, [.int mo, .ref ad, .int ln])), ((ax 2), .inr (2, [.ref (ax 3), .int pk])), ((ax 3), .inl (eC E 1, 157, .inr (.inl pw))), ((ax 4), .inr (2, [.ref (ax 5), .int lk])), ((ax 5), .inl (eC E 1, 157, .inr (.inl lw))), ((ax 6), .inl (eC E 0, 3, .inl ik))] ++ va_pl PL pf) := hD
          refine lv_goto (tgt := 62) hx hb dX2_takeByte_49 (by decide) ?_
          have hP9 : va_P (eD E) vwCl (wX E ax (upd (upd gx 5 p0) 6 2) lt mo ad ln PL pf pw pk lw lk ik) H := hP
          have hD9 : va_D A (wX E ax (upd (upd gx 5 p0) 6 2) lt mo ad ln PL pf pw pk lw lk ik) := hD
          refine W.widen (k := 9) (n := 288) (Nat.le_of_ble_eq_true rfl) (Nat.le_of_ble_eq_true rfl) ?_
          exact W.vret hx hb hr (fun t ht hW => ⟨⟨((upd (upd gx 5 p0) 6 2), lt, mo, ad, ln, PL, pf, pw, pk, lw, lk, ik), rfl, hw, ⟨by rw [ht]; exact hP9, hD9⟩⟩, hS.F ht⟩) hS.2.2 dX2_takeByte_62
  · have hw := hw.1 c_1050
    refine lv_aload_n hx hb dX2_takeByte_7 rfl (lv_at hl 0 rfl) ?_
    refine lv_iload_n hx hb dX2_takeByte_8 rfl (lv_at hl 1 rfl) ?_
    have hPc : va_P (eD E) vwCl (wX E ax gx lt mo ad ln PL pf pw pk lw lk ik) s.heap := hP
    have hDc : va_D A (wX E ax gx lt mo ad ln PL pf pw pk lw lk ik) := hD
    have hFc : ∀ q, va_A (wX E ax gx lt mo ad ln PL pf pw pk lw lk ik) s.heap.size q → A q := frS hDc hS hA
    refine va_callv (va_runV (As := [.int p0]) (rest := []) ⟨hx, hb, hml, hown, hta⟩ (c_X2_beginCommand E l ax gx lt mo ad ln PL pf pw pk lw lk ik p0 s.heap.size _ hw) (pcV (n := 1) hta tw_332 tw_329 tw_1 tw_331 tp_12 rfl rfl hd_X2_beginCommand ⟨Nat.le_of_ble_eq_true rfl, Nat.le_of_ble_eq_true rfl⟩) ⟨fbM, va_recv hKE.1 hP (ci := 3) (q0 := 0) rfl rfl, fun U hU hW => ⟨rfl, preM.mk hPc hKE hDc hZ hS hFc hU hW⟩⟩ rfl rfl hl.1 rfl (lv_room (Nat.le_of_ble_eq_true rfl)) dX2_takeByte_9 ⟨Nat.le_of_ble_eq_true rfl, Nat.le_of_ble_eq_true rfl⟩) hS (fun q _ h => hFc q h) hFc (fun u t H locs ht hvm hw hB hz1 hk1 hS => ?_)
    obtain ⟨gx_1081, lt_1082, mo_1083, ad_1084, ln_1085, PL_1086, pf_1087, pw_1088, pk_1089, lw_1090, lk_1091, ik_1092⟩ := u
    obtain ⟨hP1, hD1⟩ := hB
    rw [ht] at hP1
    try dsimp only at hw hP1 hD1
    have hP : va_P (eD E) vwCl ([((ax 0), .inr (3, [.ref (ax 1), .ref (ax 2), .ref (ax 4), .ref (ax 6), .int (gx_1081 4), .int (gx_1081 5), .int (gx_1081 6), .int (gx_1081 7), va_rf lt_1082, .int (gx_1081 9), .int (gx_1081 10), .int (gx_1081 11), .int (gx_1081 12), .int (gx_1081 13), .int (gx_1081 14), .int (gx_1081 15), .int (gx_1081 16), .int (gx_1081 17), .int (gx_1081 18)])), ((ax 1), .inr (0, [.int mo_1083, .ref ad_1084, .int ln_1085])), ((ax 2), .inr (2, [.ref (ax 3), .int pk_1089])), ((ax 3), .inl (eC E 1, 157, .inr (.inl pw_1088))), ((ax 4), .inr (2, [.ref (ax 5), .int lk_1091])), ((ax 5), .inl (eC E 1, 157, .inr (.inl lw_1090))), ((ax 6), .inl (eC E 0, 3, .inl ik_1092))] ++ va_pl PL_1086 pf_1087) H := hP1
    have hD : va_D A ([((ax 0), .inr (3, [.ref (ax 1), .ref (ax 2), .ref (ax 4), .ref (ax 6), .int (gx_1081 4), .int (gx_1081 5), .int (gx_1081 6), .int (gx_1081 7), va_rf lt_1082, .int (gx_1081 9), .int (gx_1081 10), .int (gx_1081 11), .int (gx_1081 12), .int (gx_1081 13), .int (gx_1081 14), .int (gx_1081 15), .int (gx_1081 16), .int (gx_1081 17), .int (gx_1081 18)])), ((ax 1), .inr (0, [.int mo_1083, .ref ad_1084, .int ln_1085])), ((ax 2), .inr (2, [.ref (ax 3), .int pk_1089])), ((ax 3), .inl (eC E 1, 157, .inr (.inl pw_1088))), ((ax 4), .inr (2, [.ref (ax 5), .int lk_1091])), ((ax 5), .inl (eC E 1, 157, .inr (.inl lw_1090))), ((ax 6), .inl (eC E 0, 3, .inl ik_1092))] ++ va_pl PL_1086 pf_1087) := hD1.weaken (fun _ q _ h => hFc q.1 h)
    refine lv_goto (tgt := 62) hx hb dX2_takeByte_12 (by decide) ?_
    have hP9 : va_P (eD E) vwCl (wX E ax gx_1081 lt_1082 mo_1083 ad_1084 ln_1085 PL_1086 pf_1087 pw_1088 pk_1089 lw_1090 lk_1091 ik_1092) H := hP
    have hD9 : va_D A (wX E ax gx_1081 lt_1082 mo_1083 ad_1084 ln_1085 PL_1086 pf_1087 pw_1088 pk_1089 lw_1090 lk_1091 ik_1092) := hD
    refine W.widen (k := 9) (n := 288) (Nat.le_of_ble_eq_true rfl) (Nat.le_of_ble_eq_true rfl) ?_
    exact W.vret hx hb hr (fun t ht hW => ⟨⟨(gx_1081, lt_1082, mo_1083, ad_1084, ln_1085, PL_1086, pf_1087, pw_1088, pk_1089, lw_1090, lk_1091, ik_1092), rfl, hw, ⟨by rw [ht]; exact hP9, hD9⟩⟩, hS.F ht⟩) hS.2.2 dX2_takeByte_62
def wp_X2_feed (E : EV) (post : Int32 → (Nat → Int32) → Option Nat → Int32 → Nat → Int32 → List Nat → (Nat → va_E) → (Nat → Int64) → Int32 → (Nat → Int64) → Int32 → (Nat → Int32) → Prop) (postX : String → Prop) (gx : Nat → Int32) (lt : Option Nat) (mo : Int32) (ad : Nat) (ln : Int32) (PL : List Nat) (pf : Nat → va_E) (pw : Nat → Int64) (pk : Int32) (lw : Nat → Int64) (lk : Int32) (ik : Nat → Int32) (p0 : Int32) : Prop := ((p0 < 0 → postX sIA) ∧ (¬ (p0 < 0) → ((p0 ≤ 255 → (wp_Jx4a65c_size_8abf5 E (fun r_1095 : Int32 => ((r_1095 < 8 → (wp_X2_takeByte E (fun (gx_1098 : Nat → Int32) (lt_1099 : Option Nat) (mo_1100 : Int32) (ad_1101 : Nat) (ln_1102 : Int32) (PL_1103 : List Nat) (pf_1104 : Nat → va_E) (pw_1105 : Nat → Int64) (pk_1106 : Int32) (lw_1107 : Nat → Int64) (lk_1108 : Int32) (ik_1109 : Nat → Int32) => post 1 gx_1098 lt_1099 mo_1100 ad_1101 ln_1102 PL_1103 pf_1104 pw_1105 pk_1106 lw_1107 lk_1108 ik_1109) gx lt mo ad ln PL pf pw pk lw lk ik p0)) ∧ (¬ (r_1095 < 8) → post 0 gx lt mo ad ln PL pf pw pk lw lk ik))) mo ad ln PL pf)) ∧ (¬ (p0 ≤ 255) → postX sIA))))
set_option maxHeartbeats 4000000 in
set_option maxRecDepth 100000 in
theorem c_X2_feed (E : EV) (l : Launch) (ax : Nat → Nat) (gx : Nat → Int32) (lt : Option Nat) (mo : Int32) (ad : Nat) (ln : Int32) (PL : List Nat) (pf : Nat → va_E) (pw : Nat → Int64) (pk : Int32) (lw : Nat → Int64) (lk : Int32) (ik : Nat → Int32) (p0 : Int32) (hz : Nat) (post : Int32 → (Nat → Int32) → Option Nat → Int32 → Nat → Int32 → List Nat → (Nat → va_E) → (Nat → Int64) → Int32 → (Nat → Int64) → Int32 → (Nat → Int32) → Prop) (postX : String → Prop) (hw : wp_X2_feed E post postX gx lt mo ad ln PL pf pw pk lw lk ik p0) (hst : l.stackTraces = false) : vx_Met l yX2_feed (Cond.code yX2_feed cX2_feed 2 (some .boolean) :: ALLW) ({ frames := 11, cells := 9, slots := 288, locals := 234 } : Room) (va_Pc [.ref (ax 0), .int p0] (preM E (wX E ax gx lt mo ad ln PL pf pw pk lw lk ik) hz)) (va_Qi (fun (r : Int32) (u : (Nat → Int32) × Option Nat × Int32 × Nat × Int32 × List Nat × (Nat → va_E) × (Nat → Int64) × Int32 × (Nat → Int64) × Int32 × (Nat → Int32)) => post r u.1 u.2.1 u.2.2.1 u.2.2.2.1 u.2.2.2.2.1 u.2.2.2.2.2.1 u.2.2.2.2.2.2.1 u.2.2.2.2.2.2.2.1 u.2.2.2.2.2.2.2.2.1 u.2.2.2.2.2.2.2.2.2.1 u.2.2.2.2.2.2.2.2.2.2.1 u.2.2.2.2.2.2.2.2.2.2.2) (fun (u : (Nat → Int32) × Option Nat × Int32 × Nat × Int32 × List Nat × (Nat → va_E) × (Nat → Int64) × Int32 × (Nat → Int64) × Int32 × (Nat → Int32)) t => va_P (eD E) vwCl (wX E ax u.1 u.2.1 u.2.2.1 u.2.2.2.1 u.2.2.2.2.1 u.2.2.2.2.2.1 u.2.2.2.2.2.2.1 u.2.2.2.2.2.2.2.1 u.2.2.2.2.2.2.2.2.1 u.2.2.2.2.2.2.2.2.2.1 u.2.2.2.2.2.2.2.2.2.2.1 u.2.2.2.2.2.2.2.2.2.2.2) t.heap ∧ va_D (va_A (wX E ax gx lt mo ad ln PL pf pw pk lw lk ik) hz) (wX E ax u.1 u.2.1 u.2.2.1 u.2.2.2.1 u.2.2.2.2.1 u.2.2.2.2.2.1 u.2.2.2.2.2.2.1 u.2.2.2.2.2.2.2.1 u.2.2.2.2.2.2.2.2.1 u.2.2.2.2.2.2.2.2.2.1 u.2.2.2.2.2.2.2.2.2.2.1 u.2.2.2.2.2.2.2.2.2.2.2)) (va_A (wX E ax gx lt mo ad ln PL pf pw pk lw lk ik) hz)) (vx_X (fun _ : Unit => True) (fun E9 (_ : Unit) t => postX E9 ∧ va_P (eD E) vwCl (wX E ax gx lt mo ad ln PL pf pw pk lw lk ik) t.heap ∧ va_D (va_A (wX E ax gx lt mo ad ln PL pf pw pk lw lk ik) hz) (wX E ax gx lt mo ad ln PL pf pw pk lw lk ik)) (va_A (wX E ax gx lt mo ad ln PL pf pw pk lw lk ik) hz)) 9 288 (va_A (wX E ax gx lt mo ad ln PL pf pw pk lw lk ik) hz) := by
  refine vx_ofW (cc := cX2_feed) (maxL := 2) (ret := (some .boolean)) (by decide) rfl ?_
  intro p e s m args below meth c s₁ B hml htab hv
  obtain ⟨rfl, hpre⟩ := hv
  have hx := B.exec
  have hb := B.bytes
  have hr := B.returns
  have hlocks := B.notSynchronized
  have hts := atoms_spec (ws := (Cond.code yX2_feed cX2_feed 2 (some .boolean) :: ALLW)) B.pre
  have hta : ∀ w ∈ ALLW, w.before ([.ref (ax 0), .int p0] : List Value).toArray s = true := fun w h => hts w (List.mem_cons_of_mem _ h)
  have hown : s.vm.findClass RX2 = some m.cls := findClass_of_methodNamed B.named
  obtain ⟨hsz, hP, hKE, hD0, hZ⟩ := hpre
  subst hsz
  have hD := hD0.self (sz := s.heap.size)
  generalize hAe : va_A (wX E ax gx lt mo ad ln PL pf pw pk lw lk ik) s.heap.size = A at hD hZ ⊢
  have hA : ∀ q : Nat, s.heap.size ≤ q → A q := fun q h => by rw [← hAe]; exact Or.inr h
  have hS : va_S A s.heap s.heap [] := va_S.rf
  have hP : va_P (eD E) vwCl ([((ax 0), .inr (3, [.ref (ax 1), .ref (ax 2), .ref (ax 4), .ref (ax 6), .int (gx 4), .int (gx 5), .int (gx 6), .int (gx 7), va_rf lt, .int (gx 9), .int (gx 10), .int (gx 11), .int (gx 12), .int (gx 13), .int (gx 14), .int (gx 15), .int (gx 16), .int (gx 17), .int (gx 18)])), ((ax 1), .inr (0, [.int mo, .ref ad, .int ln])), ((ax 2), .inr (2, [.ref (ax 3), .int pk])), ((ax 3), .inl (eC E 1, 157, .inr (.inl pw))), ((ax 4), .inr (2, [.ref (ax 5), .int lk])), ((ax 5), .inl (eC E 1, 157, .inr (.inl lw))), ((ax 6), .inl (eC E 0, 3, .inl ik))] ++ va_pl PL pf) s.heap := hP
  have hD : va_D A ([((ax 0), .inr (3, [.ref (ax 1), .ref (ax 2), .ref (ax 4), .ref (ax 6), .int (gx 4), .int (gx 5), .int (gx 6), .int (gx 7), va_rf lt, .int (gx 9), .int (gx 10), .int (gx 11), .int (gx 12), .int (gx 13), .int (gx 14), .int (gx 15), .int (gx 16), .int (gx 17), .int (gx 18)])), ((ax 1), .inr (0, [.int mo, .ref ad, .int ln])), ((ax 2), .inr (2, [.ref (ax 3), .int pk])), ((ax 3), .inl (eC E 1, 157, .inr (.inl pw))), ((ax 4), .inr (2, [.ref (ax 5), .int lk])), ((ax 5), .inl (eC E 1, 157, .inr (.inl lw))), ((ax 6), .inl (eC E 0, 3, .inl ik))] ++ va_pl PL pf) := hD
  have hl := lv_entry ([.ref (ax 0), .int p0]) (n := 2) (Nat.le_of_ble_eq_true rfl)
  rw [lg_entry_eq]
  generalize (lg_sl ([.ref (ax 0), .int p0]) ++ List.replicate (2 - (lg_sl ([.ref (ax 0), .int p0])).length) Slot.unset).toArray = ls at hl ⊢
  have hl : lv_has ls 2 [(0, .ref (ax 0)), (1, .int p0)] := hl
  unfold wp_X2_feed at hw
  refine lv_iload_n hx hb dX2_feed_0 rfl (lv_at hl 1 rfl) ?_
  refine lv_if_lt (tgt := 11) hx hb dX2_feed_1 (by decide) (fun c_1093 => ?_) (fun c_1093 => ?_)
  · have hw := hw.1 c_1093
    have hP9 : va_P (eD E) vwCl (wX E ax gx lt mo ad ln PL pf pw pk lw lk ik) s.heap := hP
    have hD9 : va_D A (wX E ax gx lt mo ad ln PL pf pw pk lw lk ik) := hD
    exact vx_throwS (own := RX2) (cls := sIA) (text := "a byte is 0 to 255") (names := nmE) hx hb hst hown fit_ia fit_E (hta _ tw_258) (hta _ tw_10) hKE.2.2.2.2.2.1.1 (hat_ia hta hKE) ot_ia hZ.2.2.1 hZ.2.2.2 hS (hl.1.trans hml.symm) dX2_feed_11 dX2_feed_14 dX2_feed_15 dX2_feed_17 dX2_feed_20 (fun x hx9 => (htab x hx9).elim) (Nat.le_of_ble_eq_true rfl) (Nat.le_of_ble_eq_true rfl) (Nat.le_of_ble_eq_true rfl) (Nat.le_of_ble_eq_true rfl) hlocks (fun t hal hz hk => ⟨(), trivial, ⟨hw, hP9.kept (fun k q hq => hk q.1 (hP9 k q hq).lt), hD9⟩, Nat.le_trans hS.1 hz, fun q h1 h2 => (hk q (Nat.lt_of_lt_of_le h1 hS.1)).trans (hS.2.1 q h1 h2)⟩) hS.2.2 (Nat.le_of_ble_eq_true rfl) (Nat.le_of_ble_eq_true rfl)
  · have hw := hw.2 c_1093
    refine lv_iload_n hx hb dX2_feed_4 rfl (lv_at hl 1 rfl) ?_
    refine lv_sipush (v := 255) hx hb dX2_feed_5 (by decide) ?_
    refine lv_icmp_le (tgt := 21) hx hb dX2_feed_8 (by decide) (fun c_1094 => ?_) (fun c_1094 => ?_)
    · have hw := hw.1 c_1094
      refine lv_aload_n hx hb dX2_feed_21 rfl (lv_at hl 0 rfl) ?_
      refine va_get (D := eD E) (ci := 3) (v := .ref (ax 1)) (C := RX2) (T := TX2) (N := 19) hx hb hta lay_X2 hown hKE.1 hP 0 rfl rfl 0 (by decide) (hta _ tw_68) (fun _ h9 => h9) rfl dX2_feed_22 ?_
      have hPc : va_P (eD E) vwCl ([((ax 1), .inr (0, [.int mo, .ref ad, .int ln]))] ++ va_pl PL pf) s.heap := hP.part [1] rfl
      refine vp_callSi (va_Run.run (va_runV (As := []) (rest := []) ⟨hx, hb, hml, hown, hta⟩ (c_Jx4a65c_size_8abf5 E l (ax 1) mo ad ln PL pf _ hw) (pcV (n := 0) hta tw_138 tw_135 tw_4 tw_136 tw_137 rfl rfl hd_Jx4a65c_size_8abf5 ⟨Nat.le_of_ble_eq_true rfl, Nat.le_of_ble_eq_true rfl⟩) ⟨fbR, va_recv hKE.1 hP (ci := 0) (q0 := 1) rfl rfl, fun U hU hW => ⟨rfl, preR.mk hPc hKE hU hW⟩⟩ rfl rfl hl.1 rfl (lv_room (Nat.le_of_ble_eq_true rfl)) dX2_feed_25 ⟨Nat.le_of_ble_eq_true rfl, Nat.le_of_ble_eq_true rfl⟩)) (fun r_1095 hw => ?_)
      refine lv_bipush (v := 8) hx hb dX2_feed_28 (by decide) ?_
      refine lv_icmp_lt (tgt := 35) hx hb dX2_feed_30 (by decide) (fun c_1096 => ?_) (fun c_1096 => ?_)
      · have hw := hw.1 c_1096
        refine lv_aload_n hx hb dX2_feed_35 rfl (lv_at hl 0 rfl) ?_
        refine lv_iload_n hx hb dX2_feed_36 rfl (lv_at hl 1 rfl) ?_
        have hPc : va_P (eD E) vwCl (wX E ax gx lt mo ad ln PL pf pw pk lw lk ik) s.heap := hP
        have hDc : va_D A (wX E ax gx lt mo ad ln PL pf pw pk lw lk ik) := hD
        have hFc : ∀ q, va_A (wX E ax gx lt mo ad ln PL pf pw pk lw lk ik) s.heap.size q → A q := frS hDc hS hA
        refine va_callv (va_runV (As := [.int p0]) (rest := []) ⟨hx, hb, hml, hown, hta⟩ (c_X2_takeByte E l ax gx lt mo ad ln PL pf pw pk lw lk ik p0 s.heap.size _ hw) (pcV (n := 1) hta tw_328 tw_325 tw_1 tw_327 tp_11 rfl rfl hd_X2_takeByte ⟨Nat.le_of_ble_eq_true rfl, Nat.le_of_ble_eq_true rfl⟩) ⟨fbM, va_recv hKE.1 hP (ci := 3) (q0 := 0) rfl rfl, fun U hU hW => ⟨rfl, preM.mk hPc hKE hDc hZ hS hFc hU hW⟩⟩ rfl rfl hl.1 rfl (lv_room (Nat.le_of_ble_eq_true rfl)) dX2_feed_37 ⟨Nat.le_of_ble_eq_true rfl, Nat.le_of_ble_eq_true rfl⟩) hS (fun q _ h => hFc q h) hFc (fun u t H locs ht hvm hw hB hz1 hk1 hS => ?_)
        obtain ⟨gx_1098, lt_1099, mo_1100, ad_1101, ln_1102, PL_1103, pf_1104, pw_1105, pk_1106, lw_1107, lk_1108, ik_1109⟩ := u
        obtain ⟨hP1, hD1⟩ := hB
        rw [ht] at hP1
        try dsimp only at hw hP1 hD1
        have hP : va_P (eD E) vwCl ([((ax 0), .inr (3, [.ref (ax 1), .ref (ax 2), .ref (ax 4), .ref (ax 6), .int (gx_1098 4), .int (gx_1098 5), .int (gx_1098 6), .int (gx_1098 7), va_rf lt_1099, .int (gx_1098 9), .int (gx_1098 10), .int (gx_1098 11), .int (gx_1098 12), .int (gx_1098 13), .int (gx_1098 14), .int (gx_1098 15), .int (gx_1098 16), .int (gx_1098 17), .int (gx_1098 18)])), ((ax 1), .inr (0, [.int mo_1100, .ref ad_1101, .int ln_1102])), ((ax 2), .inr (2, [.ref (ax 3), .int pk_1106])), ((ax 3), .inl (eC E 1, 157, .inr (.inl pw_1105))), ((ax 4), .inr (2, [.ref (ax 5), .int lk_1108])), ((ax 5), .inl (eC E 1, 157, .inr (.inl lw_1107))), ((ax 6), .inl (eC E 0, 3, .inl ik_1109))] ++ va_pl PL_1103 pf_1104) H := hP1
        have hD : va_D A ([((ax 0), .inr (3, [.ref (ax 1), .ref (ax 2), .ref (ax 4), .ref (ax 6), .int (gx_1098 4), .int (gx_1098 5), .int (gx_1098 6), .int (gx_1098 7), va_rf lt_1099, .int (gx_1098 9), .int (gx_1098 10), .int (gx_1098 11), .int (gx_1098 12), .int (gx_1098 13), .int (gx_1098 14), .int (gx_1098 15), .int (gx_1098 16), .int (gx_1098 17), .int (gx_1098 18)])), ((ax 1), .inr (0, [.int mo_1100, .ref ad_1101, .int ln_1102])), ((ax 2), .inr (2, [.ref (ax 3), .int pk_1106])), ((ax 3), .inl (eC E 1, 157, .inr (.inl pw_1105))), ((ax 4), .inr (2, [.ref (ax 5), .int lk_1108])), ((ax 5), .inl (eC E 1, 157, .inr (.inl lw_1107))), ((ax 6), .inl (eC E 0, 3, .inl ik_1109))] ++ va_pl PL_1103 pf_1104) := hD1.weaken (fun _ q _ h => hFc q.1 h)
        refine lv_iconst (v := 1) hx hb dX2_feed_40 (by decide) ?_
        have hP9 : va_P (eD E) vwCl (wX E ax gx_1098 lt_1099 mo_1100 ad_1101 ln_1102 PL_1103 pf_1104 pw_1105 pk_1106 lw_1107 lk_1108 ik_1109) H := hP
        have hD9 : va_D A (wX E ax gx_1098 lt_1099 mo_1100 ad_1101 ln_1102 PL_1103 pf_1104 pw_1105 pk_1106 lw_1107 lk_1108 ik_1109) := hD
        refine vx_ret ?_
        exact W.zret (v := 1) hx hb hr rfl (fun t ht hW => ⟨⟨1, (gx_1098, lt_1099, mo_1100, ad_1101, ln_1102, PL_1103, pf_1104, pw_1105, pk_1106, lw_1107, lk_1108, ik_1109), rfl, hw, ⟨by rw [ht]; exact hP9, hD9⟩⟩, hS.F ht⟩) hS.2.2 dX2_feed_41
      · have hw := hw.2 c_1096
        refine lv_iconst (v := 0) hx hb dX2_feed_33 (by decide) ?_
        have hP9 : va_P (eD E) vwCl (wX E ax gx lt mo ad ln PL pf pw pk lw lk ik) s.heap := hP
        have hD9 : va_D A (wX E ax gx lt mo ad ln PL pf pw pk lw lk ik) := hD
        refine W.widen (k := 9) (n := 288) (Nat.le_of_ble_eq_true rfl) (Nat.le_of_ble_eq_true rfl) ?_
        refine vx_ret ?_
        exact W.zret (v := 0) hx hb hr rfl (fun t ht hW => ⟨⟨0, (gx, lt, mo, ad, ln, PL, pf, pw, pk, lw, lk, ik), rfl, hw, ⟨by rw [ht]; exact hP9, hD9⟩⟩, hS.F ht⟩) hS.2.2 dX2_feed_34
    · have hw := hw.2 c_1094
      have hP9 : va_P (eD E) vwCl (wX E ax gx lt mo ad ln PL pf pw pk lw lk ik) s.heap := hP
      have hD9 : va_D A (wX E ax gx lt mo ad ln PL pf pw pk lw lk ik) := hD
      exact vx_throwS (own := RX2) (cls := sIA) (text := "a byte is 0 to 255") (names := nmE) hx hb hst hown fit_ia fit_E (hta _ tw_258) (hta _ tw_10) hKE.2.2.2.2.2.1.1 (hat_ia hta hKE) ot_ia hZ.2.2.1 hZ.2.2.2 hS (hl.1.trans hml.symm) dX2_feed_11 dX2_feed_14 dX2_feed_15 dX2_feed_17 dX2_feed_20 (fun x hx9 => (htab x hx9).elim) (Nat.le_of_ble_eq_true rfl) (Nat.le_of_ble_eq_true rfl) (Nat.le_of_ble_eq_true rfl) (Nat.le_of_ble_eq_true rfl) hlocks (fun t hal hz hk => ⟨(), trivial, ⟨hw, hP9.kept (fun k q hq => hk q.1 (hP9 k q hq).lt), hD9⟩, Nat.le_trans hS.1 hz, fun q h1 h2 => (hk q (Nat.lt_of_lt_of_le h1 hS.1)).trans (hS.2.1 q h1 h2)⟩) hS.2.2 (Nat.le_of_ble_eq_true rfl) (Nat.le_of_ble_eq_true rfl)
def wp_X2_tick_L37 (E : EV) (post : Int32 → (Nat → Int32) → Option Nat → Int32 → Nat → Int32 → List Nat → (Nat → va_E) → (Nat → Int64) → Int32 → (Nat → Int64) → Int32 → (Nat → Int32) → Prop)   : Nat → (Nat → Int32) → Option Nat → Int32 → Nat → Int32 → List Nat → (Nat → va_E) → (Nat → Int64) → Int32 → (Nat → Int64) → Int32 → (Nat → Int32) → Int32 → Int32 → Int32 → Int32 → Prop
  | 0, _, _, _, _, _, _, _, _, _, _, _, _, _, _, _, _ => False
  | n + 1, gx_L, lt_L, mo_L, ad_L, ln_L, PL_L, pf_L, pw_L, pk_L, lw_L, lk_L, ik_L, x1, x2, x3, x4 => ((x1 ≤ x4 → post (((gx_L 17) + (gx_L 18)) - x2) gx_L lt_L mo_L ad_L ln_L PL_L pf_L pw_L pk_L lw_L lk_L ik_L) ∧ (¬ (x1 ≤ x4) → ((x3 = 0 → post (((gx_L 17) + (gx_L 18)) - x2) gx_L lt_L mo_L ad_L ln_L PL_L pf_L pw_L pk_L lw_L lk_L ik_L) ∧ (¬ (x3 = 0) → (wp_X2_doTick E (fun (r_1114 : Int32) (gx_1115 : Nat → Int32) (lt_1116 : Option Nat) (mo_1117 : Int32) (ad_1118 : Nat) (ln_1119 : Int32) (PL_1120 : List Nat) (pf_1121 : Nat → va_E) (pw_1122 : Nat → Int64) (pk_1123 : Int32) (lw_1124 : Nat → Int64) (lk_1125 : Int32) (ik_1126 : Nat → Int32) => (wp_X2_tick_L37 E post n gx_1115 lt_1116 mo_1117 ad_1118 ln_1119 PL_1120 pf_1121 pw_1122 pk_1123 lw_1124 lk_1125 ik_1126 x1 x2 r_1114 (x4 + 1))) gx_L lt_L mo_L ad_L ln_L PL_L pf_L pw_L pk_L lw_L lk_L ik_L)))))
def wp_X2_tick (E : EV) (post : Int32 → (Nat → Int32) → Option Nat → Int32 → Nat → Int32 → List Nat → (Nat → va_E) → (Nat → Int64) → Int32 → (Nat → Int64) → Int32 → (Nat → Int32) → Prop) (postX : String → Prop) (gx : Nat → Int32) (lt : Option Nat) (mo : Int32) (ad : Nat) (ln : Int32) (PL : List Nat) (pf : Nat → va_E) (pw : Nat → Int64) (pk : Int32) (lw : Nat → Int64) (lk : Int32) (ik : Nat → Int32) (p0 : Int32) : Prop := ((p0 < 1 → postX sIA) ∧ (¬ (p0 < 1) → ((p0 ≤ 1000 → (∃ n : Nat, wp_X2_tick_L37 E post n gx lt mo ad ln PL pf pw pk lw lk ik p0 ((gx 17) + (gx 18)) 1 0)) ∧ (¬ (p0 ≤ 1000) → postX sIA))))
set_option maxHeartbeats 4000000 in
set_option maxRecDepth 100000 in
theorem c_X2_tick (E : EV) (l : Launch) (ax : Nat → Nat) (gx : Nat → Int32) (lt : Option Nat) (mo : Int32) (ad : Nat) (ln : Int32) (PL : List Nat) (pf : Nat → va_E) (pw : Nat → Int64) (pk : Int32) (lw : Nat → Int64) (lk : Int32) (ik : Nat → Int32) (p0 : Int32) (hz : Nat) (post : Int32 → (Nat → Int32) → Option Nat → Int32 → Nat → Int32 → List Nat → (Nat → va_E) → (Nat → Int64) → Int32 → (Nat → Int64) → Int32 → (Nat → Int32) → Prop) (postX : String → Prop) (hw : wp_X2_tick E post postX gx lt mo ad ln PL pf pw pk lw lk ik p0) (hst : l.stackTraces = false) : vx_Met l yX2_tick (Cond.code yX2_tick cX2_tick 5 (some .int) :: ALLW) ({ frames := 8, cells := 1, slots := 6, locals := 167 } : Room) (va_Pc [.ref (ax 0), .int p0] (preM E (wX E ax gx lt mo ad ln PL pf pw pk lw lk ik) hz)) (va_Qi (fun (r : Int32) (u : (Nat → Int32) × Option Nat × Int32 × Nat × Int32 × List Nat × (Nat → va_E) × (Nat → Int64) × Int32 × (Nat → Int64) × Int32 × (Nat → Int32)) => post r u.1 u.2.1 u.2.2.1 u.2.2.2.1 u.2.2.2.2.1 u.2.2.2.2.2.1 u.2.2.2.2.2.2.1 u.2.2.2.2.2.2.2.1 u.2.2.2.2.2.2.2.2.1 u.2.2.2.2.2.2.2.2.2.1 u.2.2.2.2.2.2.2.2.2.2.1 u.2.2.2.2.2.2.2.2.2.2.2) (fun (u : (Nat → Int32) × Option Nat × Int32 × Nat × Int32 × List Nat × (Nat → va_E) × (Nat → Int64) × Int32 × (Nat → Int64) × Int32 × (Nat → Int32)) t => va_P (eD E) vwCl (wX E ax u.1 u.2.1 u.2.2.1 u.2.2.2.1 u.2.2.2.2.1 u.2.2.2.2.2.1 u.2.2.2.2.2.2.1 u.2.2.2.2.2.2.2.1 u.2.2.2.2.2.2.2.2.1 u.2.2.2.2.2.2.2.2.2.1 u.2.2.2.2.2.2.2.2.2.2.1 u.2.2.2.2.2.2.2.2.2.2.2) t.heap ∧ va_D (va_A (wX E ax gx lt mo ad ln PL pf pw pk lw lk ik) hz) (wX E ax u.1 u.2.1 u.2.2.1 u.2.2.2.1 u.2.2.2.2.1 u.2.2.2.2.2.1 u.2.2.2.2.2.2.1 u.2.2.2.2.2.2.2.1 u.2.2.2.2.2.2.2.2.1 u.2.2.2.2.2.2.2.2.2.1 u.2.2.2.2.2.2.2.2.2.2.1 u.2.2.2.2.2.2.2.2.2.2.2)) (va_A (wX E ax gx lt mo ad ln PL pf pw pk lw lk ik) hz)) (vx_X (fun _ : Unit => True) (fun E9 (_ : Unit) t => postX E9 ∧ va_P (eD E) vwCl (wX E ax gx lt mo ad ln PL pf pw pk lw lk ik) t.heap ∧ va_D (va_A (wX E ax gx lt mo ad ln PL pf pw pk lw lk ik) hz) (wX E ax gx lt mo ad ln PL pf pw pk lw lk ik)) (va_A (wX E ax gx lt mo ad ln PL pf pw pk lw lk ik) hz)) 1 6 (va_A (wX E ax gx lt mo ad ln PL pf pw pk lw lk ik) hz) := by
  refine vx_ofW (cc := cX2_tick) (maxL := 5) (ret := (some .int)) (by decide) rfl ?_
  intro p e s m args below meth c s₁ B hml htab hv
  obtain ⟨rfl, hpre⟩ := hv
  have hx := B.exec
  have hb := B.bytes
  have hr := B.returns
  have hlocks := B.notSynchronized
  have hts := atoms_spec (ws := (Cond.code yX2_tick cX2_tick 5 (some .int) :: ALLW)) B.pre
  have hta : ∀ w ∈ ALLW, w.before ([.ref (ax 0), .int p0] : List Value).toArray s = true := fun w h => hts w (List.mem_cons_of_mem _ h)
  have hown : s.vm.findClass RX2 = some m.cls := findClass_of_methodNamed B.named
  obtain ⟨hsz, hP, hKE, hD0, hZ⟩ := hpre
  subst hsz
  have hD := hD0.self (sz := s.heap.size)
  generalize hAe : va_A (wX E ax gx lt mo ad ln PL pf pw pk lw lk ik) s.heap.size = A at hD hZ ⊢
  have hA : ∀ q : Nat, s.heap.size ≤ q → A q := fun q h => by rw [← hAe]; exact Or.inr h
  have hS : va_S A s.heap s.heap [] := va_S.rf
  have hP : va_P (eD E) vwCl ([((ax 0), .inr (3, [.ref (ax 1), .ref (ax 2), .ref (ax 4), .ref (ax 6), .int (gx 4), .int (gx 5), .int (gx 6), .int (gx 7), va_rf lt, .int (gx 9), .int (gx 10), .int (gx 11), .int (gx 12), .int (gx 13), .int (gx 14), .int (gx 15), .int (gx 16), .int (gx 17), .int (gx 18)])), ((ax 1), .inr (0, [.int mo, .ref ad, .int ln])), ((ax 2), .inr (2, [.ref (ax 3), .int pk])), ((ax 3), .inl (eC E 1, 157, .inr (.inl pw))), ((ax 4), .inr (2, [.ref (ax 5), .int lk])), ((ax 5), .inl (eC E 1, 157, .inr (.inl lw))), ((ax 6), .inl (eC E 0, 3, .inl ik))] ++ va_pl PL pf) s.heap := hP
  have hD : va_D A ([((ax 0), .inr (3, [.ref (ax 1), .ref (ax 2), .ref (ax 4), .ref (ax 6), .int (gx 4), .int (gx 5), .int (gx 6), .int (gx 7), va_rf lt, .int (gx 9), .int (gx 10), .int (gx 11), .int (gx 12), .int (gx 13), .int (gx 14), .int (gx 15), .int (gx 16), .int (gx 17), .int (gx 18)])), ((ax 1), .inr (0, [.int mo, .ref ad, .int ln])), ((ax 2), .inr (2, [.ref (ax 3), .int pk])), ((ax 3), .inl (eC E 1, 157, .inr (.inl pw))), ((ax 4), .inr (2, [.ref (ax 5), .int lk])), ((ax 5), .inl (eC E 1, 157, .inr (.inl lw))), ((ax 6), .inl (eC E 0, 3, .inl ik))] ++ va_pl PL pf) := hD
  have hl := lv_entry ([.ref (ax 0), .int p0]) (n := 5) (Nat.le_of_ble_eq_true rfl)
  rw [lg_entry_eq]
  generalize (lg_sl ([.ref (ax 0), .int p0]) ++ List.replicate (5 - (lg_sl ([.ref (ax 0), .int p0])).length) Slot.unset).toArray = ls at hl ⊢
  have hl : lv_has ls 5 [(0, .ref (ax 0)), (1, .int p0)] := hl
  have loop_37 : ∀ (n : Nat) (gx_L : Nat → Int32) (lt_L : Option Nat) (mo_L : Int32) (ad_L : Nat) (ln_L : Int32) (PL_L : List Nat) (pf_L : Nat → va_E) (pw_L : Nat → Int64) (pk_L : Int32) (lw_L : Nat → Int64) (lk_L : Int32) (ik_L : Nat → Int32) (x1 : Int32) (x2 : Int32) (x3 : Int32) (x4 : Int32), wp_X2_tick_L37 E post n gx_L lt_L mo_L ad_L ln_L PL_L pf_L pw_L pk_L lw_L lk_L ik_L x1 x2 x3 x4 → ∀ (H : Heap) (locs : List Loc), va_P (eD E) vwCl ([((ax 0), .inr (3, [.ref (ax 1), .ref (ax 2), .ref (ax 4), .ref (ax 6), .int (gx_L 4), .int (gx_L 5), .int (gx_L 6), .int (gx_L 7), va_rf lt_L, .int (gx_L 9), .int (gx_L 10), .int (gx_L 11), .int (gx_L 12), .int (gx_L 13), .int (gx_L 14), .int (gx_L 15), .int (gx_L 16), .int (gx_L 17), .int (gx_L 18)])), ((ax 1), .inr (0, [.int mo_L, .ref ad_L, .int ln_L])), ((ax 2), .inr (2, [.ref (ax 3), .int pk_L])), ((ax 3), .inl (eC E 1, 157, .inr (.inl pw_L))), ((ax 4), .inr (2, [.ref (ax 5), .int lk_L])), ((ax 5), .inl (eC E 1, 157, .inr (.inl lw_L))), ((ax 6), .inl (eC E 0, 3, .inl ik_L))] ++ va_pl PL_L pf_L) H → va_D A ([((ax 0), .inr (3, [.ref (ax 1), .ref (ax 2), .ref (ax 4), .ref (ax 6), .int (gx_L 4), .int (gx_L 5), .int (gx_L 6), .int (gx_L 7), va_rf lt_L, .int (gx_L 9), .int (gx_L 10), .int (gx_L 11), .int (gx_L 12), .int (gx_L 13), .int (gx_L 14), .int (gx_L 15), .int (gx_L 16), .int (gx_L 17), .int (gx_L 18)])), ((ax 1), .inr (0, [.int mo_L, .ref ad_L, .int ln_L])), ((ax 2), .inr (2, [.ref (ax 3), .int pk_L])), ((ax 3), .inl (eC E 1, 157, .inr (.inl pw_L))), ((ax 4), .inr (2, [.ref (ax 5), .int lk_L])), ((ax 5), .inl (eC E 1, 157, .inr (.inl lw_L))), ((ax 6), .inl (eC E 0, 3, .inl ik_L))] ++ va_pl PL_L pf_L) → va_S A s.heap H locs → ∀ (ls : Array Slot), lv_has ls 5 [(0, .ref (ax 0)), (1, .int x1), (2, .int x2), (3, .int x3), (4, .int x4)] → W p l e (headSpec (Cond.code yX2_tick cX2_tick 5 (some .int) :: ALLW) ({ frames := 8, cells := 1, slots := 6, locals := 167 } : Room)).room s m ([.ref (ax 0), .int p0] : List Value).toArray below meth c H locs 0 0 (vx_MQ below (va_Qi (fun (r : Int32) (u : (Nat → Int32) × Option Nat × Int32 × Nat × Int32 × List Nat × (Nat → va_E) × (Nat → Int64) × Int32 × (Nat → Int64) × Int32 × (Nat → Int32)) => post r u.1 u.2.1 u.2.2.1 u.2.2.2.1 u.2.2.2.2.1 u.2.2.2.2.2.1 u.2.2.2.2.2.2.1 u.2.2.2.2.2.2.2.1 u.2.2.2.2.2.2.2.2.1 u.2.2.2.2.2.2.2.2.2.1 u.2.2.2.2.2.2.2.2.2.2.1 u.2.2.2.2.2.2.2.2.2.2.2) (fun (u : (Nat → Int32) × Option Nat × Int32 × Nat × Int32 × List Nat × (Nat → va_E) × (Nat → Int64) × Int32 × (Nat → Int64) × Int32 × (Nat → Int32)) t => va_P (eD E) vwCl (wX E ax u.1 u.2.1 u.2.2.1 u.2.2.2.1 u.2.2.2.2.1 u.2.2.2.2.2.1 u.2.2.2.2.2.2.1 u.2.2.2.2.2.2.2.1 u.2.2.2.2.2.2.2.2.1 u.2.2.2.2.2.2.2.2.2.1 u.2.2.2.2.2.2.2.2.2.2.1 u.2.2.2.2.2.2.2.2.2.2.2) t.heap ∧ va_D A (wX E ax u.1 u.2.1 u.2.2.1 u.2.2.2.1 u.2.2.2.2.1 u.2.2.2.2.2.1 u.2.2.2.2.2.2.1 u.2.2.2.2.2.2.2.1 u.2.2.2.2.2.2.2.2.1 u.2.2.2.2.2.2.2.2.2.1 u.2.2.2.2.2.2.2.2.2.2.1 u.2.2.2.2.2.2.2.2.2.2.2)) A) (vx_X (fun _ : Unit => True) (fun E9 (_ : Unit) t => postX E9 ∧ va_P (eD E) vwCl (wX E ax gx lt mo ad ln PL pf pw pk lw lk ik) t.heap ∧ va_D A (wX E ax gx lt mo ad ln PL pf pw pk lw lk ik)) A) ([.ref (ax 0), .int p0] : List Value).toArray s 1 6 A) (F0 m 37 ls []) := by
    intro n
    induction n with
    | zero => intro gx_L lt_L mo_L ad_L ln_L PL_L pf_L pw_L pk_L lw_L lk_L ik_L x1 x2 x3 x4 hw; exact hw.elim
    | succ n ih =>
      intro gx_L lt_L mo_L ad_L ln_L PL_L pf_L pw_L pk_L lw_L lk_L ik_L x1 x2 x3 x4 hw H locs hP hD hS ls hl
      unfold wp_X2_tick_L37 at hw
      refine lv_iload hx hb dX2_tick_37 (lv_at hl 4 rfl) ?_
      refine lv_iload_n hx hb dX2_tick_39 rfl (lv_at hl 1 rfl) ?_
      refine lv_icmp_ge (tgt := 58) hx hb dX2_tick_40 (by decide) (fun c_1112 => ?_) (fun c_1112 => ?_)
      · have hw := hw.1 c_1112
        refine lv_aload_n hx hb dX2_tick_58 rfl (lv_at hl 0 rfl) ?_
        refine va_get (D := eD E) (ci := 3) (v := .int (gx_L 17)) (C := RX2) (T := TX2) (N := 19) hx hb hta lay_X2 hown hKE.1 hP 0 rfl rfl 17 (by decide) (hta _ tw_85) (fun _ h9 => h9) rfl dX2_tick_59 ?_
        refine lv_aload_n hx hb dX2_tick_62 rfl (lv_at hl 0 rfl) ?_
        refine va_get (D := eD E) (ci := 3) (v := .int (gx_L 18)) (C := RX2) (T := TX2) (N := 19) hx hb hta lay_X2 hown hKE.1 hP 0 rfl rfl 18 (by decide) (hta _ tw_86) (fun _ h9 => h9) rfl dX2_tick_63 ?_
        refine lv_iadd hx hb dX2_tick_66 ?_
        refine lv_iload_n hx hb dX2_tick_67 rfl (lv_at hl 2 rfl) ?_
        refine lv_isub hx hb dX2_tick_68 ?_
        have hP9 : va_P (eD E) vwCl (wX E ax gx_L lt_L mo_L ad_L ln_L PL_L pf_L pw_L pk_L lw_L lk_L ik_L) H := hP
        have hD9 : va_D A (wX E ax gx_L lt_L mo_L ad_L ln_L PL_L pf_L pw_L pk_L lw_L lk_L ik_L) := hD
        refine W.widen (k := 1) (n := 6) (Nat.le_of_ble_eq_true rfl) (Nat.le_of_ble_eq_true rfl) ?_
        refine vx_ret ?_
        exact W.iret (v := (((gx_L 17) + (gx_L 18)) - x2)) hx hb hr (fun t ht hW => ⟨⟨(((gx_L 17) + (gx_L 18)) - x2), (gx_L, lt_L, mo_L, ad_L, ln_L, PL_L, pf_L, pw_L, pk_L, lw_L, lk_L, ik_L), rfl, hw, ⟨by rw [ht]; exact hP9, hD9⟩⟩, hS.F ht⟩) hS.2.2 dX2_tick_69
      · have hw := hw.2 c_1112
        refine lv_iload_n hx hb dX2_tick_43 rfl (lv_at hl 3 rfl) ?_
        refine lv_if_eq (tgt := 58) hx hb dX2_tick_44 (by decide) (fun c_1113 => ?_) (fun c_1113 => ?_)
        · have hw := hw.1 c_1113
          refine lv_aload_n hx hb dX2_tick_58 rfl (lv_at hl 0 rfl) ?_
          refine va_get (D := eD E) (ci := 3) (v := .int (gx_L 17)) (C := RX2) (T := TX2) (N := 19) hx hb hta lay_X2 hown hKE.1 hP 0 rfl rfl 17 (by decide) (hta _ tw_85) (fun _ h9 => h9) rfl dX2_tick_59 ?_
          refine lv_aload_n hx hb dX2_tick_62 rfl (lv_at hl 0 rfl) ?_
          refine va_get (D := eD E) (ci := 3) (v := .int (gx_L 18)) (C := RX2) (T := TX2) (N := 19) hx hb hta lay_X2 hown hKE.1 hP 0 rfl rfl 18 (by decide) (hta _ tw_86) (fun _ h9 => h9) rfl dX2_tick_63 ?_
          refine lv_iadd hx hb dX2_tick_66 ?_
          refine lv_iload_n hx hb dX2_tick_67 rfl (lv_at hl 2 rfl) ?_
          refine lv_isub hx hb dX2_tick_68 ?_
          have hP9 : va_P (eD E) vwCl (wX E ax gx_L lt_L mo_L ad_L ln_L PL_L pf_L pw_L pk_L lw_L lk_L ik_L) H := hP
          have hD9 : va_D A (wX E ax gx_L lt_L mo_L ad_L ln_L PL_L pf_L pw_L pk_L lw_L lk_L ik_L) := hD
          refine W.widen (k := 1) (n := 6) (Nat.le_of_ble_eq_true rfl) (Nat.le_of_ble_eq_true rfl) ?_
          refine vx_ret ?_
          exact W.iret (v := (((gx_L 17) + (gx_L 18)) - x2)) hx hb hr (fun t ht hW => ⟨⟨(((gx_L 17) + (gx_L 18)) - x2), (gx_L, lt_L, mo_L, ad_L, ln_L, PL_L, pf_L, pw_L, pk_L, lw_L, lk_L, ik_L), rfl, hw, ⟨by rw [ht]; exact hP9, hD9⟩⟩, hS.F ht⟩) hS.2.2 dX2_tick_69
        · have hw := hw.2 c_1113
          refine lv_aload_n hx hb dX2_tick_47 rfl (lv_at hl 0 rfl) ?_
          have hPc : va_P (eD E) vwCl (wX E ax gx_L lt_L mo_L ad_L ln_L PL_L pf_L pw_L pk_L lw_L lk_L ik_L) H := hP
          have hDc : va_D A (wX E ax gx_L lt_L mo_L ad_L ln_L PL_L pf_L pw_L pk_L lw_L lk_L ik_L) := hD
          have hFc : ∀ q, va_A (wX E ax gx_L lt_L mo_L ad_L ln_L PL_L pf_L pw_L pk_L lw_L lk_L ik_L) H.size q → A q := frS hDc hS hA
          refine va_calli (va_runV (As := []) (rest := []) ⟨hx, hb, hml, hown, hta⟩ (c_X2_doTick E l ax gx_L lt_L mo_L ad_L ln_L PL_L pf_L pw_L pk_L lw_L lk_L ik_L H.size _ hw) (pcV (n := 0) hta tw_465 tw_462 tw_1 tw_464 tp_24 rfl rfl hd_X2_doTick ⟨Nat.le_of_ble_eq_true rfl, Nat.le_of_ble_eq_true rfl⟩) ⟨fbM, va_recv hKE.1 hP (ci := 3) (q0 := 0) rfl rfl, fun U hU hW => ⟨rfl, preM.mk hPc hKE hDc hZ hS hFc hU hW⟩⟩ rfl rfl hl.1 rfl (lv_room (Nat.le_of_ble_eq_true rfl)) dX2_tick_48 ⟨Nat.le_of_ble_eq_true rfl, Nat.le_of_ble_eq_true rfl⟩) hS (fun q _ h => hFc q h) hFc (fun r_1114 u t H locs ht hvm hw hB hz1 hk1 hS => ?_)
          obtain ⟨gx_1115, lt_1116, mo_1117, ad_1118, ln_1119, PL_1120, pf_1121, pw_1122, pk_1123, lw_1124, lk_1125, ik_1126⟩ := u
          obtain ⟨hP1, hD1⟩ := hB
          rw [ht] at hP1
          try dsimp only at hw hP1 hD1
          have hP : va_P (eD E) vwCl ([((ax 0), .inr (3, [.ref (ax 1), .ref (ax 2), .ref (ax 4), .ref (ax 6), .int (gx_1115 4), .int (gx_1115 5), .int (gx_1115 6), .int (gx_1115 7), va_rf lt_1116, .int (gx_1115 9), .int (gx_1115 10), .int (gx_1115 11), .int (gx_1115 12), .int (gx_1115 13), .int (gx_1115 14), .int (gx_1115 15), .int (gx_1115 16), .int (gx_1115 17), .int (gx_1115 18)])), ((ax 1), .inr (0, [.int mo_1117, .ref ad_1118, .int ln_1119])), ((ax 2), .inr (2, [.ref (ax 3), .int pk_1123])), ((ax 3), .inl (eC E 1, 157, .inr (.inl pw_1122))), ((ax 4), .inr (2, [.ref (ax 5), .int lk_1125])), ((ax 5), .inl (eC E 1, 157, .inr (.inl lw_1124))), ((ax 6), .inl (eC E 0, 3, .inl ik_1126))] ++ va_pl PL_1120 pf_1121) H := hP1
          have hD : va_D A ([((ax 0), .inr (3, [.ref (ax 1), .ref (ax 2), .ref (ax 4), .ref (ax 6), .int (gx_1115 4), .int (gx_1115 5), .int (gx_1115 6), .int (gx_1115 7), va_rf lt_1116, .int (gx_1115 9), .int (gx_1115 10), .int (gx_1115 11), .int (gx_1115 12), .int (gx_1115 13), .int (gx_1115 14), .int (gx_1115 15), .int (gx_1115 16), .int (gx_1115 17), .int (gx_1115 18)])), ((ax 1), .inr (0, [.int mo_1117, .ref ad_1118, .int ln_1119])), ((ax 2), .inr (2, [.ref (ax 3), .int pk_1123])), ((ax 3), .inl (eC E 1, 157, .inr (.inl pw_1122))), ((ax 4), .inr (2, [.ref (ax 5), .int lk_1125])), ((ax 5), .inl (eC E 1, 157, .inr (.inl lw_1124))), ((ax 6), .inl (eC E 0, 3, .inl ik_1126))] ++ va_pl PL_1120 pf_1121) := hD1.weaken (fun _ q _ h => hFc q.1 h)
          refine lv_istore_n (lv' := [(3, .int r_1114), (0, .ref (ax 0)), (1, .int x1), (2, .int x2), (4, .int x4)]) hx hb dX2_tick_51 rfl hl (by decide) rfl (fun ls hl => ?_)
          refine lv_iinc (v := (x4 + 1)) (lv' := [(4, .int (x4 + 1)), (3, .int r_1114), (0, .ref (ax 0)), (1, .int x1), (2, .int x2)]) hx hb dX2_tick_52 hl (k := 4) rfl rfl (by decide) rfl (fun ls hl => ?_)
          refine lv_goto (tgt := 37) hx hb dX2_tick_55 (by decide) ?_
          exact ih gx_1115 lt_1116 mo_1117 ad_1118 ln_1119 PL_1120 pf_1121 pw_1122 pk_1123 lw_1124 lk_1125 ik_1126 x1 x2 r_1114 (x4 + 1) hw _ _ hP hD hS ls (lv_sub hl [2, 3, 4, 1, 0] rfl)
  unfold wp_X2_tick at hw
  refine lv_iload_n hx hb dX2_tick_0 rfl (lv_at hl 1 rfl) ?_
  refine lv_iconst (v := 1) hx hb dX2_tick_1 (by decide) ?_
  refine lv_icmp_lt (tgt := 12) hx hb dX2_tick_2 (by decide) (fun c_1110 => ?_) (fun c_1110 => ?_)
  · have hw := hw.1 c_1110
    have hP9 : va_P (eD E) vwCl (wX E ax gx lt mo ad ln PL pf pw pk lw lk ik) s.heap := hP
    have hD9 : va_D A (wX E ax gx lt mo ad ln PL pf pw pk lw lk ik) := hD
    exact vx_throwS (own := RX2) (cls := sIA) (text := "ticks are 1 to 1000") (names := nmE) hx hb hst hown fit_ia fit_E (hta _ tw_258) (hta _ tw_10) hKE.2.2.2.2.2.1.2.1 (hat_ia hta hKE) ot_ia hZ.2.2.1 hZ.2.2.2 hS (hl.1.trans hml.symm) dX2_tick_12 dX2_tick_15 dX2_tick_16 dX2_tick_18 dX2_tick_21 (fun x hx9 => (htab x hx9).elim) (Nat.le_of_ble_eq_true rfl) (Nat.le_of_ble_eq_true rfl) (Nat.le_of_ble_eq_true rfl) (Nat.le_of_ble_eq_true rfl) hlocks (fun t hal hz hk => ⟨(), trivial, ⟨hw, hP9.kept (fun k q hq => hk q.1 (hP9 k q hq).lt), hD9⟩, Nat.le_trans hS.1 hz, fun q h1 h2 => (hk q (Nat.lt_of_lt_of_le h1 hS.1)).trans (hS.2.1 q h1 h2)⟩) hS.2.2 (Nat.le_of_ble_eq_true rfl) (Nat.le_of_ble_eq_true rfl)
  · have hw := hw.2 c_1110
    refine lv_iload_n hx hb dX2_tick_5 rfl (lv_at hl 1 rfl) ?_
    refine lv_sipush (v := 1000) hx hb dX2_tick_6 (by decide) ?_
    refine lv_icmp_le (tgt := 22) hx hb dX2_tick_9 (by decide) (fun c_1111 => ?_) (fun c_1111 => ?_)
    · have hw := hw.1 c_1111
      refine lv_aload_n hx hb dX2_tick_22 rfl (lv_at hl 0 rfl) ?_
      refine va_get (D := eD E) (ci := 3) (v := .int (gx 17)) (C := RX2) (T := TX2) (N := 19) hx hb hta lay_X2 hown hKE.1 hP 0 rfl rfl 17 (by decide) (hta _ tw_85) (fun _ h9 => h9) rfl dX2_tick_23 ?_
      refine lv_aload_n hx hb dX2_tick_26 rfl (lv_at hl 0 rfl) ?_
      refine va_get (D := eD E) (ci := 3) (v := .int (gx 18)) (C := RX2) (T := TX2) (N := 19) hx hb hta lay_X2 hown hKE.1 hP 0 rfl rfl 18 (by decide) (hta _ tw_86) (fun _ h9 => h9) rfl dX2_tick_27 ?_
      refine lv_iadd hx hb dX2_tick_30 ?_
      refine lv_istore_n (lv' := [(2, .int ((gx 17) + (gx 18))), (0, .ref (ax 0)), (1, .int p0)]) hx hb dX2_tick_31 rfl hl (by decide) rfl (fun ls hl => ?_)
      refine lv_iconst (v := 1) hx hb dX2_tick_32 (by decide) ?_
      refine lv_istore_n (lv' := [(3, .int 1), (2, .int ((gx 17) + (gx 18))), (0, .ref (ax 0)), (1, .int p0)]) hx hb dX2_tick_33 rfl hl (by decide) rfl (fun ls hl => ?_)
      refine lv_iconst (v := 0) hx hb dX2_tick_34 (by decide) ?_
      refine lv_istore (lv' := [(4, .int 0), (3, .int 1), (2, .int ((gx 17) + (gx 18))), (0, .ref (ax 0)), (1, .int p0)]) hx hb dX2_tick_35 hl (by decide) rfl (fun ls hl => ?_)
      obtain ⟨n_1127, hw⟩ := hw
      exact loop_37 n_1127 gx lt mo ad ln PL pf pw pk lw lk ik p0 ((gx 17) + (gx 18)) 1 0 hw _ _ hP hD hS ls (lv_sub hl [3, 4, 2, 1, 0] rfl)
    · have hw := hw.2 c_1111
      have hP9 : va_P (eD E) vwCl (wX E ax gx lt mo ad ln PL pf pw pk lw lk ik) s.heap := hP
      have hD9 : va_D A (wX E ax gx lt mo ad ln PL pf pw pk lw lk ik) := hD
      exact vx_throwS (own := RX2) (cls := sIA) (text := "ticks are 1 to 1000") (names := nmE) hx hb hst hown fit_ia fit_E (hta _ tw_258) (hta _ tw_10) hKE.2.2.2.2.2.1.2.1 (hat_ia hta hKE) ot_ia hZ.2.2.1 hZ.2.2.2 hS (hl.1.trans hml.symm) dX2_tick_12 dX2_tick_15 dX2_tick_16 dX2_tick_18 dX2_tick_21 (fun x hx9 => (htab x hx9).elim) (Nat.le_of_ble_eq_true rfl) (Nat.le_of_ble_eq_true rfl) (Nat.le_of_ble_eq_true rfl) (Nat.le_of_ble_eq_true rfl) hlocks (fun t hal hz hk => ⟨(), trivial, ⟨hw, hP9.kept (fun k q hq => hk q.1 (hP9 k q hq).lt), hD9⟩, Nat.le_trans hS.1 hz, fun q h1 h2 => (hk q (Nat.lt_of_lt_of_le h1 hS.1)).trans (hS.2.1 q h1 h2)⟩) hS.2.2 (Nat.le_of_ble_eq_true rfl) (Nat.le_of_ble_eq_true rfl)
def wp_X2_refill (E : EV) (post : Int32 → (Nat → Int32) → Option Nat → Int32 → Nat → Int32 → List Nat → (Nat → va_E) → (Nat → Int64) → Int32 → (Nat → Int64) → Int32 → (Nat → Int32) → Prop) (postX : String → Prop) (gx : Nat → Int32) (lt : Option Nat) (mo : Int32) (ad : Nat) (ln : Int32) (PL : List Nat) (pf : Nat → va_E) (pw : Nat → Int64) (pk : Int32) (lw : Nat → Int64) (lk : Int32) (ik : Nat → Int32) (p0 : Int32) : Prop := (wp_X2_hasPen E (fun r_1128 : Int32 => ((r_1128 = 0 → postX sIB) ∧ (¬ (r_1128 = 0) → (wp_X2_inkOf E (fun r_1130 : Int32 => (wp_X2_setInk E (fun (gx_1132 : Nat → Int32) (lt_1133 : Option Nat) (mo_1134 : Int32) (ad_1135 : Nat) (ln_1136 : Int32) (PL_1137 : List Nat) (pf_1138 : Nat → va_E) (pw_1139 : Nat → Int64) (pk_1140 : Int32) (lw_1141 : Nat → Int64) (lk_1142 : Int32) (ik_1143 : Nat → Int32) => post r_1130 gx_1132 lt_1133 mo_1134 ad_1135 ln_1136 PL_1137 pf_1138 pw_1139 pk_1140 lw_1141 lk_1142 ik_1143) gx lt mo ad ln PL pf pw pk lw lk ik p0 500)) gx lt mo ad ln PL pf pw pk lw lk ik p0)))) p0)
set_option maxHeartbeats 4000000 in
set_option maxRecDepth 100000 in
theorem c_X2_refill (E : EV) (l : Launch) (ax : Nat → Nat) (gx : Nat → Int32) (lt : Option Nat) (mo : Int32) (ad : Nat) (ln : Int32) (PL : List Nat) (pf : Nat → va_E) (pw : Nat → Int64) (pk : Int32) (lw : Nat → Int64) (lk : Int32) (ik : Nat → Int32) (p0 : Int32) (hz : Nat) (post : Int32 → (Nat → Int32) → Option Nat → Int32 → Nat → Int32 → List Nat → (Nat → va_E) → (Nat → Int64) → Int32 → (Nat → Int64) → Int32 → (Nat → Int32) → Prop) (postX : String → Prop) (hw : wp_X2_refill E post postX gx lt mo ad ln PL pf pw pk lw lk ik p0) (hst : l.stackTraces = false) : vx_Met l yX2_refill (Cond.code yX2_refill cX2_refill 3 (some .int) :: ALLW) ({ frames := 7, cells := 1, slots := 6, locals := 120 } : Room) (va_Pc [.ref (ax 0), .int p0] (preM E (wX E ax gx lt mo ad ln PL pf pw pk lw lk ik) hz)) (va_Qi (fun (r : Int32) (u : (Nat → Int32) × Option Nat × Int32 × Nat × Int32 × List Nat × (Nat → va_E) × (Nat → Int64) × Int32 × (Nat → Int64) × Int32 × (Nat → Int32)) => post r u.1 u.2.1 u.2.2.1 u.2.2.2.1 u.2.2.2.2.1 u.2.2.2.2.2.1 u.2.2.2.2.2.2.1 u.2.2.2.2.2.2.2.1 u.2.2.2.2.2.2.2.2.1 u.2.2.2.2.2.2.2.2.2.1 u.2.2.2.2.2.2.2.2.2.2.1 u.2.2.2.2.2.2.2.2.2.2.2) (fun (u : (Nat → Int32) × Option Nat × Int32 × Nat × Int32 × List Nat × (Nat → va_E) × (Nat → Int64) × Int32 × (Nat → Int64) × Int32 × (Nat → Int32)) t => va_P (eD E) vwCl (wX E ax u.1 u.2.1 u.2.2.1 u.2.2.2.1 u.2.2.2.2.1 u.2.2.2.2.2.1 u.2.2.2.2.2.2.1 u.2.2.2.2.2.2.2.1 u.2.2.2.2.2.2.2.2.1 u.2.2.2.2.2.2.2.2.2.1 u.2.2.2.2.2.2.2.2.2.2.1 u.2.2.2.2.2.2.2.2.2.2.2) t.heap ∧ va_D (va_A (wX E ax gx lt mo ad ln PL pf pw pk lw lk ik) hz) (wX E ax u.1 u.2.1 u.2.2.1 u.2.2.2.1 u.2.2.2.2.1 u.2.2.2.2.2.1 u.2.2.2.2.2.2.1 u.2.2.2.2.2.2.2.1 u.2.2.2.2.2.2.2.2.1 u.2.2.2.2.2.2.2.2.2.1 u.2.2.2.2.2.2.2.2.2.2.1 u.2.2.2.2.2.2.2.2.2.2.2)) (va_A (wX E ax gx lt mo ad ln PL pf pw pk lw lk ik) hz)) (vx_X (fun _ : Unit => True) (fun E9 (_ : Unit) t => postX E9 ∧ va_P (eD E) vwCl (wX E ax gx lt mo ad ln PL pf pw pk lw lk ik) t.heap ∧ va_D (va_A (wX E ax gx lt mo ad ln PL pf pw pk lw lk ik) hz) (wX E ax gx lt mo ad ln PL pf pw pk lw lk ik)) (va_A (wX E ax gx lt mo ad ln PL pf pw pk lw lk ik) hz)) 1 6 (va_A (wX E ax gx lt mo ad ln PL pf pw pk lw lk ik) hz) := by
  refine vx_ofW (cc := cX2_refill) (maxL := 3) (ret := (some .int)) (by decide) rfl ?_
  intro p e s m args below meth c s₁ B hml htab hv
  obtain ⟨rfl, hpre⟩ := hv
  have hx := B.exec
  have hb := B.bytes
  have hr := B.returns
  have hlocks := B.notSynchronized
  have hts := atoms_spec (ws := (Cond.code yX2_refill cX2_refill 3 (some .int) :: ALLW)) B.pre
  have hta : ∀ w ∈ ALLW, w.before ([.ref (ax 0), .int p0] : List Value).toArray s = true := fun w h => hts w (List.mem_cons_of_mem _ h)
  have hown : s.vm.findClass RX2 = some m.cls := findClass_of_methodNamed B.named
  obtain ⟨hsz, hP, hKE, hD0, hZ⟩ := hpre
  subst hsz
  have hD := hD0.self (sz := s.heap.size)
  generalize hAe : va_A (wX E ax gx lt mo ad ln PL pf pw pk lw lk ik) s.heap.size = A at hD hZ ⊢
  have hA : ∀ q : Nat, s.heap.size ≤ q → A q := fun q h => by rw [← hAe]; exact Or.inr h
  have hS : va_S A s.heap s.heap [] := va_S.rf
  have hP : va_P (eD E) vwCl ([((ax 0), .inr (3, [.ref (ax 1), .ref (ax 2), .ref (ax 4), .ref (ax 6), .int (gx 4), .int (gx 5), .int (gx 6), .int (gx 7), va_rf lt, .int (gx 9), .int (gx 10), .int (gx 11), .int (gx 12), .int (gx 13), .int (gx 14), .int (gx 15), .int (gx 16), .int (gx 17), .int (gx 18)])), ((ax 1), .inr (0, [.int mo, .ref ad, .int ln])), ((ax 2), .inr (2, [.ref (ax 3), .int pk])), ((ax 3), .inl (eC E 1, 157, .inr (.inl pw))), ((ax 4), .inr (2, [.ref (ax 5), .int lk])), ((ax 5), .inl (eC E 1, 157, .inr (.inl lw))), ((ax 6), .inl (eC E 0, 3, .inl ik))] ++ va_pl PL pf) s.heap := hP
  have hD : va_D A ([((ax 0), .inr (3, [.ref (ax 1), .ref (ax 2), .ref (ax 4), .ref (ax 6), .int (gx 4), .int (gx 5), .int (gx 6), .int (gx 7), va_rf lt, .int (gx 9), .int (gx 10), .int (gx 11), .int (gx 12), .int (gx 13), .int (gx 14), .int (gx 15), .int (gx 16), .int (gx 17), .int (gx 18)])), ((ax 1), .inr (0, [.int mo, .ref ad, .int ln])), ((ax 2), .inr (2, [.ref (ax 3), .int pk])), ((ax 3), .inl (eC E 1, 157, .inr (.inl pw))), ((ax 4), .inr (2, [.ref (ax 5), .int lk])), ((ax 5), .inl (eC E 1, 157, .inr (.inl lw))), ((ax 6), .inl (eC E 0, 3, .inl ik))] ++ va_pl PL pf) := hD
  have hl := lv_entry ([.ref (ax 0), .int p0]) (n := 3) (Nat.le_of_ble_eq_true rfl)
  rw [lg_entry_eq]
  generalize (lg_sl ([.ref (ax 0), .int p0]) ++ List.replicate (3 - (lg_sl ([.ref (ax 0), .int p0])).length) Slot.unset).toArray = ls at hl ⊢
  have hl : lv_has ls 3 [(0, .ref (ax 0)), (1, .int p0)] := hl
  unfold wp_X2_refill at hw
  refine lv_iload_n hx hb dX2_refill_0 rfl (lv_at hl 1 rfl) ?_
  have hPc : va_P (eD E) vwCl [] s.heap := va_P_nil
  refine vp_callSi (va_Run.run (va_runS (As := [.int p0]) (rest := []) ⟨hx, hb, hml, hown, hta⟩ (c_X2_hasPen E l p0 _ hw) (pcS (n := 1) hta tw_351 tw_349 tw_1 tw_350 rfl rfl hd_X2_hasPen ⟨Nat.le_of_ble_eq_true rfl, Nat.le_of_ble_eq_true rfl⟩) ⟨fbR, fun U hU hW => ⟨rfl, preR.mk hPc hKE hU hW⟩⟩ rfl rfl hl.1 rfl (lv_room (Nat.le_of_ble_eq_true rfl)) dX2_refill_1 ⟨Nat.le_of_ble_eq_true rfl, Nat.le_of_ble_eq_true rfl⟩)) (fun r_1128 hw => ?_)
  refine lv_if_ne (tgt := 17) hx hb dX2_refill_4 (by decide) (fun c_1129 => ?_) (fun c_1129 => ?_)
  · have hw := hw.2 c_1129
    refine lv_aload_n hx hb dX2_refill_17 rfl (lv_at hl 0 rfl) ?_
    refine lv_iload_n hx hb dX2_refill_18 rfl (lv_at hl 1 rfl) ?_
    have hPc : va_P (eD E) vwCl (wX E ax gx lt mo ad ln PL pf pw pk lw lk ik) s.heap := hP
    refine vp_callSi (va_Run.run (va_runV (As := [.int p0]) (rest := []) ⟨hx, hb, hml, hown, hta⟩ (c_X2_inkOf E l ax gx lt mo ad ln PL pf pw pk lw lk ik p0 _ hw) (pcV (n := 1) hta tw_228 tw_225 tw_1 tw_227 tp_9 rfl rfl hd_X2_inkOf ⟨Nat.le_of_ble_eq_true rfl, Nat.le_of_ble_eq_true rfl⟩) ⟨fbR, va_recv hKE.1 hP (ci := 3) (q0 := 0) rfl rfl, fun U hU hW => ⟨rfl, preR.mk hPc hKE hU hW⟩⟩ rfl rfl hl.1 rfl (lv_room (Nat.le_of_ble_eq_true rfl)) dX2_refill_19 ⟨Nat.le_of_ble_eq_true rfl, Nat.le_of_ble_eq_true rfl⟩)) (fun r_1130 hw => ?_)
    refine lv_istore_n (lv' := [(2, .int r_1130), (0, .ref (ax 0)), (1, .int p0)]) hx hb dX2_refill_22 rfl hl (by decide) rfl (fun ls hl => ?_)
    refine lv_aload_n hx hb dX2_refill_23 rfl (lv_at hl 1 rfl) ?_
    refine lv_iload_n hx hb dX2_refill_24 rfl (lv_at hl 2 rfl) ?_
    refine lv_sipush (v := 500) hx hb dX2_refill_25 (by decide) ?_
    have hPc : va_P (eD E) vwCl (wX E ax gx lt mo ad ln PL pf pw pk lw lk ik) s.heap := hP
    have hDc : va_D A (wX E ax gx lt mo ad ln PL pf pw pk lw lk ik) := hD
    have hFc : ∀ q, va_A (wX E ax gx lt mo ad ln PL pf pw pk lw lk ik) s.heap.size q → A q := frS hDc hS hA
    refine va_callv (va_runV (As := [.int p0, .int 500]) (rest := []) ⟨hx, hb, hml, hown, hta⟩ (c_X2_setInk E l ax gx lt mo ad ln PL pf pw pk lw lk ik p0 500 s.heap.size _ hw) (pcV (n := 2) hta tw_498 tw_495 tw_1 tw_497 tp_31 rfl rfl hd_X2_setInk ⟨Nat.le_of_ble_eq_true rfl, Nat.le_of_ble_eq_true rfl⟩) ⟨fbM, va_recv hKE.1 hP (ci := 3) (q0 := 0) rfl rfl, fun U hU hW => ⟨rfl, preM.mk hPc hKE hDc hZ hS hFc hU hW⟩⟩ rfl rfl hl.1 rfl (lv_room (Nat.le_of_ble_eq_true rfl)) dX2_refill_28 ⟨Nat.le_of_ble_eq_true rfl, Nat.le_of_ble_eq_true rfl⟩) hS (fun q _ h => hFc q h) hFc (fun u t H locs ht hvm hw hB hz1 hk1 hS => ?_)
    obtain ⟨gx_1132, lt_1133, mo_1134, ad_1135, ln_1136, PL_1137, pf_1138, pw_1139, pk_1140, lw_1141, lk_1142, ik_1143⟩ := u
    obtain ⟨hP1, hD1⟩ := hB
    rw [ht] at hP1
    try dsimp only at hw hP1 hD1
    have hP : va_P (eD E) vwCl ([((ax 0), .inr (3, [.ref (ax 1), .ref (ax 2), .ref (ax 4), .ref (ax 6), .int (gx_1132 4), .int (gx_1132 5), .int (gx_1132 6), .int (gx_1132 7), va_rf lt_1133, .int (gx_1132 9), .int (gx_1132 10), .int (gx_1132 11), .int (gx_1132 12), .int (gx_1132 13), .int (gx_1132 14), .int (gx_1132 15), .int (gx_1132 16), .int (gx_1132 17), .int (gx_1132 18)])), ((ax 1), .inr (0, [.int mo_1134, .ref ad_1135, .int ln_1136])), ((ax 2), .inr (2, [.ref (ax 3), .int pk_1140])), ((ax 3), .inl (eC E 1, 157, .inr (.inl pw_1139))), ((ax 4), .inr (2, [.ref (ax 5), .int lk_1142])), ((ax 5), .inl (eC E 1, 157, .inr (.inl lw_1141))), ((ax 6), .inl (eC E 0, 3, .inl ik_1143))] ++ va_pl PL_1137 pf_1138) H := hP1
    have hD : va_D A ([((ax 0), .inr (3, [.ref (ax 1), .ref (ax 2), .ref (ax 4), .ref (ax 6), .int (gx_1132 4), .int (gx_1132 5), .int (gx_1132 6), .int (gx_1132 7), va_rf lt_1133, .int (gx_1132 9), .int (gx_1132 10), .int (gx_1132 11), .int (gx_1132 12), .int (gx_1132 13), .int (gx_1132 14), .int (gx_1132 15), .int (gx_1132 16), .int (gx_1132 17), .int (gx_1132 18)])), ((ax 1), .inr (0, [.int mo_1134, .ref ad_1135, .int ln_1136])), ((ax 2), .inr (2, [.ref (ax 3), .int pk_1140])), ((ax 3), .inl (eC E 1, 157, .inr (.inl pw_1139))), ((ax 4), .inr (2, [.ref (ax 5), .int lk_1142])), ((ax 5), .inl (eC E 1, 157, .inr (.inl lw_1141))), ((ax 6), .inl (eC E 0, 3, .inl ik_1143))] ++ va_pl PL_1137 pf_1138) := hD1.weaken (fun _ q _ h => hFc q.1 h)
    refine lv_iload_n hx hb dX2_refill_31 rfl (lv_at hl 0 rfl) ?_
    have hP9 : va_P (eD E) vwCl (wX E ax gx_1132 lt_1133 mo_1134 ad_1135 ln_1136 PL_1137 pf_1138 pw_1139 pk_1140 lw_1141 lk_1142 ik_1143) H := hP
    have hD9 : va_D A (wX E ax gx_1132 lt_1133 mo_1134 ad_1135 ln_1136 PL_1137 pf_1138 pw_1139 pk_1140 lw_1141 lk_1142 ik_1143) := hD
    refine W.widen (k := 1) (n := 6) (Nat.le_of_ble_eq_true rfl) (Nat.le_of_ble_eq_true rfl) ?_
    refine vx_ret ?_
    exact W.iret (v := r_1130) hx hb hr (fun t ht hW => ⟨⟨r_1130, (gx_1132, lt_1133, mo_1134, ad_1135, ln_1136, PL_1137, pf_1138, pw_1139, pk_1140, lw_1141, lk_1142, ik_1143), rfl, hw, ⟨by rw [ht]; exact hP9, hD9⟩⟩, hS.F ht⟩) hS.2.2 dX2_refill_32
  · have hw := hw.1 c_1129
    have hP9 : va_P (eD E) vwCl (wX E ax gx lt mo ad ln PL pf pw pk lw lk ik) s.heap := hP
    have hD9 : va_D A (wX E ax gx lt mo ad ln PL pf pw pk lw lk ik) := hD
    exact vx_throwS (own := RX2) (cls := sIB) (text := "a pen is 0 to 2") (names := nmE) hx hb hst hown fit_ib fit_E (hta _ tw_507) (hta _ tw_18) hKE.2.2.2.2.2.1.2.2.1 (hat_ib hta hKE) ot_ib hZ.2.2.1 hZ.2.2.2 hS (hl.1.trans hml.symm) dX2_refill_7 dX2_refill_10 dX2_refill_11 dX2_refill_13 dX2_refill_16 (fun x hx9 => (htab x hx9).elim) (Nat.le_of_ble_eq_true rfl) (Nat.le_of_ble_eq_true rfl) (Nat.le_of_ble_eq_true rfl) (Nat.le_of_ble_eq_true rfl) hlocks (fun t hal hz hk => ⟨(), trivial, ⟨hw, hP9.kept (fun k q hq => hk q.1 (hP9 k q hq).lt), hD9⟩, Nat.le_trans hS.1 hz, fun q h1 h2 => (hk q (Nat.lt_of_lt_of_le h1 hS.1)).trans (hS.2.1 q h1 h2)⟩) hS.2.2 (Nat.le_of_ble_eq_true rfl) (Nat.le_of_ble_eq_true rfl)
def wp_X2_pour (E : EV) (post : Int32 → (Nat → Int32) → Option Nat → Int32 → Nat → Int32 → List Nat → (Nat → va_E) → (Nat → Int64) → Int32 → (Nat → Int64) → Int32 → (Nat → Int32) → Prop) (postX : String → Prop) (gx : Nat → Int32) (lt : Option Nat) (mo : Int32) (ad : Nat) (ln : Int32) (PL : List Nat) (pf : Nat → va_E) (pw : Nat → Int64) (pk : Int32) (lw : Nat → Int64) (lk : Int32) (ik : Nat → Int32) (p0 : Int32) (p1 : Int32) : Prop := (wp_X2_hasPen E (fun r_1144 : Int32 => ((r_1144 = 0 → postX sIB) ∧ (¬ (r_1144 = 0) → ((p1 < 1 → postX sIA) ∧ (¬ (p1 < 1) → ((p1 ≤ 500 → (wp_X2_inkOf E (fun r_1148 : Int32 => (wp_X2_setInk E (fun (gx_1150 : Nat → Int32) (lt_1151 : Option Nat) (mo_1152 : Int32) (ad_1153 : Nat) (ln_1154 : Int32) (PL_1155 : List Nat) (pf_1156 : Nat → va_E) (pw_1157 : Nat → Int64) (pk_1158 : Int32) (lw_1159 : Nat → Int64) (lk_1160 : Int32) (ik_1161 : Nat → Int32) => post (if 0 < (r_1148 - p1) then (r_1148 - p1) else 0) gx_1150 lt_1151 mo_1152 ad_1153 ln_1154 PL_1155 pf_1156 pw_1157 pk_1158 lw_1159 lk_1160 ik_1161) gx lt mo ad ln PL pf pw pk lw lk ik p0 (if 0 < (r_1148 - p1) then (r_1148 - p1) else 0))) gx lt mo ad ln PL pf pw pk lw lk ik p0)) ∧ (¬ (p1 ≤ 500) → postX sIA))))))) p0)
set_option maxHeartbeats 4000000 in
set_option maxRecDepth 100000 in
theorem c_X2_pour (E : EV) (l : Launch) (ax : Nat → Nat) (gx : Nat → Int32) (lt : Option Nat) (mo : Int32) (ad : Nat) (ln : Int32) (PL : List Nat) (pf : Nat → va_E) (pw : Nat → Int64) (pk : Int32) (lw : Nat → Int64) (lk : Int32) (ik : Nat → Int32) (p0 : Int32) (p1 : Int32) (hz : Nat) (post : Int32 → (Nat → Int32) → Option Nat → Int32 → Nat → Int32 → List Nat → (Nat → va_E) → (Nat → Int64) → Int32 → (Nat → Int64) → Int32 → (Nat → Int32) → Prop) (postX : String → Prop) (hw : wp_X2_pour E post postX gx lt mo ad ln PL pf pw pk lw lk ik p0 p1) (hst : l.stackTraces = false) : vx_Met l yX2_pour (Cond.code yX2_pour cX2_pour 4 (some .int) :: ALLW) ({ frames := 7, cells := 1, slots := 6, locals := 120 } : Room) (va_Pc [.ref (ax 0), .int p0, .int p1] (preM E (wX E ax gx lt mo ad ln PL pf pw pk lw lk ik) hz)) (va_Qi (fun (r : Int32) (u : (Nat → Int32) × Option Nat × Int32 × Nat × Int32 × List Nat × (Nat → va_E) × (Nat → Int64) × Int32 × (Nat → Int64) × Int32 × (Nat → Int32)) => post r u.1 u.2.1 u.2.2.1 u.2.2.2.1 u.2.2.2.2.1 u.2.2.2.2.2.1 u.2.2.2.2.2.2.1 u.2.2.2.2.2.2.2.1 u.2.2.2.2.2.2.2.2.1 u.2.2.2.2.2.2.2.2.2.1 u.2.2.2.2.2.2.2.2.2.2.1 u.2.2.2.2.2.2.2.2.2.2.2) (fun (u : (Nat → Int32) × Option Nat × Int32 × Nat × Int32 × List Nat × (Nat → va_E) × (Nat → Int64) × Int32 × (Nat → Int64) × Int32 × (Nat → Int32)) t => va_P (eD E) vwCl (wX E ax u.1 u.2.1 u.2.2.1 u.2.2.2.1 u.2.2.2.2.1 u.2.2.2.2.2.1 u.2.2.2.2.2.2.1 u.2.2.2.2.2.2.2.1 u.2.2.2.2.2.2.2.2.1 u.2.2.2.2.2.2.2.2.2.1 u.2.2.2.2.2.2.2.2.2.2.1 u.2.2.2.2.2.2.2.2.2.2.2) t.heap ∧ va_D (va_A (wX E ax gx lt mo ad ln PL pf pw pk lw lk ik) hz) (wX E ax u.1 u.2.1 u.2.2.1 u.2.2.2.1 u.2.2.2.2.1 u.2.2.2.2.2.1 u.2.2.2.2.2.2.1 u.2.2.2.2.2.2.2.1 u.2.2.2.2.2.2.2.2.1 u.2.2.2.2.2.2.2.2.2.1 u.2.2.2.2.2.2.2.2.2.2.1 u.2.2.2.2.2.2.2.2.2.2.2)) (va_A (wX E ax gx lt mo ad ln PL pf pw pk lw lk ik) hz)) (vx_X (fun _ : Unit => True) (fun E9 (_ : Unit) t => postX E9 ∧ va_P (eD E) vwCl (wX E ax gx lt mo ad ln PL pf pw pk lw lk ik) t.heap ∧ va_D (va_A (wX E ax gx lt mo ad ln PL pf pw pk lw lk ik) hz) (wX E ax gx lt mo ad ln PL pf pw pk lw lk ik)) (va_A (wX E ax gx lt mo ad ln PL pf pw pk lw lk ik) hz)) 1 6 (va_A (wX E ax gx lt mo ad ln PL pf pw pk lw lk ik) hz) := by
  refine vx_ofW (cc := cX2_pour) (maxL := 4) (ret := (some .int)) (by decide) rfl ?_
  intro p e s m args below meth c s₁ B hml htab hv
  obtain ⟨rfl, hpre⟩ := hv
  have hx := B.exec
  have hb := B.bytes
  have hr := B.returns
  have hlocks := B.notSynchronized
  have hts := atoms_spec (ws := (Cond.code yX2_pour cX2_pour 4 (some .int) :: ALLW)) B.pre
  have hta : ∀ w ∈ ALLW, w.before ([.ref (ax 0), .int p0, .int p1] : List Value).toArray s = true := fun w h => hts w (List.mem_cons_of_mem _ h)
  have hown : s.vm.findClass RX2 = some m.cls := findClass_of_methodNamed B.named
  obtain ⟨hsz, hP, hKE, hD0, hZ⟩ := hpre
  subst hsz
  have hD := hD0.self (sz := s.heap.size)
  generalize hAe : va_A (wX E ax gx lt mo ad ln PL pf pw pk lw lk ik) s.heap.size = A at hD hZ ⊢
  have hA : ∀ q : Nat, s.heap.size ≤ q → A q := fun q h => by rw [← hAe]; exact Or.inr h
  have hS : va_S A s.heap s.heap [] := va_S.rf
  have hP : va_P (eD E) vwCl ([((ax 0), .inr (3, [.ref (ax 1), .ref (ax 2), .ref (ax 4), .ref (ax 6), .int (gx 4), .int (gx 5), .int (gx 6), .int (gx 7), va_rf lt, .int (gx 9), .int (gx 10), .int (gx 11), .int (gx 12), .int (gx 13), .int (gx 14), .int (gx 15), .int (gx 16), .int (gx 17), .int (gx 18)])), ((ax 1), .inr (0, [.int mo, .ref ad, .int ln])), ((ax 2), .inr (2, [.ref (ax 3), .int pk])), ((ax 3), .inl (eC E 1, 157, .inr (.inl pw))), ((ax 4), .inr (2, [.ref (ax 5), .int lk])), ((ax 5), .inl (eC E 1, 157, .inr (.inl lw))), ((ax 6), .inl (eC E 0, 3, .inl ik))] ++ va_pl PL pf) s.heap := hP
  have hD : va_D A ([((ax 0), .inr (3, [.ref (ax 1), .ref (ax 2), .ref (ax 4), .ref (ax 6), .int (gx 4), .int (gx 5), .int (gx 6), .int (gx 7), va_rf lt, .int (gx 9), .int (gx 10), .int (gx 11), .int (gx 12), .int (gx 13), .int (gx 14), .int (gx 15), .int (gx 16), .int (gx 17), .int (gx 18)])), ((ax 1), .inr (0, [.int mo, .ref ad, .int ln])), ((ax 2), .inr (2, [.ref (ax 3), .int pk])), ((ax 3), .inl (eC E 1, 157, .inr (.inl pw))), ((ax 4), .inr (2, [.ref (ax 5), .int lk])), ((ax 5), .inl (eC E 1, 157, .inr (.inl lw))), ((ax 6), .inl (eC E 0, 3, .inl ik))] ++ va_pl PL pf) := hD
  have hl := lv_entry ([.ref (ax 0), .int p0, .int p1]) (n := 4) (Nat.le_of_ble_eq_true rfl)
  rw [lg_entry_eq]
  generalize (lg_sl ([.ref (ax 0), .int p0, .int p1]) ++ List.replicate (4 - (lg_sl ([.ref (ax 0), .int p0, .int p1])).length) Slot.unset).toArray = ls at hl ⊢
  have hl : lv_has ls 4 [(0, .ref (ax 0)), (1, .int p0), (2, .int p1)] := hl
  unfold wp_X2_pour at hw
  refine lv_iload_n hx hb dX2_pour_0 rfl (lv_at hl 1 rfl) ?_
  have hPc : va_P (eD E) vwCl [] s.heap := va_P_nil
  refine vp_callSi (va_Run.run (va_runS (As := [.int p0]) (rest := []) ⟨hx, hb, hml, hown, hta⟩ (c_X2_hasPen E l p0 _ hw) (pcS (n := 1) hta tw_351 tw_349 tw_1 tw_350 rfl rfl hd_X2_hasPen ⟨Nat.le_of_ble_eq_true rfl, Nat.le_of_ble_eq_true rfl⟩) ⟨fbR, fun U hU hW => ⟨rfl, preR.mk hPc hKE hU hW⟩⟩ rfl rfl hl.1 rfl (lv_room (Nat.le_of_ble_eq_true rfl)) dX2_pour_1 ⟨Nat.le_of_ble_eq_true rfl, Nat.le_of_ble_eq_true rfl⟩)) (fun r_1144 hw => ?_)
  refine lv_if_ne (tgt := 17) hx hb dX2_pour_4 (by decide) (fun c_1145 => ?_) (fun c_1145 => ?_)
  · have hw := hw.2 c_1145
    refine lv_iload_n hx hb dX2_pour_17 rfl (lv_at hl 2 rfl) ?_
    refine lv_iconst (v := 1) hx hb dX2_pour_18 (by decide) ?_
    refine lv_icmp_lt (tgt := 29) hx hb dX2_pour_19 (by decide) (fun c_1146 => ?_) (fun c_1146 => ?_)
    · have hw := hw.1 c_1146
      have hP9 : va_P (eD E) vwCl (wX E ax gx lt mo ad ln PL pf pw pk lw lk ik) s.heap := hP
      have hD9 : va_D A (wX E ax gx lt mo ad ln PL pf pw pk lw lk ik) := hD
      exact vx_throwS (own := RX2) (cls := sIA) (text := "an amount is 1 to 500") (names := nmE) hx hb hst hown fit_ia fit_E (hta _ tw_258) (hta _ tw_10) hKE.2.2.2.2.2.1.2.2.2.1 (hat_ia hta hKE) ot_ia hZ.2.2.1 hZ.2.2.2 hS (hl.1.trans hml.symm) dX2_pour_29 dX2_pour_32 dX2_pour_33 dX2_pour_35 dX2_pour_38 (fun x hx9 => (htab x hx9).elim) (Nat.le_of_ble_eq_true rfl) (Nat.le_of_ble_eq_true rfl) (Nat.le_of_ble_eq_true rfl) (Nat.le_of_ble_eq_true rfl) hlocks (fun t hal hz hk => ⟨(), trivial, ⟨hw, hP9.kept (fun k q hq => hk q.1 (hP9 k q hq).lt), hD9⟩, Nat.le_trans hS.1 hz, fun q h1 h2 => (hk q (Nat.lt_of_lt_of_le h1 hS.1)).trans (hS.2.1 q h1 h2)⟩) hS.2.2 (Nat.le_of_ble_eq_true rfl) (Nat.le_of_ble_eq_true rfl)
    · have hw := hw.2 c_1146
      refine lv_iload_n hx hb dX2_pour_22 rfl (lv_at hl 2 rfl) ?_
      refine lv_sipush (v := 500) hx hb dX2_pour_23 (by decide) ?_
      refine lv_icmp_le (tgt := 39) hx hb dX2_pour_26 (by decide) (fun c_1147 => ?_) (fun c_1147 => ?_)
      · have hw := hw.1 c_1147
        refine lv_iconst (v := 0) hx hb dX2_pour_39 (by decide) ?_
        refine lv_aload_n hx hb dX2_pour_40 rfl (lv_at hl 0 rfl) ?_
        refine lv_iload_n hx hb dX2_pour_41 rfl (lv_at hl 1 rfl) ?_
        have hPc : va_P (eD E) vwCl (wX E ax gx lt mo ad ln PL pf pw pk lw lk ik) s.heap := hP
        refine vp_callSi (va_Run.run (va_runV (As := [.int p0]) (rest := [.int 0]) ⟨hx, hb, hml, hown, hta⟩ (c_X2_inkOf E l ax gx lt mo ad ln PL pf pw pk lw lk ik p0 _ hw) (pcV (n := 1) hta tw_228 tw_225 tw_1 tw_227 tp_9 rfl rfl hd_X2_inkOf ⟨Nat.le_of_ble_eq_true rfl, Nat.le_of_ble_eq_true rfl⟩) ⟨fbR, va_recv hKE.1 hP (ci := 3) (q0 := 0) rfl rfl, fun U hU hW => ⟨rfl, preR.mk hPc hKE hU hW⟩⟩ rfl rfl hl.1 rfl (lv_room (Nat.le_of_ble_eq_true rfl)) dX2_pour_42 ⟨Nat.le_of_ble_eq_true rfl, Nat.le_of_ble_eq_true rfl⟩)) (fun r_1148 hw => ?_)
        refine lv_iload_n hx hb dX2_pour_45 rfl (lv_at hl 2 rfl) ?_
        refine lv_isub hx hb dX2_pour_46 ?_
        refine va_mmax hx hb (hml.trans hl.1.symm) hown (hta _ tw_531) (hta _ tw_195) (hta _ tw_11) (hta _ tw_196) (Nat.le_of_ble_eq_true rfl) (Nat.le_of_ble_eq_true rfl) (Nat.le_of_ble_eq_true rfl) (Nat.le_of_ble_eq_true rfl) dX2_pour_47 ?_
        refine lv_istore_n (lv' := [(3, .int (if 0 < (r_1148 - p1) then (r_1148 - p1) else 0)), (0, .ref (ax 0)), (1, .int p0), (2, .int p1)]) hx hb dX2_pour_50 rfl hl (by decide) rfl (fun ls hl => ?_)
        refine lv_aload_n hx hb dX2_pour_51 rfl (lv_at hl 1 rfl) ?_
        refine lv_iload_n hx hb dX2_pour_52 rfl (lv_at hl 2 rfl) ?_
        refine lv_iload_n hx hb dX2_pour_53 rfl (lv_at hl 0 rfl) ?_
        have hPc : va_P (eD E) vwCl (wX E ax gx lt mo ad ln PL pf pw pk lw lk ik) s.heap := hP
        have hDc : va_D A (wX E ax gx lt mo ad ln PL pf pw pk lw lk ik) := hD
        have hFc : ∀ q, va_A (wX E ax gx lt mo ad ln PL pf pw pk lw lk ik) s.heap.size q → A q := frS hDc hS hA
        refine va_callv (va_runV (As := [.int p0, .int (if 0 < (r_1148 - p1) then (r_1148 - p1) else 0)]) (rest := []) ⟨hx, hb, hml, hown, hta⟩ (c_X2_setInk E l ax gx lt mo ad ln PL pf pw pk lw lk ik p0 (if 0 < (r_1148 - p1) then (r_1148 - p1) else 0) s.heap.size _ hw) (pcV (n := 2) hta tw_498 tw_495 tw_1 tw_497 tp_31 rfl rfl hd_X2_setInk ⟨Nat.le_of_ble_eq_true rfl, Nat.le_of_ble_eq_true rfl⟩) ⟨fbM, va_recv hKE.1 hP (ci := 3) (q0 := 0) rfl rfl, fun U hU hW => ⟨rfl, preM.mk hPc hKE hDc hZ hS hFc hU hW⟩⟩ rfl rfl hl.1 rfl (lv_room (Nat.le_of_ble_eq_true rfl)) dX2_pour_54 ⟨Nat.le_of_ble_eq_true rfl, Nat.le_of_ble_eq_true rfl⟩) hS (fun q _ h => hFc q h) hFc (fun u t H locs ht hvm hw hB hz1 hk1 hS => ?_)
        obtain ⟨gx_1150, lt_1151, mo_1152, ad_1153, ln_1154, PL_1155, pf_1156, pw_1157, pk_1158, lw_1159, lk_1160, ik_1161⟩ := u
        obtain ⟨hP1, hD1⟩ := hB
        rw [ht] at hP1
        try dsimp only at hw hP1 hD1
        have hP : va_P (eD E) vwCl ([((ax 0), .inr (3, [.ref (ax 1), .ref (ax 2), .ref (ax 4), .ref (ax 6), .int (gx_1150 4), .int (gx_1150 5), .int (gx_1150 6), .int (gx_1150 7), va_rf lt_1151, .int (gx_1150 9), .int (gx_1150 10), .int (gx_1150 11), .int (gx_1150 12), .int (gx_1150 13), .int (gx_1150 14), .int (gx_1150 15), .int (gx_1150 16), .int (gx_1150 17), .int (gx_1150 18)])), ((ax 1), .inr (0, [.int mo_1152, .ref ad_1153, .int ln_1154])), ((ax 2), .inr (2, [.ref (ax 3), .int pk_1158])), ((ax 3), .inl (eC E 1, 157, .inr (.inl pw_1157))), ((ax 4), .inr (2, [.ref (ax 5), .int lk_1160])), ((ax 5), .inl (eC E 1, 157, .inr (.inl lw_1159))), ((ax 6), .inl (eC E 0, 3, .inl ik_1161))] ++ va_pl PL_1155 pf_1156) H := hP1
        have hD : va_D A ([((ax 0), .inr (3, [.ref (ax 1), .ref (ax 2), .ref (ax 4), .ref (ax 6), .int (gx_1150 4), .int (gx_1150 5), .int (gx_1150 6), .int (gx_1150 7), va_rf lt_1151, .int (gx_1150 9), .int (gx_1150 10), .int (gx_1150 11), .int (gx_1150 12), .int (gx_1150 13), .int (gx_1150 14), .int (gx_1150 15), .int (gx_1150 16), .int (gx_1150 17), .int (gx_1150 18)])), ((ax 1), .inr (0, [.int mo_1152, .ref ad_1153, .int ln_1154])), ((ax 2), .inr (2, [.ref (ax 3), .int pk_1158])), ((ax 3), .inl (eC E 1, 157, .inr (.inl pw_1157))), ((ax 4), .inr (2, [.ref (ax 5), .int lk_1160])), ((ax 5), .inl (eC E 1, 157, .inr (.inl lw_1159))), ((ax 6), .inl (eC E 0, 3, .inl ik_1161))] ++ va_pl PL_1155 pf_1156) := hD1.weaken (fun _ q _ h => hFc q.1 h)
        refine lv_iload_n hx hb dX2_pour_57 rfl (lv_at hl 0 rfl) ?_
        have hP9 : va_P (eD E) vwCl (wX E ax gx_1150 lt_1151 mo_1152 ad_1153 ln_1154 PL_1155 pf_1156 pw_1157 pk_1158 lw_1159 lk_1160 ik_1161) H := hP
        have hD9 : va_D A (wX E ax gx_1150 lt_1151 mo_1152 ad_1153 ln_1154 PL_1155 pf_1156 pw_1157 pk_1158 lw_1159 lk_1160 ik_1161) := hD
        refine W.widen (k := 1) (n := 6) (Nat.le_of_ble_eq_true rfl) (Nat.le_of_ble_eq_true rfl) ?_
        refine vx_ret ?_
        exact W.iret (v := (if 0 < (r_1148 - p1) then (r_1148 - p1) else 0)) hx hb hr (fun t ht hW => ⟨⟨(if 0 < (r_1148 - p1) then (r_1148 - p1) else 0), (gx_1150, lt_1151, mo_1152, ad_1153, ln_1154, PL_1155, pf_1156, pw_1157, pk_1158, lw_1159, lk_1160, ik_1161), rfl, hw, ⟨by rw [ht]; exact hP9, hD9⟩⟩, hS.F ht⟩) hS.2.2 dX2_pour_58
      · have hw := hw.2 c_1147
        have hP9 : va_P (eD E) vwCl (wX E ax gx lt mo ad ln PL pf pw pk lw lk ik) s.heap := hP
        have hD9 : va_D A (wX E ax gx lt mo ad ln PL pf pw pk lw lk ik) := hD
        exact vx_throwS (own := RX2) (cls := sIA) (text := "an amount is 1 to 500") (names := nmE) hx hb hst hown fit_ia fit_E (hta _ tw_258) (hta _ tw_10) hKE.2.2.2.2.2.1.2.2.2.1 (hat_ia hta hKE) ot_ia hZ.2.2.1 hZ.2.2.2 hS (hl.1.trans hml.symm) dX2_pour_29 dX2_pour_32 dX2_pour_33 dX2_pour_35 dX2_pour_38 (fun x hx9 => (htab x hx9).elim) (Nat.le_of_ble_eq_true rfl) (Nat.le_of_ble_eq_true rfl) (Nat.le_of_ble_eq_true rfl) (Nat.le_of_ble_eq_true rfl) hlocks (fun t hal hz hk => ⟨(), trivial, ⟨hw, hP9.kept (fun k q hq => hk q.1 (hP9 k q hq).lt), hD9⟩, Nat.le_trans hS.1 hz, fun q h1 h2 => (hk q (Nat.lt_of_lt_of_le h1 hS.1)).trans (hS.2.1 q h1 h2)⟩) hS.2.2 (Nat.le_of_ble_eq_true rfl) (Nat.le_of_ble_eq_true rfl)
  · have hw := hw.1 c_1145
    have hP9 : va_P (eD E) vwCl (wX E ax gx lt mo ad ln PL pf pw pk lw lk ik) s.heap := hP
    have hD9 : va_D A (wX E ax gx lt mo ad ln PL pf pw pk lw lk ik) := hD
    exact vx_throwS (own := RX2) (cls := sIB) (text := "a pen is 0 to 2") (names := nmE) hx hb hst hown fit_ib fit_E (hta _ tw_507) (hta _ tw_18) hKE.2.2.2.2.2.1.2.2.1 (hat_ib hta hKE) ot_ib hZ.2.2.1 hZ.2.2.2 hS (hl.1.trans hml.symm) dX2_pour_7 dX2_pour_10 dX2_pour_11 dX2_pour_13 dX2_pour_16 (fun x hx9 => (htab x hx9).elim) (Nat.le_of_ble_eq_true rfl) (Nat.le_of_ble_eq_true rfl) (Nat.le_of_ble_eq_true rfl) (Nat.le_of_ble_eq_true rfl) hlocks (fun t hal hz hk => ⟨(), trivial, ⟨hw, hP9.kept (fun k q hq => hk q.1 (hP9 k q hq).lt), hD9⟩, Nat.le_trans hS.1 hz, fun q h1 h2 => (hk q (Nat.lt_of_lt_of_le h1 hS.1)).trans (hS.2.1 q h1 h2)⟩) hS.2.2 (Nat.le_of_ble_eq_true rfl) (Nat.le_of_ble_eq_true rfl)
def wp_X2_ink (E : EV) (post : Int32 → (Nat → Int32) → Option Nat → Int32 → Nat → Int32 → List Nat → (Nat → va_E) → (Nat → Int64) → Int32 → (Nat → Int64) → Int32 → (Nat → Int32) → Prop) (postX : String → Prop) (gx : Nat → Int32) (lt : Option Nat) (mo : Int32) (ad : Nat) (ln : Int32) (PL : List Nat) (pf : Nat → va_E) (pw : Nat → Int64) (pk : Int32) (lw : Nat → Int64) (lk : Int32) (ik : Nat → Int32) (p0 : Int32) : Prop := (wp_X2_hasPen E (fun r_1162 : Int32 => ((r_1162 = 0 → postX sIB) ∧ (¬ (r_1162 = 0) → (wp_X2_inkOf E (fun r_1164 : Int32 => post r_1164 gx lt mo ad ln PL pf pw pk lw lk ik) gx lt mo ad ln PL pf pw pk lw lk ik p0)))) p0)
set_option maxHeartbeats 4000000 in
set_option maxRecDepth 100000 in
theorem c_X2_ink (E : EV) (l : Launch) (ax : Nat → Nat) (gx : Nat → Int32) (lt : Option Nat) (mo : Int32) (ad : Nat) (ln : Int32) (PL : List Nat) (pf : Nat → va_E) (pw : Nat → Int64) (pk : Int32) (lw : Nat → Int64) (lk : Int32) (ik : Nat → Int32) (p0 : Int32) (hz : Nat) (post : Int32 → (Nat → Int32) → Option Nat → Int32 → Nat → Int32 → List Nat → (Nat → va_E) → (Nat → Int64) → Int32 → (Nat → Int64) → Int32 → (Nat → Int32) → Prop) (postX : String → Prop) (hw : wp_X2_ink E post postX gx lt mo ad ln PL pf pw pk lw lk ik p0) (hst : l.stackTraces = false) : vx_Met l yX2_ink (Cond.code yX2_ink cX2_ink 2 (some .int) :: ALLW) ({ frames := 7, cells := 1, slots := 6, locals := 120 } : Room) (va_Pc [.ref (ax 0), .int p0] (preM E (wX E ax gx lt mo ad ln PL pf pw pk lw lk ik) hz)) (va_Qi (fun (r : Int32) (u : (Nat → Int32) × Option Nat × Int32 × Nat × Int32 × List Nat × (Nat → va_E) × (Nat → Int64) × Int32 × (Nat → Int64) × Int32 × (Nat → Int32)) => post r u.1 u.2.1 u.2.2.1 u.2.2.2.1 u.2.2.2.2.1 u.2.2.2.2.2.1 u.2.2.2.2.2.2.1 u.2.2.2.2.2.2.2.1 u.2.2.2.2.2.2.2.2.1 u.2.2.2.2.2.2.2.2.2.1 u.2.2.2.2.2.2.2.2.2.2.1 u.2.2.2.2.2.2.2.2.2.2.2) (fun (u : (Nat → Int32) × Option Nat × Int32 × Nat × Int32 × List Nat × (Nat → va_E) × (Nat → Int64) × Int32 × (Nat → Int64) × Int32 × (Nat → Int32)) t => va_P (eD E) vwCl (wX E ax u.1 u.2.1 u.2.2.1 u.2.2.2.1 u.2.2.2.2.1 u.2.2.2.2.2.1 u.2.2.2.2.2.2.1 u.2.2.2.2.2.2.2.1 u.2.2.2.2.2.2.2.2.1 u.2.2.2.2.2.2.2.2.2.1 u.2.2.2.2.2.2.2.2.2.2.1 u.2.2.2.2.2.2.2.2.2.2.2) t.heap ∧ va_D (va_A (wX E ax gx lt mo ad ln PL pf pw pk lw lk ik) hz) (wX E ax u.1 u.2.1 u.2.2.1 u.2.2.2.1 u.2.2.2.2.1 u.2.2.2.2.2.1 u.2.2.2.2.2.2.1 u.2.2.2.2.2.2.2.1 u.2.2.2.2.2.2.2.2.1 u.2.2.2.2.2.2.2.2.2.1 u.2.2.2.2.2.2.2.2.2.2.1 u.2.2.2.2.2.2.2.2.2.2.2)) (va_A (wX E ax gx lt mo ad ln PL pf pw pk lw lk ik) hz)) (vx_X (fun _ : Unit => True) (fun E9 (_ : Unit) t => postX E9 ∧ va_P (eD E) vwCl (wX E ax gx lt mo ad ln PL pf pw pk lw lk ik) t.heap ∧ va_D (va_A (wX E ax gx lt mo ad ln PL pf pw pk lw lk ik) hz) (wX E ax gx lt mo ad ln PL pf pw pk lw lk ik)) (va_A (wX E ax gx lt mo ad ln PL pf pw pk lw lk ik) hz)) 1 6 (va_A (wX E ax gx lt mo ad ln PL pf pw pk lw lk ik) hz) := by
  refine vx_ofW (cc := cX2_ink) (maxL := 2) (ret := (some .int)) (by decide) rfl ?_
  intro p e s m args below meth c s₁ B hml htab hv
  obtain ⟨rfl, hpre⟩ := hv
  have hx := B.exec
  have hb := B.bytes
  have hr := B.returns
  have hlocks := B.notSynchronized
  have hts := atoms_spec (ws := (Cond.code yX2_ink cX2_ink 2 (some .int) :: ALLW)) B.pre
  have hta : ∀ w ∈ ALLW, w.before ([.ref (ax 0), .int p0] : List Value).toArray s = true := fun w h => hts w (List.mem_cons_of_mem _ h)
  have hown : s.vm.findClass RX2 = some m.cls := findClass_of_methodNamed B.named
  obtain ⟨hsz, hP, hKE, hD0, hZ⟩ := hpre
  subst hsz
  have hD := hD0.self (sz := s.heap.size)
  generalize hAe : va_A (wX E ax gx lt mo ad ln PL pf pw pk lw lk ik) s.heap.size = A at hD hZ ⊢
  have hA : ∀ q : Nat, s.heap.size ≤ q → A q := fun q h => by rw [← hAe]; exact Or.inr h
  have hS : va_S A s.heap s.heap [] := va_S.rf
  have hP : va_P (eD E) vwCl ([((ax 0), .inr (3, [.ref (ax 1), .ref (ax 2), .ref (ax 4), .ref (ax 6), .int (gx 4), .int (gx 5), .int (gx 6), .int (gx 7), va_rf lt, .int (gx 9), .int (gx 10), .int (gx 11), .int (gx 12), .int (gx 13), .int (gx 14), .int (gx 15), .int (gx 16), .int (gx 17), .int (gx 18)])), ((ax 1), .inr (0, [.int mo, .ref ad, .int ln])), ((ax 2), .inr (2, [.ref (ax 3), .int pk])), ((ax 3), .inl (eC E 1, 157, .inr (.inl pw))), ((ax 4), .inr (2, [.ref (ax 5), .int lk])), ((ax 5), .inl (eC E 1, 157, .inr (.inl lw))), ((ax 6), .inl (eC E 0, 3, .inl ik))] ++ va_pl PL pf) s.heap := hP
  have hD : va_D A ([((ax 0), .inr (3, [.ref (ax 1), .ref (ax 2), .ref (ax 4), .ref (ax 6), .int (gx 4), .int (gx 5), .int (gx 6), .int (gx 7), va_rf lt, .int (gx 9), .int (gx 10), .int (gx 11), .int (gx 12), .int (gx 13), .int (gx 14), .int (gx 15), .int (gx 16), .int (gx 17), .int (gx 18)])), ((ax 1), .inr (0, [.int mo, .ref ad, .int ln])), ((ax 2), .inr (2, [.ref (ax 3), .int pk])), ((ax 3), .inl (eC E 1, 157, .inr (.inl pw))), ((ax 4), .inr (2, [.ref (ax 5), .int lk])), ((ax 5), .inl (eC E 1, 157, .inr (.inl lw))), ((ax 6), .inl (eC E 0, 3, .inl ik))] ++ va_pl PL pf) := hD
  have hl := lv_entry ([.ref (ax 0), .int p0]) (n := 2) (Nat.le_of_ble_eq_true rfl)
  rw [lg_entry_eq]
  generalize (lg_sl ([.ref (ax 0), .int p0]) ++ List.replicate (2 - (lg_sl ([.ref (ax 0), .int p0])).length) Slot.unset).toArray = ls at hl ⊢
  have hl : lv_has ls 2 [(0, .ref (ax 0)), (1, .int p0)] := hl
  unfold wp_X2_ink at hw
  refine lv_iload_n hx hb dX2_ink_0 rfl (lv_at hl 1 rfl) ?_
  have hPc : va_P (eD E) vwCl [] s.heap := va_P_nil
  refine vp_callSi (va_Run.run (va_runS (As := [.int p0]) (rest := []) ⟨hx, hb, hml, hown, hta⟩ (c_X2_hasPen E l p0 _ hw) (pcS (n := 1) hta tw_351 tw_349 tw_1 tw_350 rfl rfl hd_X2_hasPen ⟨Nat.le_of_ble_eq_true rfl, Nat.le_of_ble_eq_true rfl⟩) ⟨fbR, fun U hU hW => ⟨rfl, preR.mk hPc hKE hU hW⟩⟩ rfl rfl hl.1 rfl (lv_room (Nat.le_of_ble_eq_true rfl)) dX2_ink_1 ⟨Nat.le_of_ble_eq_true rfl, Nat.le_of_ble_eq_true rfl⟩)) (fun r_1162 hw => ?_)
  refine lv_if_ne (tgt := 17) hx hb dX2_ink_4 (by decide) (fun c_1163 => ?_) (fun c_1163 => ?_)
  · have hw := hw.2 c_1163
    refine lv_aload_n hx hb dX2_ink_17 rfl (lv_at hl 0 rfl) ?_
    refine lv_iload_n hx hb dX2_ink_18 rfl (lv_at hl 1 rfl) ?_
    have hPc : va_P (eD E) vwCl (wX E ax gx lt mo ad ln PL pf pw pk lw lk ik) s.heap := hP
    refine vp_callSi (va_Run.run (va_runV (As := [.int p0]) (rest := []) ⟨hx, hb, hml, hown, hta⟩ (c_X2_inkOf E l ax gx lt mo ad ln PL pf pw pk lw lk ik p0 _ hw) (pcV (n := 1) hta tw_228 tw_225 tw_1 tw_227 tp_9 rfl rfl hd_X2_inkOf ⟨Nat.le_of_ble_eq_true rfl, Nat.le_of_ble_eq_true rfl⟩) ⟨fbR, va_recv hKE.1 hP (ci := 3) (q0 := 0) rfl rfl, fun U hU hW => ⟨rfl, preR.mk hPc hKE hU hW⟩⟩ rfl rfl hl.1 rfl (lv_room (Nat.le_of_ble_eq_true rfl)) dX2_ink_19 ⟨Nat.le_of_ble_eq_true rfl, Nat.le_of_ble_eq_true rfl⟩)) (fun r_1164 hw => ?_)
    have hP9 : va_P (eD E) vwCl (wX E ax gx lt mo ad ln PL pf pw pk lw lk ik) s.heap := hP
    have hD9 : va_D A (wX E ax gx lt mo ad ln PL pf pw pk lw lk ik) := hD
    refine W.widen (k := 1) (n := 6) (Nat.le_of_ble_eq_true rfl) (Nat.le_of_ble_eq_true rfl) ?_
    refine vx_ret ?_
    exact W.iret (v := r_1164) hx hb hr (fun t ht hW => ⟨⟨r_1164, (gx, lt, mo, ad, ln, PL, pf, pw, pk, lw, lk, ik), rfl, hw, ⟨by rw [ht]; exact hP9, hD9⟩⟩, hS.F ht⟩) hS.2.2 dX2_ink_22
  · have hw := hw.1 c_1163
    have hP9 : va_P (eD E) vwCl (wX E ax gx lt mo ad ln PL pf pw pk lw lk ik) s.heap := hP
    have hD9 : va_D A (wX E ax gx lt mo ad ln PL pf pw pk lw lk ik) := hD
    exact vx_throwS (own := RX2) (cls := sIB) (text := "a pen is 0 to 2") (names := nmE) hx hb hst hown fit_ib fit_E (hta _ tw_507) (hta _ tw_18) hKE.2.2.2.2.2.1.2.2.1 (hat_ib hta hKE) ot_ib hZ.2.2.1 hZ.2.2.2 hS (hl.1.trans hml.symm) dX2_ink_7 dX2_ink_10 dX2_ink_11 dX2_ink_13 dX2_ink_16 (fun x hx9 => (htab x hx9).elim) (Nat.le_of_ble_eq_true rfl) (Nat.le_of_ble_eq_true rfl) (Nat.le_of_ble_eq_true rfl) (Nat.le_of_ble_eq_true rfl) hlocks (fun t hal hz hk => ⟨(), trivial, ⟨hw, hP9.kept (fun k q hq => hk q.1 (hP9 k q hq).lt), hD9⟩, Nat.le_trans hS.1 hz, fun q h1 h2 => (hk q (Nat.lt_of_lt_of_le h1 hS.1)).trans (hS.2.1 q h1 h2)⟩) hS.2.2 (Nat.le_of_ble_eq_true rfl) (Nat.le_of_ble_eq_true rfl)
def wp_X2_isMarked (E : EV) (post : Int32 → (Nat → Int32) → Option Nat → Int32 → Nat → Int32 → List Nat → (Nat → va_E) → (Nat → Int64) → Int32 → (Nat → Int64) → Int32 → (Nat → Int32) → Prop) (postX : String → Prop) (gx : Nat → Int32) (lt : Option Nat) (mo : Int32) (ad : Nat) (ln : Int32) (PL : List Nat) (pf : Nat → va_E) (pw : Nat → Int64) (pk : Int32) (lw : Nat → Int64) (lk : Int32) (ik : Nat → Int32) (p0 : Int32) (p1 : Int32) : Prop := (wp_X2_hasCell E (fun r_1165 : Int32 => ((r_1165 = 0 → postX sIB) ∧ (¬ (r_1165 = 0) → (wp_X1_hasMark E (fun r_1167 : Int32 => (narrow .boolean (.int r_1167) = .int r_1167 ∧ post r_1167 gx lt mo ad ln PL pf pw pk lw lk ik)) pw pk p0 p1)))) p0 p1)
set_option maxHeartbeats 4000000 in
set_option maxRecDepth 100000 in
theorem c_X2_isMarked (E : EV) (l : Launch) (ax : Nat → Nat) (gx : Nat → Int32) (lt : Option Nat) (mo : Int32) (ad : Nat) (ln : Int32) (PL : List Nat) (pf : Nat → va_E) (pw : Nat → Int64) (pk : Int32) (lw : Nat → Int64) (lk : Int32) (ik : Nat → Int32) (p0 : Int32) (p1 : Int32) (hz : Nat) (post : Int32 → (Nat → Int32) → Option Nat → Int32 → Nat → Int32 → List Nat → (Nat → va_E) → (Nat → Int64) → Int32 → (Nat → Int64) → Int32 → (Nat → Int32) → Prop) (postX : String → Prop) (hw : wp_X2_isMarked E post postX gx lt mo ad ln PL pf pw pk lw lk ik p0 p1) (hst : l.stackTraces = false) : vx_Met l yX2_isMarked (Cond.code yX2_isMarked cX2_isMarked 3 (some .boolean) :: ALLW) ({ frames := 7, cells := 1, slots := 6, locals := 120 } : Room) (va_Pc [.ref (ax 0), .int p0, .int p1] (preM E (wX E ax gx lt mo ad ln PL pf pw pk lw lk ik) hz)) (va_Qi (fun (r : Int32) (u : (Nat → Int32) × Option Nat × Int32 × Nat × Int32 × List Nat × (Nat → va_E) × (Nat → Int64) × Int32 × (Nat → Int64) × Int32 × (Nat → Int32)) => post r u.1 u.2.1 u.2.2.1 u.2.2.2.1 u.2.2.2.2.1 u.2.2.2.2.2.1 u.2.2.2.2.2.2.1 u.2.2.2.2.2.2.2.1 u.2.2.2.2.2.2.2.2.1 u.2.2.2.2.2.2.2.2.2.1 u.2.2.2.2.2.2.2.2.2.2.1 u.2.2.2.2.2.2.2.2.2.2.2) (fun (u : (Nat → Int32) × Option Nat × Int32 × Nat × Int32 × List Nat × (Nat → va_E) × (Nat → Int64) × Int32 × (Nat → Int64) × Int32 × (Nat → Int32)) t => va_P (eD E) vwCl (wX E ax u.1 u.2.1 u.2.2.1 u.2.2.2.1 u.2.2.2.2.1 u.2.2.2.2.2.1 u.2.2.2.2.2.2.1 u.2.2.2.2.2.2.2.1 u.2.2.2.2.2.2.2.2.1 u.2.2.2.2.2.2.2.2.2.1 u.2.2.2.2.2.2.2.2.2.2.1 u.2.2.2.2.2.2.2.2.2.2.2) t.heap ∧ va_D (va_A (wX E ax gx lt mo ad ln PL pf pw pk lw lk ik) hz) (wX E ax u.1 u.2.1 u.2.2.1 u.2.2.2.1 u.2.2.2.2.1 u.2.2.2.2.2.1 u.2.2.2.2.2.2.1 u.2.2.2.2.2.2.2.1 u.2.2.2.2.2.2.2.2.1 u.2.2.2.2.2.2.2.2.2.1 u.2.2.2.2.2.2.2.2.2.2.1 u.2.2.2.2.2.2.2.2.2.2.2)) (va_A (wX E ax gx lt mo ad ln PL pf pw pk lw lk ik) hz)) (vx_X (fun _ : Unit => True) (fun E9 (_ : Unit) t => postX E9 ∧ va_P (eD E) vwCl (wX E ax gx lt mo ad ln PL pf pw pk lw lk ik) t.heap ∧ va_D (va_A (wX E ax gx lt mo ad ln PL pf pw pk lw lk ik) hz) (wX E ax gx lt mo ad ln PL pf pw pk lw lk ik)) (va_A (wX E ax gx lt mo ad ln PL pf pw pk lw lk ik) hz)) 1 6 (va_A (wX E ax gx lt mo ad ln PL pf pw pk lw lk ik) hz) := by
  refine vx_ofW (cc := cX2_isMarked) (maxL := 3) (ret := (some .boolean)) (by decide) rfl ?_
  intro p e s m args below meth c s₁ B hml htab hv
  obtain ⟨rfl, hpre⟩ := hv
  have hx := B.exec
  have hb := B.bytes
  have hr := B.returns
  have hlocks := B.notSynchronized
  have hts := atoms_spec (ws := (Cond.code yX2_isMarked cX2_isMarked 3 (some .boolean) :: ALLW)) B.pre
  have hta : ∀ w ∈ ALLW, w.before ([.ref (ax 0), .int p0, .int p1] : List Value).toArray s = true := fun w h => hts w (List.mem_cons_of_mem _ h)
  have hown : s.vm.findClass RX2 = some m.cls := findClass_of_methodNamed B.named
  obtain ⟨hsz, hP, hKE, hD0, hZ⟩ := hpre
  subst hsz
  have hD := hD0.self (sz := s.heap.size)
  generalize hAe : va_A (wX E ax gx lt mo ad ln PL pf pw pk lw lk ik) s.heap.size = A at hD hZ ⊢
  have hA : ∀ q : Nat, s.heap.size ≤ q → A q := fun q h => by rw [← hAe]; exact Or.inr h
  have hS : va_S A s.heap s.heap [] := va_S.rf
  have hP : va_P (eD E) vwCl ([((ax 0), .inr (3, [.ref (ax 1), .ref (ax 2), .ref (ax 4), .ref (ax 6), .int (gx 4), .int (gx 5), .int (gx 6), .int (gx 7), va_rf lt, .int (gx 9), .int (gx 10), .int (gx 11), .int (gx 12), .int (gx 13), .int (gx 14), .int (gx 15), .int (gx 16), .int (gx 17), .int (gx 18)])), ((ax 1), .inr (0, [.int mo, .ref ad, .int ln])), ((ax 2), .inr (2, [.ref (ax 3), .int pk])), ((ax 3), .inl (eC E 1, 157, .inr (.inl pw))), ((ax 4), .inr (2, [.ref (ax 5), .int lk])), ((ax 5), .inl (eC E 1, 157, .inr (.inl lw))), ((ax 6), .inl (eC E 0, 3, .inl ik))] ++ va_pl PL pf) s.heap := hP
  have hD : va_D A ([((ax 0), .inr (3, [.ref (ax 1), .ref (ax 2), .ref (ax 4), .ref (ax 6), .int (gx 4), .int (gx 5), .int (gx 6), .int (gx 7), va_rf lt, .int (gx 9), .int (gx 10), .int (gx 11), .int (gx 12), .int (gx 13), .int (gx 14), .int (gx 15), .int (gx 16), .int (gx 17), .int (gx 18)])), ((ax 1), .inr (0, [.int mo, .ref ad, .int ln])), ((ax 2), .inr (2, [.ref (ax 3), .int pk])), ((ax 3), .inl (eC E 1, 157, .inr (.inl pw))), ((ax 4), .inr (2, [.ref (ax 5), .int lk])), ((ax 5), .inl (eC E 1, 157, .inr (.inl lw))), ((ax 6), .inl (eC E 0, 3, .inl ik))] ++ va_pl PL pf) := hD
  have hl := lv_entry ([.ref (ax 0), .int p0, .int p1]) (n := 3) (Nat.le_of_ble_eq_true rfl)
  rw [lg_entry_eq]
  generalize (lg_sl ([.ref (ax 0), .int p0, .int p1]) ++ List.replicate (3 - (lg_sl ([.ref (ax 0), .int p0, .int p1])).length) Slot.unset).toArray = ls at hl ⊢
  have hl : lv_has ls 3 [(0, .ref (ax 0)), (1, .int p0), (2, .int p1)] := hl
  unfold wp_X2_isMarked at hw
  refine lv_iload_n hx hb dX2_isMarked_0 rfl (lv_at hl 1 rfl) ?_
  refine lv_iload_n hx hb dX2_isMarked_1 rfl (lv_at hl 2 rfl) ?_
  have hPc : va_P (eD E) vwCl [] s.heap := va_P_nil
  refine vp_callSi (va_Run.run (va_runS (As := [.int p0, .int p1]) (rest := []) ⟨hx, hb, hml, hown, hta⟩ (c_X2_hasCell E l p0 p1 _ hw) (pcS (n := 2) hta tw_354 tw_352 tw_1 tw_353 rfl rfl hd_X2_hasCell ⟨Nat.le_of_ble_eq_true rfl, Nat.le_of_ble_eq_true rfl⟩) ⟨fbR, fun U hU hW => ⟨rfl, preR.mk hPc hKE hU hW⟩⟩ rfl rfl hl.1 rfl (lv_room (Nat.le_of_ble_eq_true rfl)) dX2_isMarked_2 ⟨Nat.le_of_ble_eq_true rfl, Nat.le_of_ble_eq_true rfl⟩)) (fun r_1165 hw => ?_)
  refine lv_if_ne (tgt := 18) hx hb dX2_isMarked_5 (by decide) (fun c_1166 => ?_) (fun c_1166 => ?_)
  · have hw := hw.2 c_1166
    refine lv_aload_n hx hb dX2_isMarked_18 rfl (lv_at hl 0 rfl) ?_
    refine va_get (D := eD E) (ci := 3) (v := .ref (ax 2)) (C := RX2) (T := TX2) (N := 19) hx hb hta lay_X2 hown hKE.1 hP 0 rfl rfl 1 (by decide) (hta _ tw_69) (fun _ h9 => h9) rfl dX2_isMarked_19 ?_
    refine lv_iload_n hx hb dX2_isMarked_22 rfl (lv_at hl 1 rfl) ?_
    refine lv_iload_n hx hb dX2_isMarked_23 rfl (lv_at hl 2 rfl) ?_
    have hPc : va_P (eD E) vwCl [((ax 2), .inr (2, [.ref (ax 3), .int pk])), ((ax 3), .inl (eC E 1, 157, .inr (.inl pw)))] s.heap := hP.sub [2, 3] rfl
    refine vp_callSi (va_Run.run (va_runVN (As := [.int p0, .int p1]) (rest := []) ⟨hx, hb, hml, hown, hta⟩ (c_X1_hasMark E l (ax 2) (ax 3) pw pk p0 p1 _ hw) (pcVN (n := 2) hta tw_370 (hKE.2.1 _ (List.mem_of_getElem? (i := 13) rfl)) tw_5 tw_369 tp_19 rfl rfl hd_X1_hasMark ⟨Nat.le_of_ble_eq_true rfl, Nat.le_of_ble_eq_true rfl⟩) ⟨fbR, va_recv hKE.1 hP (ci := 2) (q0 := 2) rfl rfl, fun U hU hW => ⟨rfl, preR.mk hPc hKE hU hW⟩⟩ rfl rfl hl.1 rfl (lv_room (Nat.le_of_ble_eq_true rfl)) dX2_isMarked_24 ⟨Nat.le_of_ble_eq_true rfl, Nat.le_of_ble_eq_true rfl⟩)) (fun r_1167 hw => ?_)
    obtain ⟨hn_1168, hw⟩ := hw
    have hP9 : va_P (eD E) vwCl (wX E ax gx lt mo ad ln PL pf pw pk lw lk ik) s.heap := hP
    have hD9 : va_D A (wX E ax gx lt mo ad ln PL pf pw pk lw lk ik) := hD
    refine W.widen (k := 1) (n := 6) (Nat.le_of_ble_eq_true rfl) (Nat.le_of_ble_eq_true rfl) ?_
    refine vx_ret ?_
    exact W.zret (v := r_1167) hx hb hr hn_1168 (fun t ht hW => ⟨⟨r_1167, (gx, lt, mo, ad, ln, PL, pf, pw, pk, lw, lk, ik), rfl, hw, ⟨by rw [ht]; exact hP9, hD9⟩⟩, hS.F ht⟩) hS.2.2 dX2_isMarked_27
  · have hw := hw.1 c_1166
    have hP9 : va_P (eD E) vwCl (wX E ax gx lt mo ad ln PL pf pw pk lw lk ik) s.heap := hP
    have hD9 : va_D A (wX E ax gx lt mo ad ln PL pf pw pk lw lk ik) := hD
    exact vx_throwS (own := RX2) (cls := sIB) (text := "a cell has x and y from 0 to 99") (names := nmE) hx hb hst hown fit_ib fit_E (hta _ tw_507) (hta _ tw_18) hKE.2.2.2.2.2.1.2.2.2.2 (hat_ib hta hKE) ot_ib hZ.2.2.1 hZ.2.2.2 hS (hl.1.trans hml.symm) dX2_isMarked_8 dX2_isMarked_11 dX2_isMarked_12 dX2_isMarked_14 dX2_isMarked_17 (fun x hx9 => (htab x hx9).elim) (Nat.le_of_ble_eq_true rfl) (Nat.le_of_ble_eq_true rfl) (Nat.le_of_ble_eq_true rfl) (Nat.le_of_ble_eq_true rfl) hlocks (fun t hal hz hk => ⟨(), trivial, ⟨hw, hP9.kept (fun k q hq => hk q.1 (hP9 k q hq).lt), hD9⟩, Nat.le_trans hS.1 hz, fun q h1 h2 => (hk q (Nat.lt_of_lt_of_le h1 hS.1)).trans (hS.2.1 q h1 h2)⟩) hS.2.2 (Nat.le_of_ble_eq_true rfl) (Nat.le_of_ble_eq_true rfl)
