/-! the law from its entry -/
theorem cnt_f : ∀ n, cnt (fun _ => false) n = 0
  | 0 => rfl
  | n + 1 => by
    show cnt (fun _ => false) n + _ = 0
    rw [cnt_f n]; rfl
theorem ik_0 : ∀ i, i < 3 → (upd (upd (upd (fun _ => 0) (0 : Int32).toNatClampNeg 500) (1 : Int32).toNatClampNeg 500) (2 : Int32).toNatClampNeg 500) i = iI 500 := by
  intro i hi
  have : i = 0 ∨ i = 1 ∨ i = 2 := by omega
  rcases this with rfl | rfl | rfl <;> decide
theorem PRx_0 : PRx (fun _ => false) (fun _ => 0) 0 := by
  refine ⟨fun i j _ _ => by simp, ?_⟩
  rw [cnt_f]; decide
theorem RX_0 (E : EV) : RX E a0 (fun _ => 0) none (eA E 0) 0 [] (fun _ => .inr (0, [])) (fun _ => 0) 0 (fun _ => 0) 0 (upd (upd (upd (fun _ => 0) (0 : Int32).toNatClampNeg 500) (1 : Int32).toNatClampNeg 500) (2 : Int32).toNatClampNeg 500) := by
  have z : (0 : Int32) = iI 0 := by decide
  exact ⟨fun _ => z, z, Or.inl ⟨rfl, rfl⟩, rfl, PRx_0, PRx_0, ik_0⟩
theorem LI_0 : LI a0 (fun _ => 0) (fun _ => 0) := by
  have z : (0 : Int32) = iI 0 := by decide
  exact ⟨inv_0, ja_0, ⟨⟨z, z, z, z, z, z⟩, trivial⟩, rfl⟩
theorem w_X2 (E : EV) (h0 : Nat) : wp_X2_init E (fun u => u 0 = h0) h0 := by
  intro q1 q2 q3 q4 q5 q6
  rfl
set_option maxHeartbeats 4000000 in
set_option maxRecDepth 100000 in
theorem whole_start {p : Program} {e : Env} {s : State} {m : MethodId} {below : List Frame} {meth : Method} {c : Code} (l : Launch) (hflags : l.flags = flags0) {b L : Nat} {xs : Nat → Int32} (hL : L ≤ 260) (C0 : lw_At p s m meth c b L xs) : W p l e room_1 s m #[Value.ref b] below meth c s.heap [] 0 0 (lw_Z below #[Value.ref b] s) (entryFrame m ([Value.ref b] : List Value).toArray 12) := by
  obtain ⟨hx, hb, hr, hml, hown, hts, hX, hbl, hlocks, hgv⟩ := id C0
  have hst : l.stackTraces = false := by
    unfold Launch.stackTraces
    rw [hflags]
    decide +kernel
  have hta : ∀ w ∈ ALLW, w.before #[Value.ref b] s = true := fun w h => hts w (List.mem_filter.mp h).1
  have hA : ∀ q : Nat, s.heap.size ≤ q → (fun q : Nat => s.heap.size ≤ q) q := fun _ h => h
  have hbA : ¬ (fun q : Nat => s.heap.size ≤ q) b := Nat.not_le.mpr hbl
  obtain ⟨E, hKE, hZ⟩ := start_of hts hta hgv (fun q : Nat => s.heap.size ≤ q) (fun a h => Nat.not_le.mpr h)
  have hS : va_S (fun q : Nat => s.heap.size ≤ q) s.heap s.heap [] := va_S.rf
  have hP : va_P (eD E) vwCl [] s.heap := va_P_nil
  have hD : va_D (fun q : Nat => s.heap.size ≤ q) [] := va_D_nil
  have hl := lv_entry ([.ref b]) (n := 12) (Nat.le_of_ble_eq_true rfl)
  rw [lg_entry_eq]
  generalize (lg_sl ([.ref b]) ++ List.replicate (12 - (lg_sl ([.ref b])).length) Slot.unset).toArray = ls at hl ⊢
  have hl : lv_has ls 12 [(0, .ref b)] := hl
  refine va_new (ci := 3) (fs := [.null, .null, .null, .null, .int 0, .int 0, .int 0, .int 0, .null, .int 0, .int 0, .int 0, .int 0, .int 0, .int 0, .int 0, .int 0, .int 0, .int 0]) (C := RX2) (T := TX2) (N := 19) hx hb hta lay_X2 tyX2 tyX2_ok hown (hta _ tw_18) (hta _ tw_19) (hta _ tw_1) hKE.1 hP hD hS hA rfl (fun j hj => by rcases (show j = 0 ∨ j = 1 ∨ j = 2 ∨ j = 3 ∨ j = 4 ∨ j = 5 ∨ j = 6 ∨ j = 7 ∨ j = 8 ∨ j = 9 ∨ j = 10 ∨ j = 11 ∨ j = 12 ∨ j = 13 ∨ j = 14 ∨ j = 15 ∨ j = 16 ∨ j = 17 ∨ j = 18 by omega) with rfl | rfl | rfl | rfl | rfl | rfl | rfl | rfl | rfl | rfl | rfl | rfl | rfl | rfl | rfl | rfl | rfl | rfl | rfl <;> rfl) (Nat.le_of_ble_eq_true rfl) (Nat.le_of_ble_eq_true rfl) dL_law_0 (fun h0 H hP hD hS => ?_)
  have hP : va_P (eD E) vwCl [(h0, .inr (3, [.null, .null, .null, .null, .int 0, .int 0, .int 0, .int 0, .null, .int 0, .int 0, .int 0, .int 0, .int 0, .int 0, .int 0, .int 0, .int 0, .int 0]))] H := hP
  have hD : va_D (fun q : Nat => s.heap.size ≤ q) [(h0, .inr (3, [.null, .null, .null, .null, .int 0, .int 0, .int 0, .int 0, .null, .int 0, .int 0, .int 0, .int 0, .int 0, .int 0, .int 0, .int 0, .int 0, .int 0]))] := hD
  refine W.widen (k := 1) (n := 19) (Nat.le_of_ble_eq_true rfl) (Nat.le_of_ble_eq_true rfl) ?_
  refine lv_dup hx hb dL_law_3 rfl ?_
  have hPc : va_P (eD E) vwCl [(h0, .inr (3, [.null, .null, .null, .null, .int 0, .int 0, .int 0, .int 0, .null, .int 0, .int 0, .int 0, .int 0, .int 0, .int 0, .int 0, .int 0, .int 0, .int 0]))] H := hP.sub [0] rfl
  have hDc : va_D (fun q : Nat => s.heap.size ≤ q) [(h0, .inr (3, [.null, .null, .null, .null, .int 0, .int 0, .int 0, .int 0, .null, .int 0, .int 0, .int 0, .int 0, .int 0, .int 0, .int 0, .int 0, .int 0, .int 0]))] := hD.sub [0] (by decide) rfl
  have hFc : ∀ q, va_A [(h0, .inr (3, [.null, .null, .null, .null, .int 0, .int 0, .int 0, .int 0, .null, .int 0, .int 0, .int 0, .int 0, .int 0, .int 0, .int 0, .int 0, .int 0, .int 0]))] H.size q → (fun q : Nat => s.heap.size ≤ q) q := va_free hD hS hA [0] rfl
  refine va_callv (va_runI (As := []) (rest := [.ref h0]) ⟨hx, hb, hml, hown, hta⟩ (c_X2_init E l h0 H.size (fun u => u 0 = h0) (w_X2 E h0)) (pcI (n := 0) hta tw_22 tw_20 tw_1 tw_21 rfl rfl rfl hd_X2_init ⟨Nat.le_of_ble_eq_true rfl, Nat.le_of_ble_eq_true rfl⟩) ⟨fbM, fun U hU hW => ⟨rfl, preM.mk hPc hKE hDc hZ hS hFc hU hW⟩⟩ rfl rfl hl.1 rfl (lv_room (Nat.le_of_ble_eq_true rfl)) dL_law_4 ⟨Nat.le_of_ble_eq_true rfl, Nat.le_of_ble_eq_true rfl⟩) hS (fun q _ h => hFc q h) hFc (fun ax t H locs ht hvm hw hB hz1 hk1 hS => ?_)
  obtain ⟨hP1, hD1⟩ := hB
  rw [ht] at hP1
  try dsimp only at hw hP1 hD1
  try dsimp only at hw
  subst hw
  have hP : va_P (eD E) vwCl [((ax 0), .inr (3, [.ref (ax 1), .ref (ax 2), .ref (ax 4), .ref (ax 6), .int ((fun _ => 0) 4), .int ((fun _ => 0) 5), .int ((fun _ => 0) 6), .int ((fun _ => 0) 7), va_rf none, .int ((fun _ => 0) 9), .int ((fun _ => 0) 10), .int ((fun _ => 0) 11), .int ((fun _ => 0) 12), .int ((fun _ => 0) 13), .int ((fun _ => 0) 14), .int ((fun _ => 0) 15), .int ((fun _ => 0) 16), .int ((fun _ => 0) 17), .int ((fun _ => 0) 18)])), ((ax 1), .inr (0, [.int 0, .ref (eA E 0), .int 0])), ((ax 2), .inr (2, [.ref (ax 3), .int 0])), ((ax 3), .inl (eC E 1, 157, .inr (.inl (fun _ => 0)))), ((ax 4), .inr (2, [.ref (ax 5), .int 0])), ((ax 5), .inl (eC E 1, 157, .inr (.inl (fun _ => 0)))), ((ax 6), .inl (eC E 0, 3, .inl (upd (upd (upd (fun _ => 0) (0 : Int32).toNatClampNeg 500) (1 : Int32).toNatClampNeg 500) (2 : Int32).toNatClampNeg 500)))] H := hP1
  have hD : va_D (fun q : Nat => s.heap.size ≤ q) [((ax 0), .inr (3, [.ref (ax 1), .ref (ax 2), .ref (ax 4), .ref (ax 6), .int ((fun _ => 0) 4), .int ((fun _ => 0) 5), .int ((fun _ => 0) 6), .int ((fun _ => 0) 7), va_rf none, .int ((fun _ => 0) 9), .int ((fun _ => 0) 10), .int ((fun _ => 0) 11), .int ((fun _ => 0) 12), .int ((fun _ => 0) 13), .int ((fun _ => 0) 14), .int ((fun _ => 0) 15), .int ((fun _ => 0) 16), .int ((fun _ => 0) 17), .int ((fun _ => 0) 18)])), ((ax 1), .inr (0, [.int 0, .ref (eA E 0), .int 0])), ((ax 2), .inr (2, [.ref (ax 3), .int 0])), ((ax 3), .inl (eC E 1, 157, .inr (.inl (fun _ => 0)))), ((ax 4), .inr (2, [.ref (ax 5), .int 0])), ((ax 5), .inl (eC E 1, 157, .inr (.inl (fun _ => 0)))), ((ax 6), .inl (eC E 0, 3, .inl (upd (upd (upd (fun _ => 0) (0 : Int32).toNatClampNeg 500) (1 : Int32).toNatClampNeg 500) (2 : Int32).toNatClampNeg 500)))] := hD1.weaken (fun _ q _ h => hFc q.1 h)
  refine lv_astore_n (lv' := [(1, .ref (ax 0)), (0, .ref b)]) hx hb dL_law_7 rfl hl (by decide) rfl (fun ls hl => ?_)
  refine W.widen (k := 7) (n := 343) (Nat.le_of_ble_eq_true rfl) (Nat.le_of_ble_eq_true rfl) ?_
  refine lv_bipush (v := 64) hx hb dL_law_8 (by decide) ?_
  refine va_newa (atype := .int) (ty := .int) (a0 := (64, .inl (fun _ => 0))) hx hb (hta _ tw_125) rfl hKE.1 hP hD hS hA (fun _ => rfl) (by decide) (by decide) (by decide) (Nat.le_of_ble_eq_true rfl) (Nat.le_of_ble_eq_true rfl) dL_law_10 (fun q1 cA H hK9 hP hD hS => ?_)
  have hcA := newI hKE hK9
  subst hcA
  have hP : va_P (eD E) vwCl [((ax 0), .inr (3, [.ref (ax 1), .ref (ax 2), .ref (ax 4), .ref (ax 6), .int ((fun _ => 0) 4), .int ((fun _ => 0) 5), .int ((fun _ => 0) 6), .int ((fun _ => 0) 7), va_rf none, .int ((fun _ => 0) 9), .int ((fun _ => 0) 10), .int ((fun _ => 0) 11), .int ((fun _ => 0) 12), .int ((fun _ => 0) 13), .int ((fun _ => 0) 14), .int ((fun _ => 0) 15), .int ((fun _ => 0) 16), .int ((fun _ => 0) 17), .int ((fun _ => 0) 18)])), ((ax 1), .inr (0, [.int 0, .ref (eA E 0), .int 0])), ((ax 2), .inr (2, [.ref (ax 3), .int 0])), ((ax 3), .inl (eC E 1, 157, .inr (.inl (fun _ => 0)))), ((ax 4), .inr (2, [.ref (ax 5), .int 0])), ((ax 5), .inl (eC E 1, 157, .inr (.inl (fun _ => 0)))), ((ax 6), .inl (eC E 0, 3, .inl (upd (upd (upd (fun _ => 0) (0 : Int32).toNatClampNeg 500) (1 : Int32).toNatClampNeg 500) (2 : Int32).toNatClampNeg 500))), (q1, .inl (eC E 0, 64, .inl (fun _ => 0)))] H := hP
  have hD : va_D (fun q : Nat => s.heap.size ≤ q) [((ax 0), .inr (3, [.ref (ax 1), .ref (ax 2), .ref (ax 4), .ref (ax 6), .int ((fun _ => 0) 4), .int ((fun _ => 0) 5), .int ((fun _ => 0) 6), .int ((fun _ => 0) 7), va_rf none, .int ((fun _ => 0) 9), .int ((fun _ => 0) 10), .int ((fun _ => 0) 11), .int ((fun _ => 0) 12), .int ((fun _ => 0) 13), .int ((fun _ => 0) 14), .int ((fun _ => 0) 15), .int ((fun _ => 0) 16), .int ((fun _ => 0) 17), .int ((fun _ => 0) 18)])), ((ax 1), .inr (0, [.int 0, .ref (eA E 0), .int 0])), ((ax 2), .inr (2, [.ref (ax 3), .int 0])), ((ax 3), .inl (eC E 1, 157, .inr (.inl (fun _ => 0)))), ((ax 4), .inr (2, [.ref (ax 5), .int 0])), ((ax 5), .inl (eC E 1, 157, .inr (.inl (fun _ => 0)))), ((ax 6), .inl (eC E 0, 3, .inl (upd (upd (upd (fun _ => 0) (0 : Int32).toNatClampNeg 500) (1 : Int32).toNatClampNeg 500) (2 : Int32).toNatClampNeg 500))), (q1, .inl (eC E 0, 64, .inl (fun _ => 0)))] := hD
  refine W.widen (k := 8) (n := 407) (Nat.le_of_ble_eq_true rfl) (Nat.le_of_ble_eq_true rfl) ?_
  refine lv_astore_n (lv' := [(2, .ref q1), (1, .ref (ax 0)), (0, .ref b)]) hx hb dL_law_12 rfl hl (by decide) rfl (fun ls hl => ?_)
  refine lv_bipush (v := 8) hx hb dL_law_13 (by decide) ?_
  refine va_newa (atype := .int) (ty := .int) (a0 := (8, .inl (fun _ => 0))) hx hb (hta _ tw_125) rfl hKE.1 hP hD hS hA (fun _ => rfl) (by decide) (by decide) (by decide) (Nat.le_of_ble_eq_true rfl) (Nat.le_of_ble_eq_true rfl) dL_law_15 (fun q2 cA H hK9 hP hD hS => ?_)
  have hcA := newI hKE hK9
  subst hcA
  have hP : va_P (eD E) vwCl [((ax 0), .inr (3, [.ref (ax 1), .ref (ax 2), .ref (ax 4), .ref (ax 6), .int ((fun _ => 0) 4), .int ((fun _ => 0) 5), .int ((fun _ => 0) 6), .int ((fun _ => 0) 7), va_rf none, .int ((fun _ => 0) 9), .int ((fun _ => 0) 10), .int ((fun _ => 0) 11), .int ((fun _ => 0) 12), .int ((fun _ => 0) 13), .int ((fun _ => 0) 14), .int ((fun _ => 0) 15), .int ((fun _ => 0) 16), .int ((fun _ => 0) 17), .int ((fun _ => 0) 18)])), ((ax 1), .inr (0, [.int 0, .ref (eA E 0), .int 0])), ((ax 2), .inr (2, [.ref (ax 3), .int 0])), ((ax 3), .inl (eC E 1, 157, .inr (.inl (fun _ => 0)))), ((ax 4), .inr (2, [.ref (ax 5), .int 0])), ((ax 5), .inl (eC E 1, 157, .inr (.inl (fun _ => 0)))), ((ax 6), .inl (eC E 0, 3, .inl (upd (upd (upd (fun _ => 0) (0 : Int32).toNatClampNeg 500) (1 : Int32).toNatClampNeg 500) (2 : Int32).toNatClampNeg 500))), (q1, .inl (eC E 0, 64, .inl (fun _ => 0))), (q2, .inl (eC E 0, 8, .inl (fun _ => 0)))] H := hP
  have hD : va_D (fun q : Nat => s.heap.size ≤ q) [((ax 0), .inr (3, [.ref (ax 1), .ref (ax 2), .ref (ax 4), .ref (ax 6), .int ((fun _ => 0) 4), .int ((fun _ => 0) 5), .int ((fun _ => 0) 6), .int ((fun _ => 0) 7), va_rf none, .int ((fun _ => 0) 9), .int ((fun _ => 0) 10), .int ((fun _ => 0) 11), .int ((fun _ => 0) 12), .int ((fun _ => 0) 13), .int ((fun _ => 0) 14), .int ((fun _ => 0) 15), .int ((fun _ => 0) 16), .int ((fun _ => 0) 17), .int ((fun _ => 0) 18)])), ((ax 1), .inr (0, [.int 0, .ref (eA E 0), .int 0])), ((ax 2), .inr (2, [.ref (ax 3), .int 0])), ((ax 3), .inl (eC E 1, 157, .inr (.inl (fun _ => 0)))), ((ax 4), .inr (2, [.ref (ax 5), .int 0])), ((ax 5), .inl (eC E 1, 157, .inr (.inl (fun _ => 0)))), ((ax 6), .inl (eC E 0, 3, .inl (upd (upd (upd (fun _ => 0) (0 : Int32).toNatClampNeg 500) (1 : Int32).toNatClampNeg 500) (2 : Int32).toNatClampNeg 500))), (q1, .inl (eC E 0, 64, .inl (fun _ => 0))), (q2, .inl (eC E 0, 8, .inl (fun _ => 0)))] := hD
  refine W.widen (k := 9) (n := 415) (Nat.le_of_ble_eq_true rfl) (Nat.le_of_ble_eq_true rfl) ?_
  refine lv_astore_n (lv' := [(3, .ref q2), (2, .ref q1), (1, .ref (ax 0)), (0, .ref b)]) hx hb dL_law_17 rfl hl (by decide) rfl (fun ls hl => ?_)
  obtain ⟨bx, hb0, hb1⟩ : ∃ bx : Nat → Nat, bx 0 = q1 ∧ bx 1 = q2 := ⟨fun k => if k = 0 then q1 else q2, rfl, rfl⟩
  subst hb0
  subst hb1
  have hP : va_P (eD E) vwCl ([((ax 0), .inr (3, [.ref (ax 1), .ref (ax 2), .ref (ax 4), .ref (ax 6), .int ((fun _ => 0) 4), .int ((fun _ => 0) 5), .int ((fun _ => 0) 6), .int ((fun _ => 0) 7), va_rf none, .int ((fun _ => 0) 9), .int ((fun _ => 0) 10), .int ((fun _ => 0) 11), .int ((fun _ => 0) 12), .int ((fun _ => 0) 13), .int ((fun _ => 0) 14), .int ((fun _ => 0) 15), .int ((fun _ => 0) 16), .int ((fun _ => 0) 17), .int ((fun _ => 0) 18)])), ((ax 1), .inr (0, [.int 0, .ref (eA E 0), .int 0])), ((ax 2), .inr (2, [.ref (ax 3), .int 0])), ((ax 3), .inl (eC E 1, 157, .inr (.inl (fun _ => 0)))), ((ax 4), .inr (2, [.ref (ax 5), .int 0])), ((ax 5), .inl (eC E 1, 157, .inr (.inl (fun _ => 0)))), ((ax 6), .inl (eC E 0, 3, .inl (upd (upd (upd (fun _ => 0) (0 : Int32).toNatClampNeg 500) (1 : Int32).toNatClampNeg 500) (2 : Int32).toNatClampNeg 500))), ((bx 0), .inl (eC E 0, 64, .inl (fun _ => 0))), ((bx 1), .inl (eC E 0, 8, .inl (fun _ => 0)))] ++ va_pl ([]) (fun _ => .inr (0, []))) H := hP.sub [0, 1, 2, 3, 4, 5, 6, 7, 8] rfl
  have hD : va_D (fun q : Nat => s.heap.size ≤ q) ([((ax 0), .inr (3, [.ref (ax 1), .ref (ax 2), .ref (ax 4), .ref (ax 6), .int ((fun _ => 0) 4), .int ((fun _ => 0) 5), .int ((fun _ => 0) 6), .int ((fun _ => 0) 7), va_rf none, .int ((fun _ => 0) 9), .int ((fun _ => 0) 10), .int ((fun _ => 0) 11), .int ((fun _ => 0) 12), .int ((fun _ => 0) 13), .int ((fun _ => 0) 14), .int ((fun _ => 0) 15), .int ((fun _ => 0) 16), .int ((fun _ => 0) 17), .int ((fun _ => 0) 18)])), ((ax 1), .inr (0, [.int 0, .ref (eA E 0), .int 0])), ((ax 2), .inr (2, [.ref (ax 3), .int 0])), ((ax 3), .inl (eC E 1, 157, .inr (.inl (fun _ => 0)))), ((ax 4), .inr (2, [.ref (ax 5), .int 0])), ((ax 5), .inl (eC E 1, 157, .inr (.inl (fun _ => 0)))), ((ax 6), .inl (eC E 0, 3, .inl (upd (upd (upd (fun _ => 0) (0 : Int32).toNatClampNeg 500) (1 : Int32).toNatClampNeg 500) (2 : Int32).toNatClampNeg 500))), ((bx 0), .inl (eC E 0, 64, .inl (fun _ => 0))), ((bx 1), .inl (eC E 0, 8, .inl (fun _ => 0)))] ++ va_pl ([]) (fun _ => .inr (0, []))) := hD.sub [0, 1, 2, 3, 4, 5, 6, 7, 8] (by decide) rfl
  have hRc : 40000 ≤ room_1.cells := Nat.le_of_ble_eq_true rfl
  have hRs : 1200000 ≤ room_1.slots := Nat.le_of_ble_eq_true rfl
  refine law_18 E l ax bx (fun _ => 0) none 0 (eA E 0) 0 [] (fun _ => .inr (0, [])) (fun _ => 0) 0 (fun _ => 0) 0 (upd (upd (upd (fun _ => 0) (0 : Int32).toNatClampNeg 500) (1 : Int32).toNatClampNeg 500) (2 : Int32).toNatClampNeg 500) (fun _ => 0) (fun _ => 0) (PH E 0) hst C0 hta _ hA hbA hKE hZ 9 415 (by omega) (by omega) (k_18 (RX_0 E) LI_0 rfl) ?_ H _ hP hD hS ls (lv_sub hl [3, 2, 1, 0] rfl)
  intro gx lt mo ad ln PL pf pw pk lw lk ik cw mw i4 i5 H locs ls hR hP hD hS hl
  refine W.widen (k := (200 + 322 * 0)) (n := (6000 + 10080 * 0)) (by omega) (by omega) ?_
  exact law_loop E l ax bx hst hL C0 hta hKE hZ 110 0 (by omega) gx lt mo ad ln PL pf pw pk lw lk ik cw mw i4 i5 H locs ls hR hP hD hS hl
