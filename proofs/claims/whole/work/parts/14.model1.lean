def wp_X3_thrown (E : EV) (post : Int32 → Prop) (gm : Nat → Int32) (ks : Nat → Int32) (os : Nat → Int32) (ts : Nat → Int32) (iq : Nat → Int32) (mk : Nat → Int32) (me : Nat → Int32) : Prop := post (gm 26)
set_option maxHeartbeats 4000000 in
set_option maxRecDepth 100000 in
theorem c_X3_thrown (E : EV) (l : Launch) (am : Nat → Nat) (gm : Nat → Int32) (ks : Nat → Int32) (os : Nat → Int32) (ts : Nat → Int32) (iq : Nat → Int32) (mk : Nat → Int32) (me : Nat → Int32) (post : Int32 → Prop) (hw : wp_X3_thrown E post gm ks os ts iq mk me) : Met l yX3_thrown (Cond.code yX3_thrown cX3_thrown 1 (some .int) :: ALLW) ({ frames := 0, cells := 0, slots := 0, locals := 0 } : Room) (va_Pc [.ref (am 0)] (preR E (wM E am gm ks os ts iq mk me))) (vp_Si post) 0 0 (fun _ => False) := by
  refine Met.ofW (cc := cX3_thrown) (maxL := 1) (ret := (some .int)) (by decide) rfl ?_
  intro p e s m args below meth c s₁ B hml hv
  obtain ⟨rfl, hpre⟩ := hv
  have hx := B.exec
  have hb := B.bytes
  have hr := B.returns
  have hlocks := B.notSynchronized
  have hts := atoms_spec (ws := (Cond.code yX3_thrown cX3_thrown 1 (some .int) :: ALLW)) B.pre
  have hta : ∀ w ∈ ALLW, w.before ([.ref (am 0)] : List Value).toArray s = true := fun w h => hts w (List.mem_cons_of_mem _ h)
  have hown : s.vm.findClass RX3 = some m.cls := findClass_of_methodNamed B.named
  obtain ⟨hP, hKE⟩ := hpre
  have hP : va_P (eD E) vwCl [((am 0), .inr (4, [.int (gm 0), .int (gm 1), .int (gm 2), .int (gm 3), .int (gm 4), .ref (am 1), .ref (am 2), .ref (am 3), .int (gm 8), .int (gm 9), .int (gm 10), .int (gm 11), .int (gm 12), .int (gm 13), .int (gm 14), .int (gm 15), .int (gm 16), .int (gm 17), .int (gm 18), .int (gm 19), .int (gm 20), .ref (am 4), .int (gm 22), .int (gm 23), .ref (am 5), .ref (am 6), .int (gm 26)])), ((am 1), .inl (eC E 0, 32, .inl ks)), ((am 2), .inl (eC E 0, 32, .inl os)), ((am 3), .inl (eC E 0, 32, .inl ts)), ((am 4), .inl (eC E 0, 3, .inl iq)), ((am 5), .inl (eC E 0, 320, .inl mk)), ((am 6), .inl (eC E 0, 320, .inl me))] s.heap := hP
  have hl := lv_entry ([.ref (am 0)]) (n := 1) (Nat.le_of_ble_eq_true rfl)
  rw [lg_entry_eq]
  generalize (lg_sl ([.ref (am 0)]) ++ List.replicate (1 - (lg_sl ([.ref (am 0)])).length) Slot.unset).toArray = ls at hl ⊢
  have hl : lv_has ls 1 [(0, .ref (am 0))] := hl
  unfold wp_X3_thrown at hw
  refine lv_aload_n hx hb dX3_thrown_0 rfl (lv_at hl 0 rfl) ?_
  refine va_get (D := eD E) (ci := 4) (v := .int (gm 26)) (C := RX3) (T := TX3) (N := 27) hx hb hta lay_X3 hown hKE.1 hP 0 rfl rfl 26 (by decide) (hta _ tw_580) (fun _ h9 => h9) rfl dX3_thrown_1 ?_
  exact W.iret (v := (gm 26)) hx hb hr (fun t ht hW => ⟨(gm 26), rfl, hw, ht⟩) (fun q hq => nomatch hq) dX3_thrown_4
def wp_X3_goes (E : EV) (post : Int32 → (Nat → Int32) → (Nat → Int32) → (Nat → Int32) → (Nat → Int32) → (Nat → Int32) → (Nat → Int32) → (Nat → Int32) → Prop) (gm : Nat → Int32) (ks : Nat → Int32) (os : Nat → Int32) (ts : Nat → Int32) (iq : Nat → Int32) (mk : Nat → Int32) (me : Nat → Int32) (p0 : Int32) : Prop := ((p0 = 0 → post 1 (upd gm 26 p0) ks os ts iq mk me) ∧ (¬ (p0 = 0) → post 0 (upd gm 26 p0) ks os ts iq mk me))
set_option maxHeartbeats 4000000 in
set_option maxRecDepth 100000 in
theorem c_X3_goes (E : EV) (l : Launch) (am : Nat → Nat) (gm : Nat → Int32) (ks : Nat → Int32) (os : Nat → Int32) (ts : Nat → Int32) (iq : Nat → Int32) (mk : Nat → Int32) (me : Nat → Int32) (p0 : Int32) (hz : Nat) (post : Int32 → (Nat → Int32) → (Nat → Int32) → (Nat → Int32) → (Nat → Int32) → (Nat → Int32) → (Nat → Int32) → (Nat → Int32) → Prop) (hw : wp_X3_goes E post gm ks os ts iq mk me p0) : Met l yX3_goes (Cond.code yX3_goes cX3_goes 2 (some .boolean) :: ALLW) ({ frames := 0, cells := 0, slots := 0, locals := 0 } : Room) (va_Pc [.ref (am 0), .int p0] (preM E (wM E am gm ks os ts iq mk me) hz)) (va_Qi (fun (r : Int32) (u : (Nat → Int32) × (Nat → Int32) × (Nat → Int32) × (Nat → Int32) × (Nat → Int32) × (Nat → Int32) × (Nat → Int32)) => post r u.1 u.2.1 u.2.2.1 u.2.2.2.1 u.2.2.2.2.1 u.2.2.2.2.2.1 u.2.2.2.2.2.2) (fun (u : (Nat → Int32) × (Nat → Int32) × (Nat → Int32) × (Nat → Int32) × (Nat → Int32) × (Nat → Int32) × (Nat → Int32)) t => va_P (eD E) vwCl (wM E am u.1 u.2.1 u.2.2.1 u.2.2.2.1 u.2.2.2.2.1 u.2.2.2.2.2.1 u.2.2.2.2.2.2) t.heap ∧ va_D (va_A (wM E am gm ks os ts iq mk me) hz) (wM E am u.1 u.2.1 u.2.2.1 u.2.2.2.1 u.2.2.2.2.1 u.2.2.2.2.2.1 u.2.2.2.2.2.2)) (va_A (wM E am gm ks os ts iq mk me) hz)) 0 0 (va_A (wM E am gm ks os ts iq mk me) hz) := by
  refine Met.ofW (cc := cX3_goes) (maxL := 2) (ret := (some .boolean)) (by decide) rfl ?_
  intro p e s m args below meth c s₁ B hml hv
  obtain ⟨rfl, hpre⟩ := hv
  have hx := B.exec
  have hb := B.bytes
  have hr := B.returns
  have hlocks := B.notSynchronized
  have hts := atoms_spec (ws := (Cond.code yX3_goes cX3_goes 2 (some .boolean) :: ALLW)) B.pre
  have hta : ∀ w ∈ ALLW, w.before ([.ref (am 0), .int p0] : List Value).toArray s = true := fun w h => hts w (List.mem_cons_of_mem _ h)
  have hown : s.vm.findClass RX3 = some m.cls := findClass_of_methodNamed B.named
  obtain ⟨hsz, hP, hKE, hD0, hZ⟩ := hpre
  subst hsz
  have hD := hD0.self (sz := s.heap.size)
  generalize hAe : va_A (wM E am gm ks os ts iq mk me) s.heap.size = A at hD hZ ⊢
  have hA : ∀ q : Nat, s.heap.size ≤ q → A q := fun q h => by rw [← hAe]; exact Or.inr h
  have hS : va_S A s.heap s.heap [] := va_S.rf
  have hP : va_P (eD E) vwCl [((am 0), .inr (4, [.int (gm 0), .int (gm 1), .int (gm 2), .int (gm 3), .int (gm 4), .ref (am 1), .ref (am 2), .ref (am 3), .int (gm 8), .int (gm 9), .int (gm 10), .int (gm 11), .int (gm 12), .int (gm 13), .int (gm 14), .int (gm 15), .int (gm 16), .int (gm 17), .int (gm 18), .int (gm 19), .int (gm 20), .ref (am 4), .int (gm 22), .int (gm 23), .ref (am 5), .ref (am 6), .int (gm 26)])), ((am 1), .inl (eC E 0, 32, .inl ks)), ((am 2), .inl (eC E 0, 32, .inl os)), ((am 3), .inl (eC E 0, 32, .inl ts)), ((am 4), .inl (eC E 0, 3, .inl iq)), ((am 5), .inl (eC E 0, 320, .inl mk)), ((am 6), .inl (eC E 0, 320, .inl me))] s.heap := hP
  have hD : va_D A [((am 0), .inr (4, [.int (gm 0), .int (gm 1), .int (gm 2), .int (gm 3), .int (gm 4), .ref (am 1), .ref (am 2), .ref (am 3), .int (gm 8), .int (gm 9), .int (gm 10), .int (gm 11), .int (gm 12), .int (gm 13), .int (gm 14), .int (gm 15), .int (gm 16), .int (gm 17), .int (gm 18), .int (gm 19), .int (gm 20), .ref (am 4), .int (gm 22), .int (gm 23), .ref (am 5), .ref (am 6), .int (gm 26)])), ((am 1), .inl (eC E 0, 32, .inl ks)), ((am 2), .inl (eC E 0, 32, .inl os)), ((am 3), .inl (eC E 0, 32, .inl ts)), ((am 4), .inl (eC E 0, 3, .inl iq)), ((am 5), .inl (eC E 0, 320, .inl mk)), ((am 6), .inl (eC E 0, 320, .inl me))] := hD
  have hl := lv_entry ([.ref (am 0), .int p0]) (n := 2) (Nat.le_of_ble_eq_true rfl)
  rw [lg_entry_eq]
  generalize (lg_sl ([.ref (am 0), .int p0]) ++ List.replicate (2 - (lg_sl ([.ref (am 0), .int p0])).length) Slot.unset).toArray = ls at hl ⊢
  have hl : lv_has ls 2 [(0, .ref (am 0)), (1, .int p0)] := hl
  unfold wp_X3_goes at hw
  refine lv_aload_n hx hb dX3_goes_0 rfl (lv_at hl 0 rfl) ?_
  refine lv_iload_n hx hb dX3_goes_1 rfl (lv_at hl 1 rfl) ?_
  refine va_put (D := eD E) (ci := 4) (v := .int p0) (ty := .int) (C := RX3) (T := TX3) (N := 27) hx hb hta lay_X3 tyX3 tyX3_ok nmX3 hown hKE.1 hP hD hS 0 rfl rfl 26 (by decide) (hta _ tw_580) (fun _ h9 => h9) rfl (by decide +kernel) rfl rfl (Nat.le_of_ble_eq_true rfl) dX3_goes_2 (fun H locs hP hD hS => ?_)
  have hP : va_P (eD E) vwCl [((am 0), .inr (4, [.int (gm 0), .int (gm 1), .int (gm 2), .int (gm 3), .int (gm 4), .ref (am 1), .ref (am 2), .ref (am 3), .int (gm 8), .int (gm 9), .int (gm 10), .int (gm 11), .int (gm 12), .int (gm 13), .int (gm 14), .int (gm 15), .int (gm 16), .int (gm 17), .int (gm 18), .int (gm 19), .int (gm 20), .ref (am 4), .int (gm 22), .int (gm 23), .ref (am 5), .ref (am 6), .int p0])), ((am 1), .inl (eC E 0, 32, .inl ks)), ((am 2), .inl (eC E 0, 32, .inl os)), ((am 3), .inl (eC E 0, 32, .inl ts)), ((am 4), .inl (eC E 0, 3, .inl iq)), ((am 5), .inl (eC E 0, 320, .inl mk)), ((am 6), .inl (eC E 0, 320, .inl me))] H := hP
  have hD : va_D A [((am 0), .inr (4, [.int (gm 0), .int (gm 1), .int (gm 2), .int (gm 3), .int (gm 4), .ref (am 1), .ref (am 2), .ref (am 3), .int (gm 8), .int (gm 9), .int (gm 10), .int (gm 11), .int (gm 12), .int (gm 13), .int (gm 14), .int (gm 15), .int (gm 16), .int (gm 17), .int (gm 18), .int (gm 19), .int (gm 20), .ref (am 4), .int (gm 22), .int (gm 23), .ref (am 5), .ref (am 6), .int p0])), ((am 1), .inl (eC E 0, 32, .inl ks)), ((am 2), .inl (eC E 0, 32, .inl os)), ((am 3), .inl (eC E 0, 32, .inl ts)), ((am 4), .inl (eC E 0, 3, .inl iq)), ((am 5), .inl (eC E 0, 320, .inl mk)), ((am 6), .inl (eC E 0, 320, .inl me))] := hD
  refine lv_iload_n hx hb dX3_goes_5 rfl (lv_at hl 1 rfl) ?_
  refine lv_if_ne (tgt := 13) hx hb dX3_goes_6 (by decide) (fun c_111 => ?_) (fun c_111 => ?_)
  · have hw := hw.2 c_111
    refine lv_iconst (v := 0) hx hb dX3_goes_13 (by decide) ?_
    have hP9 : va_P (eD E) vwCl (wM E am (upd gm 26 p0) ks os ts iq mk me) H := hP
    have hD9 : va_D A (wM E am (upd gm 26 p0) ks os ts iq mk me) := hD
    exact W.zret (v := 0) hx hb hr rfl (fun t ht hW => ⟨⟨0, ((upd gm 26 p0), ks, os, ts, iq, mk, me), rfl, hw, ⟨by rw [ht]; exact hP9, hD9⟩⟩, hS.F ht⟩) hS.2.2 dX3_goes_14
  · have hw := hw.1 c_111
    refine lv_iconst (v := 1) hx hb dX3_goes_9 (by decide) ?_
    refine lv_goto (tgt := 14) hx hb dX3_goes_10 (by decide) ?_
    have hP9 : va_P (eD E) vwCl (wM E am (upd gm 26 p0) ks os ts iq mk me) H := hP
    have hD9 : va_D A (wM E am (upd gm 26 p0) ks os ts iq mk me) := hD
    exact W.zret (v := 1) hx hb hr rfl (fun t ht hW => ⟨⟨1, ((upd gm 26 p0), ks, os, ts, iq, mk, me), rfl, hw, ⟨by rw [ht]; exact hP9, hD9⟩⟩, hS.F ht⟩) hS.2.2 dX3_goes_14
def wp_X3_isIn (E : EV) (post : Int32 → Prop) (p0 : Int32) (p1 : Int32) (p2 : Int32) : Prop := ((p0 < p1 → post 0) ∧ (¬ (p0 < p1) → ((p2 < p0 → post 0) ∧ (¬ (p2 < p0) → post 1))))
set_option maxHeartbeats 4000000 in
set_option maxRecDepth 100000 in
theorem c_X3_isIn (E : EV) (l : Launch) (p0 : Int32) (p1 : Int32) (p2 : Int32) (post : Int32 → Prop) (hw : wp_X3_isIn E post p0 p1 p2) : Met l yX3_isIn (Cond.code yX3_isIn cX3_isIn 3 (some .boolean) :: ALLW) ({ frames := 0, cells := 0, slots := 0, locals := 0 } : Room) (va_Pc [.int p0, .int p1, .int p2] (preR E ([]))) (vp_Si post) 0 0 (fun _ => False) := by
  refine Met.ofW (cc := cX3_isIn) (maxL := 3) (ret := (some .boolean)) (by decide) rfl ?_
  intro p e s m args below meth c s₁ B hml hv
  obtain ⟨rfl, hpre⟩ := hv
  have hx := B.exec
  have hb := B.bytes
  have hr := B.returns
  have hlocks := B.notSynchronized
  have hts := atoms_spec (ws := (Cond.code yX3_isIn cX3_isIn 3 (some .boolean) :: ALLW)) B.pre
  have hta : ∀ w ∈ ALLW, w.before ([.int p0, .int p1, .int p2] : List Value).toArray s = true := fun w h => hts w (List.mem_cons_of_mem _ h)
  have hown : s.vm.findClass RX3 = some m.cls := findClass_of_methodNamed B.named
  obtain ⟨hP, hKE⟩ := hpre
  have hP : va_P (eD E) vwCl [] s.heap := hP
  have hl := lv_entry ([.int p0, .int p1, .int p2]) (n := 3) (Nat.le_of_ble_eq_true rfl)
  rw [lg_entry_eq]
  generalize (lg_sl ([.int p0, .int p1, .int p2]) ++ List.replicate (3 - (lg_sl ([.int p0, .int p1, .int p2])).length) Slot.unset).toArray = ls at hl ⊢
  have hl : lv_has ls 3 [(0, .int p0), (1, .int p1), (2, .int p2)] := hl
  unfold wp_X3_isIn at hw
  refine lv_iload_n hx hb dX3_isIn_0 rfl (lv_at hl 0 rfl) ?_
  refine lv_iload_n hx hb dX3_isIn_1 rfl (lv_at hl 1 rfl) ?_
  refine lv_icmp_lt (tgt := 14) hx hb dX3_isIn_2 (by decide) (fun c_112 => ?_) (fun c_112 => ?_)
  · have hw := hw.1 c_112
    refine lv_iconst (v := 0) hx hb dX3_isIn_14 (by decide) ?_
    exact W.zret (v := 0) hx hb hr rfl (fun t ht hW => ⟨0, rfl, hw, ht⟩) (fun q hq => nomatch hq) dX3_isIn_15
  · have hw := hw.2 c_112
    refine lv_iload_n hx hb dX3_isIn_5 rfl (lv_at hl 0 rfl) ?_
    refine lv_iload_n hx hb dX3_isIn_6 rfl (lv_at hl 2 rfl) ?_
    refine lv_icmp_gt (tgt := 14) hx hb dX3_isIn_7 (by decide) (fun c_113 => ?_) (fun c_113 => ?_)
    · have hw := hw.1 c_113
      refine lv_iconst (v := 0) hx hb dX3_isIn_14 (by decide) ?_
      exact W.zret (v := 0) hx hb hr rfl (fun t ht hW => ⟨0, rfl, hw, ht⟩) (fun q hq => nomatch hq) dX3_isIn_15
    · have hw := hw.2 c_113
      refine lv_iconst (v := 1) hx hb dX3_isIn_10 (by decide) ?_
      refine lv_goto (tgt := 15) hx hb dX3_isIn_11 (by decide) ?_
      exact W.zret (v := 1) hx hb hr rfl (fun t ht hW => ⟨1, rfl, hw, ht⟩) (fun q hq => nomatch hq) dX3_isIn_15
def wp_X3_isCell (E : EV) (post : Int32 → Prop) (p0 : Int32) (p1 : Int32) : Prop := (wp_X3_isIn E (fun r_114 : Int32 => ((r_114 = 0 → post 0) ∧ (¬ (r_114 = 0) → (wp_X3_isIn E (fun r_116 : Int32 => ((r_116 = 0 → post 0) ∧ (¬ (r_116 = 0) → post 1))) p1 0 99)))) p0 0 99)
set_option maxHeartbeats 4000000 in
set_option maxRecDepth 100000 in
theorem c_X3_isCell (E : EV) (l : Launch) (p0 : Int32) (p1 : Int32) (post : Int32 → Prop) (hw : wp_X3_isCell E post p0 p1) : Met l yX3_isCell (Cond.code yX3_isCell cX3_isCell 2 (some .boolean) :: ALLW) ({ frames := 1, cells := 0, slots := 0, locals := 22 } : Room) (va_Pc [.int p0, .int p1] (preR E ([]))) (vp_Si post) 0 0 (fun _ => False) := by
  refine Met.ofW (cc := cX3_isCell) (maxL := 2) (ret := (some .boolean)) (by decide) rfl ?_
  intro p e s m args below meth c s₁ B hml hv
  obtain ⟨rfl, hpre⟩ := hv
  have hx := B.exec
  have hb := B.bytes
  have hr := B.returns
  have hlocks := B.notSynchronized
  have hts := atoms_spec (ws := (Cond.code yX3_isCell cX3_isCell 2 (some .boolean) :: ALLW)) B.pre
  have hta : ∀ w ∈ ALLW, w.before ([.int p0, .int p1] : List Value).toArray s = true := fun w h => hts w (List.mem_cons_of_mem _ h)
  have hown : s.vm.findClass RX3 = some m.cls := findClass_of_methodNamed B.named
  obtain ⟨hP, hKE⟩ := hpre
  have hP : va_P (eD E) vwCl [] s.heap := hP
  have hl := lv_entry ([.int p0, .int p1]) (n := 2) (Nat.le_of_ble_eq_true rfl)
  rw [lg_entry_eq]
  generalize (lg_sl ([.int p0, .int p1]) ++ List.replicate (2 - (lg_sl ([.int p0, .int p1])).length) Slot.unset).toArray = ls at hl ⊢
  have hl : lv_has ls 2 [(0, .int p0), (1, .int p1)] := hl
  unfold wp_X3_isCell at hw
  refine lv_iload_n hx hb dX3_isCell_0 rfl (lv_at hl 0 rfl) ?_
  refine lv_iconst (v := 0) hx hb dX3_isCell_1 (by decide) ?_
  refine lv_bipush (v := 99) hx hb dX3_isCell_2 (by decide) ?_
  have hPc : va_P (eD E) vwCl [] s.heap := va_P_nil
  refine vp_callSi (va_Run.run (va_runS (As := [.int p0, .int 0, .int 99]) (rest := []) ⟨hx, hb, hml, hown, hta⟩ (c_X3_isIn E l p0 0 99 _ hw) (pcS (n := 3) hta tw_646 tw_644 tw_6 tw_645 rfl rfl hd_X3_isIn ⟨Nat.le_of_ble_eq_true rfl, Nat.le_of_ble_eq_true rfl⟩) ⟨fbR, fun U hU hW => ⟨rfl, preR.mk hPc hKE hU hW⟩⟩ rfl rfl hl.1 rfl (lv_room (Nat.le_of_ble_eq_true rfl)) dX3_isCell_4 ⟨Nat.le_of_ble_eq_true rfl, Nat.le_of_ble_eq_true rfl⟩)) (fun r_114 hw => ?_)
  refine lv_if_eq (tgt := 24) hx hb dX3_isCell_7 (by decide) (fun c_115 => ?_) (fun c_115 => ?_)
  · have hw := hw.1 c_115
    refine lv_iconst (v := 0) hx hb dX3_isCell_24 (by decide) ?_
    exact W.zret (v := 0) hx hb hr rfl (fun t ht hW => ⟨0, rfl, hw, ht⟩) (fun q hq => nomatch hq) dX3_isCell_25
  · have hw := hw.2 c_115
    refine lv_iload_n hx hb dX3_isCell_10 rfl (lv_at hl 1 rfl) ?_
    refine lv_iconst (v := 0) hx hb dX3_isCell_11 (by decide) ?_
    refine lv_bipush (v := 99) hx hb dX3_isCell_12 (by decide) ?_
    have hPc : va_P (eD E) vwCl [] s.heap := va_P_nil
    refine vp_callSi (va_Run.run (va_runS (As := [.int p1, .int 0, .int 99]) (rest := []) ⟨hx, hb, hml, hown, hta⟩ (c_X3_isIn E l p1 0 99 _ hw) (pcS (n := 3) hta tw_646 tw_644 tw_6 tw_645 rfl rfl hd_X3_isIn ⟨Nat.le_of_ble_eq_true rfl, Nat.le_of_ble_eq_true rfl⟩) ⟨fbR, fun U hU hW => ⟨rfl, preR.mk hPc hKE hU hW⟩⟩ rfl rfl hl.1 rfl (lv_room (Nat.le_of_ble_eq_true rfl)) dX3_isCell_14 ⟨Nat.le_of_ble_eq_true rfl, Nat.le_of_ble_eq_true rfl⟩)) (fun r_116 hw => ?_)
    refine lv_if_eq (tgt := 24) hx hb dX3_isCell_17 (by decide) (fun c_117 => ?_) (fun c_117 => ?_)
    · have hw := hw.1 c_117
      refine lv_iconst (v := 0) hx hb dX3_isCell_24 (by decide) ?_
      exact W.zret (v := 0) hx hb hr rfl (fun t ht hW => ⟨0, rfl, hw, ht⟩) (fun q hq => nomatch hq) dX3_isCell_25
    · have hw := hw.2 c_117
      refine lv_iconst (v := 1) hx hb dX3_isCell_20 (by decide) ?_
      refine lv_goto (tgt := 25) hx hb dX3_isCell_21 (by decide) ?_
      exact W.zret (v := 1) hx hb hr rfl (fun t ht hW => ⟨1, rfl, hw, ht⟩) (fun q hq => nomatch hq) dX3_isCell_25
def wp_X3_size (E : EV) (post : Int32 → Prop) (p0 : Int32) : Prop := ((0 ≤ p0 → post p0) ∧ (¬ (0 ≤ p0) → post (-p0)))
set_option maxHeartbeats 4000000 in
set_option maxRecDepth 100000 in
theorem c_X3_size (E : EV) (l : Launch) (p0 : Int32) (post : Int32 → Prop) (hw : wp_X3_size E post p0) : Met l yX3_size (Cond.code yX3_size cX3_size 1 (some .int) :: ALLW) ({ frames := 0, cells := 0, slots := 0, locals := 0 } : Room) (va_Pc [.int p0] (preR E ([]))) (vp_Si post) 0 0 (fun _ => False) := by
  refine Met.ofW (cc := cX3_size) (maxL := 1) (ret := (some .int)) (by decide) rfl ?_
  intro p e s m args below meth c s₁ B hml hv
  obtain ⟨rfl, hpre⟩ := hv
  have hx := B.exec
  have hb := B.bytes
  have hr := B.returns
  have hlocks := B.notSynchronized
  have hts := atoms_spec (ws := (Cond.code yX3_size cX3_size 1 (some .int) :: ALLW)) B.pre
  have hta : ∀ w ∈ ALLW, w.before ([.int p0] : List Value).toArray s = true := fun w h => hts w (List.mem_cons_of_mem _ h)
  have hown : s.vm.findClass RX3 = some m.cls := findClass_of_methodNamed B.named
  obtain ⟨hP, hKE⟩ := hpre
  have hP : va_P (eD E) vwCl [] s.heap := hP
  have hl := lv_entry ([.int p0]) (n := 1) (Nat.le_of_ble_eq_true rfl)
  rw [lg_entry_eq]
  generalize (lg_sl ([.int p0]) ++ List.replicate (1 - (lg_sl ([.int p0])).length) Slot.unset).toArray = ls at hl ⊢
  have hl : lv_has ls 1 [(0, .int p0)] := hl
  unfold wp_X3_size at hw
  refine lv_iload_n hx hb dX3_size_0 rfl (lv_at hl 0 rfl) ?_
  refine lv_if_ge (tgt := 9) hx hb dX3_size_1 (by decide) (fun c_118 => ?_) (fun c_118 => ?_)
  · have hw := hw.1 c_118
    refine lv_iload_n hx hb dX3_size_9 rfl (lv_at hl 0 rfl) ?_
    exact W.iret (v := p0) hx hb hr (fun t ht hW => ⟨p0, rfl, hw, ht⟩) (fun q hq => nomatch hq) dX3_size_10
  · have hw := hw.2 c_118
    refine lv_iload_n hx hb dX3_size_4 rfl (lv_at hl 0 rfl) ?_
    refine lv_ineg hx hb dX3_size_5 ?_
    refine lv_goto (tgt := 10) hx hb dX3_size_6 (by decide) ?_
    exact W.iret (v := (-p0)) hx hb hr (fun t ht hW => ⟨(-p0), rfl, hw, ht⟩) (fun q hq => nomatch hq) dX3_size_10
def wp_X3_steps (E : EV) (post : Int32 → Prop) (p0 : Int32) (p1 : Int32) : Prop := (wp_X3_size E (fun r_119 : Int32 => (wp_X3_size E (fun r_120 : Int32 => ((r_119 ≤ r_120 → (wp_X3_size E (fun r_122 : Int32 => post r_122) p1)) ∧ (¬ (r_119 ≤ r_120) → (wp_X3_size E (fun r_123 : Int32 => post r_123) p0)))) p1)) p0)
set_option maxHeartbeats 4000000 in
set_option maxRecDepth 100000 in
theorem c_X3_steps (E : EV) (l : Launch) (p0 : Int32) (p1 : Int32) (post : Int32 → Prop) (hw : wp_X3_steps E post p0 p1) : Met l yX3_steps (Cond.code yX3_steps cX3_steps 2 (some .int) :: ALLW) ({ frames := 1, cells := 0, slots := 0, locals := 20 } : Room) (va_Pc [.int p0, .int p1] (preR E ([]))) (vp_Si post) 0 0 (fun _ => False) := by
  refine Met.ofW (cc := cX3_steps) (maxL := 2) (ret := (some .int)) (by decide) rfl ?_
  intro p e s m args below meth c s₁ B hml hv
  obtain ⟨rfl, hpre⟩ := hv
  have hx := B.exec
  have hb := B.bytes
  have hr := B.returns
  have hlocks := B.notSynchronized
  have hts := atoms_spec (ws := (Cond.code yX3_steps cX3_steps 2 (some .int) :: ALLW)) B.pre
  have hta : ∀ w ∈ ALLW, w.before ([.int p0, .int p1] : List Value).toArray s = true := fun w h => hts w (List.mem_cons_of_mem _ h)
  have hown : s.vm.findClass RX3 = some m.cls := findClass_of_methodNamed B.named
  obtain ⟨hP, hKE⟩ := hpre
  have hP : va_P (eD E) vwCl [] s.heap := hP
  have hl := lv_entry ([.int p0, .int p1]) (n := 2) (Nat.le_of_ble_eq_true rfl)
  rw [lg_entry_eq]
  generalize (lg_sl ([.int p0, .int p1]) ++ List.replicate (2 - (lg_sl ([.int p0, .int p1])).length) Slot.unset).toArray = ls at hl ⊢
  have hl : lv_has ls 2 [(0, .int p0), (1, .int p1)] := hl
  unfold wp_X3_steps at hw
  refine lv_iload_n hx hb dX3_steps_0 rfl (lv_at hl 0 rfl) ?_
  have hPc : va_P (eD E) vwCl [] s.heap := va_P_nil
  refine vp_callSi (va_Run.run (va_runS (As := [.int p0]) (rest := []) ⟨hx, hb, hml, hown, hta⟩ (c_X3_size E l p0 _ hw) (pcS (n := 1) hta tw_675 tw_673 tw_6 tw_674 rfl rfl hd_X3_size ⟨Nat.le_of_ble_eq_true rfl, Nat.le_of_ble_eq_true rfl⟩) ⟨fbR, fun U hU hW => ⟨rfl, preR.mk hPc hKE hU hW⟩⟩ rfl rfl hl.1 rfl (lv_room (Nat.le_of_ble_eq_true rfl)) dX3_steps_1 ⟨Nat.le_of_ble_eq_true rfl, Nat.le_of_ble_eq_true rfl⟩)) (fun r_119 hw => ?_)
  refine lv_iload_n hx hb dX3_steps_4 rfl (lv_at hl 1 rfl) ?_
  have hPc : va_P (eD E) vwCl [] s.heap := va_P_nil
  refine vp_callSi (va_Run.run (va_runS (As := [.int p1]) (rest := [.int r_119]) ⟨hx, hb, hml, hown, hta⟩ (c_X3_size E l p1 _ hw) (pcS (n := 1) hta tw_675 tw_673 tw_6 tw_674 rfl rfl hd_X3_size ⟨Nat.le_of_ble_eq_true rfl, Nat.le_of_ble_eq_true rfl⟩) ⟨fbR, fun U hU hW => ⟨rfl, preR.mk hPc hKE hU hW⟩⟩ rfl rfl hl.1 rfl (lv_room (Nat.le_of_ble_eq_true rfl)) dX3_steps_5 ⟨Nat.le_of_ble_eq_true rfl, Nat.le_of_ble_eq_true rfl⟩)) (fun r_120 hw => ?_)
  refine lv_icmp_le (tgt := 18) hx hb dX3_steps_8 (by decide) (fun c_121 => ?_) (fun c_121 => ?_)
  · have hw := hw.1 c_121
    refine lv_iload_n hx hb dX3_steps_18 rfl (lv_at hl 1 rfl) ?_
    have hPc : va_P (eD E) vwCl [] s.heap := va_P_nil
    refine vp_callSi (va_Run.run (va_runS (As := [.int p1]) (rest := []) ⟨hx, hb, hml, hown, hta⟩ (c_X3_size E l p1 _ hw) (pcS (n := 1) hta tw_675 tw_673 tw_6 tw_674 rfl rfl hd_X3_size ⟨Nat.le_of_ble_eq_true rfl, Nat.le_of_ble_eq_true rfl⟩) ⟨fbR, fun U hU hW => ⟨rfl, preR.mk hPc hKE hU hW⟩⟩ rfl rfl hl.1 rfl (lv_room (Nat.le_of_ble_eq_true rfl)) dX3_steps_19 ⟨Nat.le_of_ble_eq_true rfl, Nat.le_of_ble_eq_true rfl⟩)) (fun r_122 hw => ?_)
    exact W.iret (v := r_122) hx hb hr (fun t ht hW => ⟨r_122, rfl, hw, ht⟩) (fun q hq => nomatch hq) dX3_steps_22
  · have hw := hw.2 c_121
    refine lv_iload_n hx hb dX3_steps_11 rfl (lv_at hl 0 rfl) ?_
    have hPc : va_P (eD E) vwCl [] s.heap := va_P_nil
    refine vp_callSi (va_Run.run (va_runS (As := [.int p0]) (rest := []) ⟨hx, hb, hml, hown, hta⟩ (c_X3_size E l p0 _ hw) (pcS (n := 1) hta tw_675 tw_673 tw_6 tw_674 rfl rfl hd_X3_size ⟨Nat.le_of_ble_eq_true rfl, Nat.le_of_ble_eq_true rfl⟩) ⟨fbR, fun U hU hW => ⟨rfl, preR.mk hPc hKE hU hW⟩⟩ rfl rfl hl.1 rfl (lv_room (Nat.le_of_ble_eq_true rfl)) dX3_steps_12 ⟨Nat.le_of_ble_eq_true rfl, Nat.le_of_ble_eq_true rfl⟩)) (fun r_123 hw => ?_)
    refine lv_goto (tgt := 22) hx hb dX3_steps_15 (by decide) ?_
    exact W.iret (v := r_123) hx hb hr (fun t ht hW => ⟨r_123, rfl, hw, ht⟩) (fun q hq => nomatch hq) dX3_steps_22
def wp_X3_draws_L9 (E : EV) (post : (Nat → Int32) → (Nat → Int32) → (Nat → Int32) → (Nat → Int32) → (Nat → Int32) → (Nat → Int32) → (Nat → Int32) → Prop)   : Nat → (Nat → Int32) → (Nat → Int32) → (Nat → Int32) → (Nat → Int32) → (Nat → Int32) → (Nat → Int32) → (Nat → Int32) → Int32 → Int32 → Int32 → Int32 → Prop
  | 0, _, _, _, _, _, _, _, _, _, _, _ => False
  | n + 1, gm_L, ks_L, os_L, ts_L, iq_L, mk_L, me_L, x1, x2, x3, x4 => ((x3 < x4 → post gm_L ks_L os_L ts_L iq_L mk_L me_L) ∧ (¬ (x3 < x4) → ((¬ x3 = 0) ∧ ((¬ x3 = 0) ∧ (vp_in ((((100 * ((gm_L 12) + ((x2 * x4) / x3))) + (gm_L 11)) + ((x1 * x4) / x3)) / 32) 320 ∧ (wp_X3_draws_L9 E post n gm_L ks_L os_L ts_L iq_L mk_L (upd me_L ((((100 * ((gm_L 12) + ((x2 * x4) / x3))) + (gm_L 11)) + ((x1 * x4) / x3)) / 32).toNatClampNeg ((me_L ((((100 * ((gm_L 12) + ((x2 * x4) / x3))) + (gm_L 11)) + ((x1 * x4) / x3)) / 32).toNatClampNeg) ||| (1 <<< (((((100 * ((gm_L 12) + ((x2 * x4) / x3))) + (gm_L 11)) + ((x1 * x4) / x3)) - (((100 * ((gm_L 12) + ((x2 * x4) / x3))) + (gm_L 11)) + ((x1 * x4) / x3)) / 32 * 32) &&& 31)))) x1 x2 x3 (x4 + 1)))))))
def wp_X3_draws (E : EV) (post : (Nat → Int32) → (Nat → Int32) → (Nat → Int32) → (Nat → Int32) → (Nat → Int32) → (Nat → Int32) → (Nat → Int32) → Prop) (gm : Nat → Int32) (ks : Nat → Int32) (os : Nat → Int32) (ts : Nat → Int32) (iq : Nat → Int32) (mk : Nat → Int32) (me : Nat → Int32) (p0 : Int32) (p1 : Int32) : Prop := (wp_X3_steps E (fun r_124 : Int32 => (∃ n : Nat, wp_X3_draws_L9 E post n gm ks os ts iq mk me p0 p1 r_124 0)) p0 p1)
set_option maxHeartbeats 4000000 in
set_option maxRecDepth 100000 in
theorem c_X3_draws (E : EV) (l : Launch) (am : Nat → Nat) (gm : Nat → Int32) (ks : Nat → Int32) (os : Nat → Int32) (ts : Nat → Int32) (iq : Nat → Int32) (mk : Nat → Int32) (me : Nat → Int32) (p0 : Int32) (p1 : Int32) (hz : Nat) (post : (Nat → Int32) → (Nat → Int32) → (Nat → Int32) → (Nat → Int32) → (Nat → Int32) → (Nat → Int32) → (Nat → Int32) → Prop) (hw : wp_X3_draws E post gm ks os ts iq mk me p0 p1) : Met l yX3_draws (Cond.code yX3_draws cX3_draws 6 none :: ALLW) ({ frames := 2, cells := 0, slots := 0, locals := 41 } : Room) (va_Pc [.ref (am 0), .int p0, .int p1] (preM E (wM E am gm ks os ts iq mk me) hz)) (va_Qv (fun (u : (Nat → Int32) × (Nat → Int32) × (Nat → Int32) × (Nat → Int32) × (Nat → Int32) × (Nat → Int32) × (Nat → Int32)) => post u.1 u.2.1 u.2.2.1 u.2.2.2.1 u.2.2.2.2.1 u.2.2.2.2.2.1 u.2.2.2.2.2.2) (fun (u : (Nat → Int32) × (Nat → Int32) × (Nat → Int32) × (Nat → Int32) × (Nat → Int32) × (Nat → Int32) × (Nat → Int32)) t => va_P (eD E) vwCl (wM E am u.1 u.2.1 u.2.2.1 u.2.2.2.1 u.2.2.2.2.1 u.2.2.2.2.2.1 u.2.2.2.2.2.2) t.heap ∧ va_D (va_A (wM E am gm ks os ts iq mk me) hz) (wM E am u.1 u.2.1 u.2.2.1 u.2.2.2.1 u.2.2.2.2.1 u.2.2.2.2.2.1 u.2.2.2.2.2.2)) (va_A (wM E am gm ks os ts iq mk me) hz)) 0 0 (va_A (wM E am gm ks os ts iq mk me) hz) := by
  refine Met.ofW (cc := cX3_draws) (maxL := 6) (ret := none) (by decide) rfl ?_
  intro p e s m args below meth c s₁ B hml hv
  obtain ⟨rfl, hpre⟩ := hv
  have hx := B.exec
  have hb := B.bytes
  have hr := B.returns
  have hlocks := B.notSynchronized
  have hts := atoms_spec (ws := (Cond.code yX3_draws cX3_draws 6 none :: ALLW)) B.pre
  have hta : ∀ w ∈ ALLW, w.before ([.ref (am 0), .int p0, .int p1] : List Value).toArray s = true := fun w h => hts w (List.mem_cons_of_mem _ h)
  have hown : s.vm.findClass RX3 = some m.cls := findClass_of_methodNamed B.named
  obtain ⟨hsz, hP, hKE, hD0, hZ⟩ := hpre
  subst hsz
  have hD := hD0.self (sz := s.heap.size)
  generalize hAe : va_A (wM E am gm ks os ts iq mk me) s.heap.size = A at hD hZ ⊢
  have hA : ∀ q : Nat, s.heap.size ≤ q → A q := fun q h => by rw [← hAe]; exact Or.inr h
  have hS : va_S A s.heap s.heap [] := va_S.rf
  have hP : va_P (eD E) vwCl [((am 0), .inr (4, [.int (gm 0), .int (gm 1), .int (gm 2), .int (gm 3), .int (gm 4), .ref (am 1), .ref (am 2), .ref (am 3), .int (gm 8), .int (gm 9), .int (gm 10), .int (gm 11), .int (gm 12), .int (gm 13), .int (gm 14), .int (gm 15), .int (gm 16), .int (gm 17), .int (gm 18), .int (gm 19), .int (gm 20), .ref (am 4), .int (gm 22), .int (gm 23), .ref (am 5), .ref (am 6), .int (gm 26)])), ((am 1), .inl (eC E 0, 32, .inl ks)), ((am 2), .inl (eC E 0, 32, .inl os)), ((am 3), .inl (eC E 0, 32, .inl ts)), ((am 4), .inl (eC E 0, 3, .inl iq)), ((am 5), .inl (eC E 0, 320, .inl mk)), ((am 6), .inl (eC E 0, 320, .inl me))] s.heap := hP
  have hD : va_D A [((am 0), .inr (4, [.int (gm 0), .int (gm 1), .int (gm 2), .int (gm 3), .int (gm 4), .ref (am 1), .ref (am 2), .ref (am 3), .int (gm 8), .int (gm 9), .int (gm 10), .int (gm 11), .int (gm 12), .int (gm 13), .int (gm 14), .int (gm 15), .int (gm 16), .int (gm 17), .int (gm 18), .int (gm 19), .int (gm 20), .ref (am 4), .int (gm 22), .int (gm 23), .ref (am 5), .ref (am 6), .int (gm 26)])), ((am 1), .inl (eC E 0, 32, .inl ks)), ((am 2), .inl (eC E 0, 32, .inl os)), ((am 3), .inl (eC E 0, 32, .inl ts)), ((am 4), .inl (eC E 0, 3, .inl iq)), ((am 5), .inl (eC E 0, 320, .inl mk)), ((am 6), .inl (eC E 0, 320, .inl me))] := hD
  have hl := lv_entry ([.ref (am 0), .int p0, .int p1]) (n := 6) (Nat.le_of_ble_eq_true rfl)
  rw [lg_entry_eq]
  generalize (lg_sl ([.ref (am 0), .int p0, .int p1]) ++ List.replicate (6 - (lg_sl ([.ref (am 0), .int p0, .int p1])).length) Slot.unset).toArray = ls at hl ⊢
  have hl : lv_has ls 6 [(0, .ref (am 0)), (1, .int p0), (2, .int p1)] := hl
  have loop_9 : ∀ (n : Nat) (gm_L : Nat → Int32) (ks_L : Nat → Int32) (os_L : Nat → Int32) (ts_L : Nat → Int32) (iq_L : Nat → Int32) (mk_L : Nat → Int32) (me_L : Nat → Int32) (x1 : Int32) (x2 : Int32) (x3 : Int32) (x4 : Int32), wp_X3_draws_L9 E post n gm_L ks_L os_L ts_L iq_L mk_L me_L x1 x2 x3 x4 → ∀ (H : Heap) (locs : List Loc), va_P (eD E) vwCl [((am 0), .inr (4, [.int (gm_L 0), .int (gm_L 1), .int (gm_L 2), .int (gm_L 3), .int (gm_L 4), .ref (am 1), .ref (am 2), .ref (am 3), .int (gm_L 8), .int (gm_L 9), .int (gm_L 10), .int (gm_L 11), .int (gm_L 12), .int (gm_L 13), .int (gm_L 14), .int (gm_L 15), .int (gm_L 16), .int (gm_L 17), .int (gm_L 18), .int (gm_L 19), .int (gm_L 20), .ref (am 4), .int (gm_L 22), .int (gm_L 23), .ref (am 5), .ref (am 6), .int (gm_L 26)])), ((am 1), .inl (eC E 0, 32, .inl ks_L)), ((am 2), .inl (eC E 0, 32, .inl os_L)), ((am 3), .inl (eC E 0, 32, .inl ts_L)), ((am 4), .inl (eC E 0, 3, .inl iq_L)), ((am 5), .inl (eC E 0, 320, .inl mk_L)), ((am 6), .inl (eC E 0, 320, .inl me_L))] H → va_D A [((am 0), .inr (4, [.int (gm_L 0), .int (gm_L 1), .int (gm_L 2), .int (gm_L 3), .int (gm_L 4), .ref (am 1), .ref (am 2), .ref (am 3), .int (gm_L 8), .int (gm_L 9), .int (gm_L 10), .int (gm_L 11), .int (gm_L 12), .int (gm_L 13), .int (gm_L 14), .int (gm_L 15), .int (gm_L 16), .int (gm_L 17), .int (gm_L 18), .int (gm_L 19), .int (gm_L 20), .ref (am 4), .int (gm_L 22), .int (gm_L 23), .ref (am 5), .ref (am 6), .int (gm_L 26)])), ((am 1), .inl (eC E 0, 32, .inl ks_L)), ((am 2), .inl (eC E 0, 32, .inl os_L)), ((am 3), .inl (eC E 0, 32, .inl ts_L)), ((am 4), .inl (eC E 0, 3, .inl iq_L)), ((am 5), .inl (eC E 0, 320, .inl mk_L)), ((am 6), .inl (eC E 0, 320, .inl me_L))] → va_S A s.heap H locs → ∀ (ls : Array Slot), lv_has ls 6 [(0, .ref (am 0)), (1, .int x1), (2, .int x2), (3, .int x3), (4, .int x4)] → W p l e (headSpec (Cond.code yX3_draws cX3_draws 6 none :: ALLW) ({ frames := 2, cells := 0, slots := 0, locals := 41 } : Room)).room s m ([.ref (am 0), .int p0, .int p1] : List Value).toArray below meth c H locs 0 0 (MQ below (va_Qv (fun (u : (Nat → Int32) × (Nat → Int32) × (Nat → Int32) × (Nat → Int32) × (Nat → Int32) × (Nat → Int32) × (Nat → Int32)) => post u.1 u.2.1 u.2.2.1 u.2.2.2.1 u.2.2.2.2.1 u.2.2.2.2.2.1 u.2.2.2.2.2.2) (fun (u : (Nat → Int32) × (Nat → Int32) × (Nat → Int32) × (Nat → Int32) × (Nat → Int32) × (Nat → Int32) × (Nat → Int32)) t => va_P (eD E) vwCl (wM E am u.1 u.2.1 u.2.2.1 u.2.2.2.1 u.2.2.2.2.1 u.2.2.2.2.2.1 u.2.2.2.2.2.2) t.heap ∧ va_D A (wM E am u.1 u.2.1 u.2.2.1 u.2.2.2.1 u.2.2.2.2.1 u.2.2.2.2.2.1 u.2.2.2.2.2.2)) A) ([.ref (am 0), .int p0, .int p1] : List Value).toArray s 0 0 A) (F0 m 9 ls []) := by
    intro n
    induction n with
    | zero => intro gm_L ks_L os_L ts_L iq_L mk_L me_L x1 x2 x3 x4 hw; exact hw.elim
    | succ n ih =>
      intro gm_L ks_L os_L ts_L iq_L mk_L me_L x1 x2 x3 x4 hw H locs hP hD hS ls hl
      unfold wp_X3_draws_L9 at hw
      refine lv_iload hx hb dX3_draws_9 (lv_at hl 4 rfl) ?_
      refine lv_iload_n hx hb dX3_draws_11 rfl (lv_at hl 3 rfl) ?_
      refine lv_icmp_gt (tgt := 69) hx hb dX3_draws_12 (by decide) (fun c_125 => ?_) (fun c_125 => ?_)
      · have hw := hw.1 c_125
        have hP9 : va_P (eD E) vwCl (wM E am gm_L ks_L os_L ts_L iq_L mk_L me_L) H := hP
        have hD9 : va_D A (wM E am gm_L ks_L os_L ts_L iq_L mk_L me_L) := hD
        exact W.vret hx hb hr (fun t ht hW => ⟨⟨(gm_L, ks_L, os_L, ts_L, iq_L, mk_L, me_L), rfl, hw, ⟨by rw [ht]; exact hP9, hD9⟩⟩, hS.F ht⟩) hS.2.2 dX3_draws_69
      · have hw := hw.2 c_125
        refine lv_bipush (v := 100) hx hb dX3_draws_15 (by decide) ?_
        refine lv_aload_n hx hb dX3_draws_17 rfl (lv_at hl 0 rfl) ?_
        refine va_get (D := eD E) (ci := 4) (v := .int (gm_L 12)) (C := RX3) (T := TX3) (N := 27) hx hb hta lay_X3 hown hKE.1 hP 0 rfl rfl 12 (by decide) (hta _ tw_566) (fun _ h9 => h9) rfl dX3_draws_18 ?_
        refine lv_iload_n hx hb dX3_draws_21 rfl (lv_at hl 2 rfl) ?_
        refine lv_iload hx hb dX3_draws_22 (lv_at hl 4 rfl) ?_
        refine lv_imul hx hb dX3_draws_24 ?_
        refine lv_iload_n hx hb dX3_draws_25 rfl (lv_at hl 3 rfl) ?_
        obtain ⟨hne_126, hw⟩ := hw
        refine lv_idiv hx hb dX3_draws_26 hne_126 ?_
        refine lv_iadd hx hb dX3_draws_27 ?_
        refine lv_imul hx hb dX3_draws_28 ?_
        refine lv_aload_n hx hb dX3_draws_29 rfl (lv_at hl 0 rfl) ?_
        refine va_get (D := eD E) (ci := 4) (v := .int (gm_L 11)) (C := RX3) (T := TX3) (N := 27) hx hb hta lay_X3 hown hKE.1 hP 0 rfl rfl 11 (by decide) (hta _ tw_565) (fun _ h9 => h9) rfl dX3_draws_30 ?_
        refine lv_iadd hx hb dX3_draws_33 ?_
        refine lv_iload_n hx hb dX3_draws_34 rfl (lv_at hl 1 rfl) ?_
        refine lv_iload hx hb dX3_draws_35 (lv_at hl 4 rfl) ?_
        refine lv_imul hx hb dX3_draws_37 ?_
        refine lv_iload_n hx hb dX3_draws_38 rfl (lv_at hl 3 rfl) ?_
        obtain ⟨hne_127, hw⟩ := hw
        refine lv_idiv hx hb dX3_draws_39 hne_127 ?_
        refine lv_iadd hx hb dX3_draws_40 ?_
        refine lv_istore (lv' := [(5, .int (((100 * ((gm_L 12) + ((x2 * x4) / x3))) + (gm_L 11)) + ((x1 * x4) / x3))), (0, .ref (am 0)), (1, .int x1), (2, .int x2), (3, .int x3), (4, .int x4)]) hx hb dX3_draws_41 hl (by decide) rfl (fun ls hl => ?_)
        refine lv_aload_n hx hb dX3_draws_43 rfl (lv_at hl 1 rfl) ?_
        refine va_get (D := eD E) (ci := 4) (v := .ref (am 6)) (C := RX3) (T := TX3) (N := 27) hx hb hta lay_X3 hown hKE.1 hP 0 rfl rfl 25 (by decide) (hta _ tw_579) (fun _ h9 => h9) rfl dX3_draws_44 ?_
        refine lv_iload hx hb dX3_draws_47 (lv_at hl 0 rfl) ?_
        refine lv_bipush (v := 32) hx hb dX3_draws_49 (by decide) ?_
        refine lv_idiv hx hb dX3_draws_51 (by decide) ?_
        refine lv_dup2_11 hx hb dX3_draws_52 rfl rfl ?_
        obtain ⟨hi_128, hw⟩ := hw
        refine va_iald hx hb hKE.1 hP 6 0 rfl rfl hi_128 dX3_draws_53 ?_
        refine lv_iconst (v := 1) hx hb dX3_draws_54 (by decide) ?_
        refine lv_iload hx hb dX3_draws_55 (lv_at hl 0 rfl) ?_
        refine lv_bipush (v := 32) hx hb dX3_draws_57 (by decide) ?_
        refine lv_irem hx hb dX3_draws_59 (by decide) ?_
        refine lv_ishl hx hb dX3_draws_60 ?_
        refine lv_ior hx hb dX3_draws_61 ?_
        refine va_iast hx hb hKE.1 hP hD hS 6 0 rfl rfl hi_128 dX3_draws_62 (fun H locs hP hD hS => ?_)
        have hP : va_P (eD E) vwCl [((am 0), .inr (4, [.int (gm_L 0), .int (gm_L 1), .int (gm_L 2), .int (gm_L 3), .int (gm_L 4), .ref (am 1), .ref (am 2), .ref (am 3), .int (gm_L 8), .int (gm_L 9), .int (gm_L 10), .int (gm_L 11), .int (gm_L 12), .int (gm_L 13), .int (gm_L 14), .int (gm_L 15), .int (gm_L 16), .int (gm_L 17), .int (gm_L 18), .int (gm_L 19), .int (gm_L 20), .ref (am 4), .int (gm_L 22), .int (gm_L 23), .ref (am 5), .ref (am 6), .int (gm_L 26)])), ((am 1), .inl (eC E 0, 32, .inl ks_L)), ((am 2), .inl (eC E 0, 32, .inl os_L)), ((am 3), .inl (eC E 0, 32, .inl ts_L)), ((am 4), .inl (eC E 0, 3, .inl iq_L)), ((am 5), .inl (eC E 0, 320, .inl mk_L)), ((am 6), .inl (eC E 0, 320, .inl (upd me_L ((((100 * ((gm_L 12) + ((x2 * x4) / x3))) + (gm_L 11)) + ((x1 * x4) / x3)) / 32).toNatClampNeg ((me_L ((((100 * ((gm_L 12) + ((x2 * x4) / x3))) + (gm_L 11)) + ((x1 * x4) / x3)) / 32).toNatClampNeg) ||| (1 <<< (((((100 * ((gm_L 12) + ((x2 * x4) / x3))) + (gm_L 11)) + ((x1 * x4) / x3)) - (((100 * ((gm_L 12) + ((x2 * x4) / x3))) + (gm_L 11)) + ((x1 * x4) / x3)) / 32 * 32) &&& 31))))))] H := hP
        have hD : va_D A [((am 0), .inr (4, [.int (gm_L 0), .int (gm_L 1), .int (gm_L 2), .int (gm_L 3), .int (gm_L 4), .ref (am 1), .ref (am 2), .ref (am 3), .int (gm_L 8), .int (gm_L 9), .int (gm_L 10), .int (gm_L 11), .int (gm_L 12), .int (gm_L 13), .int (gm_L 14), .int (gm_L 15), .int (gm_L 16), .int (gm_L 17), .int (gm_L 18), .int (gm_L 19), .int (gm_L 20), .ref (am 4), .int (gm_L 22), .int (gm_L 23), .ref (am 5), .ref (am 6), .int (gm_L 26)])), ((am 1), .inl (eC E 0, 32, .inl ks_L)), ((am 2), .inl (eC E 0, 32, .inl os_L)), ((am 3), .inl (eC E 0, 32, .inl ts_L)), ((am 4), .inl (eC E 0, 3, .inl iq_L)), ((am 5), .inl (eC E 0, 320, .inl mk_L)), ((am 6), .inl (eC E 0, 320, .inl (upd me_L ((((100 * ((gm_L 12) + ((x2 * x4) / x3))) + (gm_L 11)) + ((x1 * x4) / x3)) / 32).toNatClampNeg ((me_L ((((100 * ((gm_L 12) + ((x2 * x4) / x3))) + (gm_L 11)) + ((x1 * x4) / x3)) / 32).toNatClampNeg) ||| (1 <<< (((((100 * ((gm_L 12) + ((x2 * x4) / x3))) + (gm_L 11)) + ((x1 * x4) / x3)) - (((100 * ((gm_L 12) + ((x2 * x4) / x3))) + (gm_L 11)) + ((x1 * x4) / x3)) / 32 * 32) &&& 31))))))] := hD
        refine lv_iinc (v := (x4 + 1)) (lv' := [(4, .int (x4 + 1)), (5, .int (((100 * ((gm_L 12) + ((x2 * x4) / x3))) + (gm_L 11)) + ((x1 * x4) / x3))), (0, .ref (am 0)), (1, .int x1), (2, .int x2), (3, .int x3)]) hx hb dX3_draws_63 hl (k := 5) rfl rfl (by decide) rfl (fun ls hl => ?_)
        refine lv_goto (tgt := 9) hx hb dX3_draws_66 (by decide) ?_
        exact ih gm_L ks_L os_L ts_L iq_L mk_L (upd me_L ((((100 * ((gm_L 12) + ((x2 * x4) / x3))) + (gm_L 11)) + ((x1 * x4) / x3)) / 32).toNatClampNeg ((me_L ((((100 * ((gm_L 12) + ((x2 * x4) / x3))) + (gm_L 11)) + ((x1 * x4) / x3)) / 32).toNatClampNeg) ||| (1 <<< (((((100 * ((gm_L 12) + ((x2 * x4) / x3))) + (gm_L 11)) + ((x1 * x4) / x3)) - (((100 * ((gm_L 12) + ((x2 * x4) / x3))) + (gm_L 11)) + ((x1 * x4) / x3)) / 32 * 32) &&& 31)))) x1 x2 x3 (x4 + 1) hw _ _ hP hD hS ls (lv_sub hl [2, 3, 4, 5, 0] rfl)
  unfold wp_X3_draws at hw
  refine lv_iload_n hx hb dX3_draws_0 rfl (lv_at hl 1 rfl) ?_
  refine lv_iload_n hx hb dX3_draws_1 rfl (lv_at hl 2 rfl) ?_
  have hPc : va_P (eD E) vwCl [] s.heap := va_P_nil
  refine vp_callSi (va_Run.run (va_runS (As := [.int p0, .int p1]) (rest := []) ⟨hx, hb, hml, hown, hta⟩ (c_X3_steps E l p0 p1 _ hw) (pcS (n := 2) hta tw_672 tw_670 tw_6 tw_671 rfl rfl hd_X3_steps ⟨Nat.le_of_ble_eq_true rfl, Nat.le_of_ble_eq_true rfl⟩) ⟨fbR, fun U hU hW => ⟨rfl, preR.mk hPc hKE hU hW⟩⟩ rfl rfl hl.1 rfl (lv_room (Nat.le_of_ble_eq_true rfl)) dX3_draws_2 ⟨Nat.le_of_ble_eq_true rfl, Nat.le_of_ble_eq_true rfl⟩)) (fun r_124 hw => ?_)
  refine lv_istore_n (lv' := [(3, .int r_124), (0, .ref (am 0)), (1, .int p0), (2, .int p1)]) hx hb dX3_draws_5 rfl hl (by decide) rfl (fun ls hl => ?_)
  refine lv_iconst (v := 0) hx hb dX3_draws_6 (by decide) ?_
  refine lv_istore (lv' := [(4, .int 0), (3, .int r_124), (0, .ref (am 0)), (1, .int p0), (2, .int p1)]) hx hb dX3_draws_7 hl (by decide) rfl (fun ls hl => ?_)
  obtain ⟨n_129, hw⟩ := hw
  exact loop_9 n_129 gm ks os ts iq mk me p0 p1 r_124 0 hw _ _ hP hD hS ls (lv_sub hl [2, 3, 4, 1, 0] rfl)
def wp_X3_queues (E : EV) (post : Int32 → (Nat → Int32) → (Nat → Int32) → (Nat → Int32) → (Nat → Int32) → (Nat → Int32) → (Nat → Int32) → (Nat → Int32) → Prop) (gm : Nat → Int32) (ks : Nat → Int32) (os : Nat → Int32) (ts : Nat → Int32) (iq : Nat → Int32) (mk : Nat → Int32) (me : Nat → Int32) (p0 : Int32) (p1 : Int32) (p2 : Int32) : Prop := ((p0 = 3 → (wp_X3_isIn E (fun r_157 : Int32 => ((r_157 = 0 → post 0 (upd gm 3 ((gm 3) + 1)) ks os ts iq mk me) ∧ (¬ (r_157 = 0) → (vp_in (gm 4) 32 ∧ ((p0 = 2 → (wp_X3_draws E (fun (gm_162 : Nat → Int32) (ks_163 : Nat → Int32) (os_164 : Nat → Int32) (ts_165 : Nat → Int32) (iq_166 : Nat → Int32) (mk_167 : Nat → Int32) (me_168 : Nat → Int32) => post 1 (upd (upd gm_162 11 ((gm_162 11) + 0)) 12 ((gm_162 12) + 0)) ks_163 os_164 ts_165 iq_166 mk_167 me_168) (upd gm 4 ((gm 4) + 1)) (upd ks (gm 4).toNatClampNeg p0) (upd os (gm 4).toNatClampNeg p1) (upd ts (gm 4).toNatClampNeg p2) iq mk me p1 p2)) ∧ (¬ (p0 = 2) → post 1 (upd (upd (upd gm 4 ((gm 4) + 1)) 11 ((gm 11) + 0)) 12 ((gm 12) + 0)) (upd ks (gm 4).toNatClampNeg p0) (upd os (gm 4).toNatClampNeg p1) (upd ts (gm 4).toNatClampNeg p2) iq mk me)))))) p1 0 2)) ∧ (¬ (p0 = 3) → ((p1 = 0 → ((p2 = 0 → post 0 (upd gm 3 ((gm 3) + 1)) ks os ts iq mk me) ∧ (¬ (p2 = 0) → (wp_X3_isCell E (fun r_145 : Int32 => ((r_145 = 0 → post 0 (upd gm 3 ((gm 3) + 1)) ks os ts iq mk me) ∧ (¬ (r_145 = 0) → (vp_in (gm 4) 32 ∧ ((p0 = 2 → (wp_X3_draws E (fun (gm_150 : Nat → Int32) (ks_151 : Nat → Int32) (os_152 : Nat → Int32) (ts_153 : Nat → Int32) (iq_154 : Nat → Int32) (mk_155 : Nat → Int32) (me_156 : Nat → Int32) => post 1 (upd (upd gm_150 11 ((gm_150 11) + p1)) 12 ((gm_150 12) + p2)) ks_151 os_152 ts_153 iq_154 mk_155 me_156) (upd gm 4 ((gm 4) + 1)) (upd ks (gm 4).toNatClampNeg p0) (upd os (gm 4).toNatClampNeg p1) (upd ts (gm 4).toNatClampNeg p2) iq mk me p1 p2)) ∧ (¬ (p0 = 2) → post 1 (upd (upd (upd gm 4 ((gm 4) + 1)) 11 ((gm 11) + p1)) 12 ((gm 12) + p2)) (upd ks (gm 4).toNatClampNeg p0) (upd os (gm 4).toNatClampNeg p1) (upd ts (gm 4).toNatClampNeg p2) iq mk me)))))) ((gm 11) + p1) ((gm 12) + p2))))) ∧ (¬ (p1 = 0) → (wp_X3_isCell E (fun r_132 : Int32 => ((r_132 = 0 → post 0 (upd gm 3 ((gm 3) + 1)) ks os ts iq mk me) ∧ (¬ (r_132 = 0) → (vp_in (gm 4) 32 ∧ ((p0 = 2 → (wp_X3_draws E (fun (gm_137 : Nat → Int32) (ks_138 : Nat → Int32) (os_139 : Nat → Int32) (ts_140 : Nat → Int32) (iq_141 : Nat → Int32) (mk_142 : Nat → Int32) (me_143 : Nat → Int32) => post 1 (upd (upd gm_137 11 ((gm_137 11) + p1)) 12 ((gm_137 12) + p2)) ks_138 os_139 ts_140 iq_141 mk_142 me_143) (upd gm 4 ((gm 4) + 1)) (upd ks (gm 4).toNatClampNeg p0) (upd os (gm 4).toNatClampNeg p1) (upd ts (gm 4).toNatClampNeg p2) iq mk me p1 p2)) ∧ (¬ (p0 = 2) → post 1 (upd (upd (upd gm 4 ((gm 4) + 1)) 11 ((gm 11) + p1)) 12 ((gm 12) + p2)) (upd ks (gm 4).toNatClampNeg p0) (upd os (gm 4).toNatClampNeg p1) (upd ts (gm 4).toNatClampNeg p2) iq mk me)))))) ((gm 11) + p1) ((gm 12) + p2))))))
set_option maxHeartbeats 4000000 in
set_option maxRecDepth 100000 in
theorem c_X3_queues (E : EV) (l : Launch) (am : Nat → Nat) (gm : Nat → Int32) (ks : Nat → Int32) (os : Nat → Int32) (ts : Nat → Int32) (iq : Nat → Int32) (mk : Nat → Int32) (me : Nat → Int32) (p0 : Int32) (p1 : Int32) (p2 : Int32) (hz : Nat) (post : Int32 → (Nat → Int32) → (Nat → Int32) → (Nat → Int32) → (Nat → Int32) → (Nat → Int32) → (Nat → Int32) → (Nat → Int32) → Prop) (hw : wp_X3_queues E post gm ks os ts iq mk me p0 p1 p2) : Met l yX3_queues (Cond.code yX3_queues cX3_queues 6 (some .boolean) :: ALLW) ({ frames := 3, cells := 0, slots := 0, locals := 66 } : Room) (va_Pc [.ref (am 0), .int p0, .int p1, .int p2] (preM E (wM E am gm ks os ts iq mk me) hz)) (va_Qi (fun (r : Int32) (u : (Nat → Int32) × (Nat → Int32) × (Nat → Int32) × (Nat → Int32) × (Nat → Int32) × (Nat → Int32) × (Nat → Int32)) => post r u.1 u.2.1 u.2.2.1 u.2.2.2.1 u.2.2.2.2.1 u.2.2.2.2.2.1 u.2.2.2.2.2.2) (fun (u : (Nat → Int32) × (Nat → Int32) × (Nat → Int32) × (Nat → Int32) × (Nat → Int32) × (Nat → Int32) × (Nat → Int32)) t => va_P (eD E) vwCl (wM E am u.1 u.2.1 u.2.2.1 u.2.2.2.1 u.2.2.2.2.1 u.2.2.2.2.2.1 u.2.2.2.2.2.2) t.heap ∧ va_D (va_A (wM E am gm ks os ts iq mk me) hz) (wM E am u.1 u.2.1 u.2.2.1 u.2.2.2.1 u.2.2.2.2.1 u.2.2.2.2.2.1 u.2.2.2.2.2.2)) (va_A (wM E am gm ks os ts iq mk me) hz)) 0 0 (va_A (wM E am gm ks os ts iq mk me) hz) := by
  refine Met.ofW (cc := cX3_queues) (maxL := 6) (ret := (some .boolean)) (by decide) rfl ?_
  intro p e s m args below meth c s₁ B hml hv
  obtain ⟨rfl, hpre⟩ := hv
  have hx := B.exec
  have hb := B.bytes
  have hr := B.returns
  have hlocks := B.notSynchronized
  have hts := atoms_spec (ws := (Cond.code yX3_queues cX3_queues 6 (some .boolean) :: ALLW)) B.pre
  have hta : ∀ w ∈ ALLW, w.before ([.ref (am 0), .int p0, .int p1, .int p2] : List Value).toArray s = true := fun w h => hts w (List.mem_cons_of_mem _ h)
  have hown : s.vm.findClass RX3 = some m.cls := findClass_of_methodNamed B.named
  obtain ⟨hsz, hP, hKE, hD0, hZ⟩ := hpre
  subst hsz
  have hD := hD0.self (sz := s.heap.size)
  generalize hAe : va_A (wM E am gm ks os ts iq mk me) s.heap.size = A at hD hZ ⊢
  have hA : ∀ q : Nat, s.heap.size ≤ q → A q := fun q h => by rw [← hAe]; exact Or.inr h
  have hS : va_S A s.heap s.heap [] := va_S.rf
  have hP : va_P (eD E) vwCl [((am 0), .inr (4, [.int (gm 0), .int (gm 1), .int (gm 2), .int (gm 3), .int (gm 4), .ref (am 1), .ref (am 2), .ref (am 3), .int (gm 8), .int (gm 9), .int (gm 10), .int (gm 11), .int (gm 12), .int (gm 13), .int (gm 14), .int (gm 15), .int (gm 16), .int (gm 17), .int (gm 18), .int (gm 19), .int (gm 20), .ref (am 4), .int (gm 22), .int (gm 23), .ref (am 5), .ref (am 6), .int (gm 26)])), ((am 1), .inl (eC E 0, 32, .inl ks)), ((am 2), .inl (eC E 0, 32, .inl os)), ((am 3), .inl (eC E 0, 32, .inl ts)), ((am 4), .inl (eC E 0, 3, .inl iq)), ((am 5), .inl (eC E 0, 320, .inl mk)), ((am 6), .inl (eC E 0, 320, .inl me))] s.heap := hP
  have hD : va_D A [((am 0), .inr (4, [.int (gm 0), .int (gm 1), .int (gm 2), .int (gm 3), .int (gm 4), .ref (am 1), .ref (am 2), .ref (am 3), .int (gm 8), .int (gm 9), .int (gm 10), .int (gm 11), .int (gm 12), .int (gm 13), .int (gm 14), .int (gm 15), .int (gm 16), .int (gm 17), .int (gm 18), .int (gm 19), .int (gm 20), .ref (am 4), .int (gm 22), .int (gm 23), .ref (am 5), .ref (am 6), .int (gm 26)])), ((am 1), .inl (eC E 0, 32, .inl ks)), ((am 2), .inl (eC E 0, 32, .inl os)), ((am 3), .inl (eC E 0, 32, .inl ts)), ((am 4), .inl (eC E 0, 3, .inl iq)), ((am 5), .inl (eC E 0, 320, .inl mk)), ((am 6), .inl (eC E 0, 320, .inl me))] := hD
  have hl := lv_entry ([.ref (am 0), .int p0, .int p1, .int p2]) (n := 6) (Nat.le_of_ble_eq_true rfl)
  rw [lg_entry_eq]
  generalize (lg_sl ([.ref (am 0), .int p0, .int p1, .int p2]) ++ List.replicate (6 - (lg_sl ([.ref (am 0), .int p0, .int p1, .int p2])).length) Slot.unset).toArray = ls at hl ⊢
  have hl : lv_has ls 6 [(0, .ref (am 0)), (1, .int p0), (2, .int p1), (3, .int p2)] := hl
  unfold wp_X3_queues at hw
  refine lv_iload_n hx hb dX3_queues_0 rfl (lv_at hl 1 rfl) ?_
  refine lv_iconst (v := 3) hx hb dX3_queues_1 (by decide) ?_
  refine lv_icmp_ne (tgt := 9) hx hb dX3_queues_2 (by decide) (fun c_130 => ?_) (fun c_130 => ?_)
  · have hw := hw.2 c_130
    refine lv_iconst (v := 0) hx hb dX3_queues_9 (by decide) ?_
    refine lv_istore (lv' := [(4, .int 0), (0, .ref (am 0)), (1, .int p0), (2, .int p1), (3, .int p2)]) hx hb dX3_queues_10 hl (by decide) rfl (fun ls hl => ?_)
    refine lv_iload hx hb dX3_queues_12 (lv_at hl 0 rfl) ?_
    refine lv_if_eq (tgt := 26) hx hb dX3_queues_14 (by decide) (fun _ => ?_) (fun c9 => absurd (by decide) c9)
    refine lv_iload_n hx hb dX3_queues_26 rfl (lv_at hl 3 rfl) ?_
    refine lv_if_ne (tgt := 34) hx hb dX3_queues_27 (by decide) (fun c_131 => ?_) (fun c_131 => ?_)
    · have hw := hw.2 c_131
      refine lv_aload_n hx hb dX3_queues_34 rfl (lv_at hl 1 rfl) ?_
      refine va_get (D := eD E) (ci := 4) (v := .int (gm 11)) (C := RX3) (T := TX3) (N := 27) hx hb hta lay_X3 hown hKE.1 hP 0 rfl rfl 11 (by decide) (hta _ tw_565) (fun _ h9 => h9) rfl dX3_queues_35 ?_
      refine lv_iload_n hx hb dX3_queues_38 rfl (lv_at hl 3 rfl) ?_
      refine lv_iadd hx hb dX3_queues_39 ?_
      refine lv_aload_n hx hb dX3_queues_40 rfl (lv_at hl 1 rfl) ?_
      refine va_get (D := eD E) (ci := 4) (v := .int (gm 12)) (C := RX3) (T := TX3) (N := 27) hx hb hta lay_X3 hown hKE.1 hP 0 rfl rfl 12 (by decide) (hta _ tw_566) (fun _ h9 => h9) rfl dX3_queues_41 ?_
      refine lv_iload_n hx hb dX3_queues_44 rfl (lv_at hl 4 rfl) ?_
      refine lv_iadd hx hb dX3_queues_45 ?_
      have hPc : va_P (eD E) vwCl [] s.heap := va_P_nil
      refine vp_callSi (va_Run.run (va_runS (As := [.int ((gm 11) + p1), .int ((gm 12) + p2)]) (rest := []) ⟨hx, hb, hml, hown, hta⟩ (c_X3_isCell E l ((gm 11) + p1) ((gm 12) + p2) _ hw) (pcS (n := 2) hta tw_665 tw_663 tw_6 tw_664 rfl rfl hd_X3_isCell ⟨Nat.le_of_ble_eq_true rfl, Nat.le_of_ble_eq_true rfl⟩) ⟨fbR, fun U hU hW => ⟨rfl, preR.mk hPc hKE hU hW⟩⟩ rfl rfl hl.1 rfl (lv_room (Nat.le_of_ble_eq_true rfl)) dX3_queues_46 ⟨Nat.le_of_ble_eq_true rfl, Nat.le_of_ble_eq_true rfl⟩)) (fun r_132 hw => ?_)
      refine lv_if_eq (tgt := 56) hx hb dX3_queues_49 (by decide) (fun c_133 => ?_) (fun c_133 => ?_)
      · have hw := hw.1 c_133
        refine lv_iconst (v := 0) hx hb dX3_queues_56 (by decide) ?_
        refine lv_istore (lv' := [(5, .int 0), (4, .int 0), (0, .ref (am 0)), (1, .int p0), (2, .int p1), (3, .int p2)]) hx hb dX3_queues_57 hl (by decide) rfl (fun ls hl => ?_)
        refine lv_iload hx hb dX3_queues_59 (lv_at hl 0 rfl) ?_
        refine lv_if_ne (tgt := 76) hx hb dX3_queues_61 (by decide) (fun c9 => absurd (by decide) c9) (fun _ => ?_)
        refine lv_aload_n hx hb dX3_queues_64 rfl (lv_at hl 2 rfl) ?_
        refine lv_dup hx hb dX3_queues_65 rfl ?_
        refine va_get (D := eD E) (ci := 4) (v := .int (gm 3)) (C := RX3) (T := TX3) (N := 27) hx hb hta lay_X3 hown hKE.1 hP 0 rfl rfl 3 (by decide) (hta _ tw_557) (fun _ h9 => h9) rfl dX3_queues_66 ?_
        refine lv_iconst (v := 1) hx hb dX3_queues_69 (by decide) ?_
        refine lv_iadd hx hb dX3_queues_70 ?_
        refine va_put (D := eD E) (ci := 4) (v := .int ((gm 3) + 1)) (ty := .int) (C := RX3) (T := TX3) (N := 27) hx hb hta lay_X3 tyX3 tyX3_ok nmX3 hown hKE.1 hP hD hS 0 rfl rfl 3 (by decide) (hta _ tw_557) (fun _ h9 => h9) rfl (by decide +kernel) rfl rfl (Nat.le_of_ble_eq_true rfl) dX3_queues_71 (fun H locs hP hD hS => ?_)
        have hP : va_P (eD E) vwCl [((am 0), .inr (4, [.int (gm 0), .int (gm 1), .int (gm 2), .int ((gm 3) + 1), .int (gm 4), .ref (am 1), .ref (am 2), .ref (am 3), .int (gm 8), .int (gm 9), .int (gm 10), .int (gm 11), .int (gm 12), .int (gm 13), .int (gm 14), .int (gm 15), .int (gm 16), .int (gm 17), .int (gm 18), .int (gm 19), .int (gm 20), .ref (am 4), .int (gm 22), .int (gm 23), .ref (am 5), .ref (am 6), .int (gm 26)])), ((am 1), .inl (eC E 0, 32, .inl ks)), ((am 2), .inl (eC E 0, 32, .inl os)), ((am 3), .inl (eC E 0, 32, .inl ts)), ((am 4), .inl (eC E 0, 3, .inl iq)), ((am 5), .inl (eC E 0, 320, .inl mk)), ((am 6), .inl (eC E 0, 320, .inl me))] H := hP
        have hD : va_D A [((am 0), .inr (4, [.int (gm 0), .int (gm 1), .int (gm 2), .int ((gm 3) + 1), .int (gm 4), .ref (am 1), .ref (am 2), .ref (am 3), .int (gm 8), .int (gm 9), .int (gm 10), .int (gm 11), .int (gm 12), .int (gm 13), .int (gm 14), .int (gm 15), .int (gm 16), .int (gm 17), .int (gm 18), .int (gm 19), .int (gm 20), .ref (am 4), .int (gm 22), .int (gm 23), .ref (am 5), .ref (am 6), .int (gm 26)])), ((am 1), .inl (eC E 0, 32, .inl ks)), ((am 2), .inl (eC E 0, 32, .inl os)), ((am 3), .inl (eC E 0, 32, .inl ts)), ((am 4), .inl (eC E 0, 3, .inl iq)), ((am 5), .inl (eC E 0, 320, .inl mk)), ((am 6), .inl (eC E 0, 320, .inl me))] := hD
        refine lv_iconst (v := 0) hx hb dX3_queues_74 (by decide) ?_
        have hP9 : va_P (eD E) vwCl (wM E am (upd gm 3 ((gm 3) + 1)) ks os ts iq mk me) H := hP
        have hD9 : va_D A (wM E am (upd gm 3 ((gm 3) + 1)) ks os ts iq mk me) := hD
        exact W.zret (v := 0) hx hb hr rfl (fun t ht hW => ⟨⟨0, ((upd gm 3 ((gm 3) + 1)), ks, os, ts, iq, mk, me), rfl, hw, ⟨by rw [ht]; exact hP9, hD9⟩⟩, hS.F ht⟩) hS.2.2 dX3_queues_75
      · have hw := hw.2 c_133
        refine lv_iconst (v := 1) hx hb dX3_queues_52 (by decide) ?_
        refine lv_goto (tgt := 57) hx hb dX3_queues_53 (by decide) ?_
        refine lv_istore (lv' := [(5, .int 1), (4, .int 0), (0, .ref (am 0)), (1, .int p0), (2, .int p1), (3, .int p2)]) hx hb dX3_queues_57 hl (by decide) rfl (fun ls hl => ?_)
        refine lv_iload hx hb dX3_queues_59 (lv_at hl 0 rfl) ?_
        refine lv_if_ne (tgt := 76) hx hb dX3_queues_61 (by decide) (fun _ => ?_) (fun c9 => absurd c9 (by decide))
        refine lv_aload_n hx hb dX3_queues_76 rfl (lv_at hl 2 rfl) ?_
        refine va_get (D := eD E) (ci := 4) (v := .ref (am 1)) (C := RX3) (T := TX3) (N := 27) hx hb hta lay_X3 hown hKE.1 hP 0 rfl rfl 5 (by decide) (hta _ tw_559) (fun _ h9 => h9) rfl dX3_queues_77 ?_
        refine lv_aload_n hx hb dX3_queues_80 rfl (lv_at hl 2 rfl) ?_
        refine va_get (D := eD E) (ci := 4) (v := .int (gm 4)) (C := RX3) (T := TX3) (N := 27) hx hb hta lay_X3 hown hKE.1 hP 0 rfl rfl 4 (by decide) (hta _ tw_558) (fun _ h9 => h9) rfl dX3_queues_81 ?_
        refine lv_iload_n hx hb dX3_queues_84 rfl (lv_at hl 3 rfl) ?_
        obtain ⟨hi_134, hw⟩ := hw
        refine va_iast hx hb hKE.1 hP hD hS 1 0 rfl rfl hi_134 dX3_queues_85 (fun H locs hP hD hS => ?_)
        have hP : va_P (eD E) vwCl [((am 0), .inr (4, [.int (gm 0), .int (gm 1), .int (gm 2), .int (gm 3), .int (gm 4), .ref (am 1), .ref (am 2), .ref (am 3), .int (gm 8), .int (gm 9), .int (gm 10), .int (gm 11), .int (gm 12), .int (gm 13), .int (gm 14), .int (gm 15), .int (gm 16), .int (gm 17), .int (gm 18), .int (gm 19), .int (gm 20), .ref (am 4), .int (gm 22), .int (gm 23), .ref (am 5), .ref (am 6), .int (gm 26)])), ((am 1), .inl (eC E 0, 32, .inl (upd ks (gm 4).toNatClampNeg p0))), ((am 2), .inl (eC E 0, 32, .inl os)), ((am 3), .inl (eC E 0, 32, .inl ts)), ((am 4), .inl (eC E 0, 3, .inl iq)), ((am 5), .inl (eC E 0, 320, .inl mk)), ((am 6), .inl (eC E 0, 320, .inl me))] H := hP
        have hD : va_D A [((am 0), .inr (4, [.int (gm 0), .int (gm 1), .int (gm 2), .int (gm 3), .int (gm 4), .ref (am 1), .ref (am 2), .ref (am 3), .int (gm 8), .int (gm 9), .int (gm 10), .int (gm 11), .int (gm 12), .int (gm 13), .int (gm 14), .int (gm 15), .int (gm 16), .int (gm 17), .int (gm 18), .int (gm 19), .int (gm 20), .ref (am 4), .int (gm 22), .int (gm 23), .ref (am 5), .ref (am 6), .int (gm 26)])), ((am 1), .inl (eC E 0, 32, .inl (upd ks (gm 4).toNatClampNeg p0))), ((am 2), .inl (eC E 0, 32, .inl os)), ((am 3), .inl (eC E 0, 32, .inl ts)), ((am 4), .inl (eC E 0, 3, .inl iq)), ((am 5), .inl (eC E 0, 320, .inl mk)), ((am 6), .inl (eC E 0, 320, .inl me))] := hD
        refine lv_aload_n hx hb dX3_queues_86 rfl (lv_at hl 2 rfl) ?_
        refine va_get (D := eD E) (ci := 4) (v := .ref (am 2)) (C := RX3) (T := TX3) (N := 27) hx hb hta lay_X3 hown hKE.1 hP 0 rfl rfl 6 (by decide) (hta _ tw_560) (fun _ h9 => h9) rfl dX3_queues_87 ?_
        refine lv_aload_n hx hb dX3_queues_90 rfl (lv_at hl 2 rfl) ?_
        refine va_get (D := eD E) (ci := 4) (v := .int (gm 4)) (C := RX3) (T := TX3) (N := 27) hx hb hta lay_X3 hown hKE.1 hP 0 rfl rfl 4 (by decide) (hta _ tw_558) (fun _ h9 => h9) rfl dX3_queues_91 ?_
        refine lv_iload_n hx hb dX3_queues_94 rfl (lv_at hl 4 rfl) ?_
        refine va_iast hx hb hKE.1 hP hD hS 2 0 rfl rfl hi_134 dX3_queues_95 (fun H locs hP hD hS => ?_)
        have hP : va_P (eD E) vwCl [((am 0), .inr (4, [.int (gm 0), .int (gm 1), .int (gm 2), .int (gm 3), .int (gm 4), .ref (am 1), .ref (am 2), .ref (am 3), .int (gm 8), .int (gm 9), .int (gm 10), .int (gm 11), .int (gm 12), .int (gm 13), .int (gm 14), .int (gm 15), .int (gm 16), .int (gm 17), .int (gm 18), .int (gm 19), .int (gm 20), .ref (am 4), .int (gm 22), .int (gm 23), .ref (am 5), .ref (am 6), .int (gm 26)])), ((am 1), .inl (eC E 0, 32, .inl (upd ks (gm 4).toNatClampNeg p0))), ((am 2), .inl (eC E 0, 32, .inl (upd os (gm 4).toNatClampNeg p1))), ((am 3), .inl (eC E 0, 32, .inl ts)), ((am 4), .inl (eC E 0, 3, .inl iq)), ((am 5), .inl (eC E 0, 320, .inl mk)), ((am 6), .inl (eC E 0, 320, .inl me))] H := hP
        have hD : va_D A [((am 0), .inr (4, [.int (gm 0), .int (gm 1), .int (gm 2), .int (gm 3), .int (gm 4), .ref (am 1), .ref (am 2), .ref (am 3), .int (gm 8), .int (gm 9), .int (gm 10), .int (gm 11), .int (gm 12), .int (gm 13), .int (gm 14), .int (gm 15), .int (gm 16), .int (gm 17), .int (gm 18), .int (gm 19), .int (gm 20), .ref (am 4), .int (gm 22), .int (gm 23), .ref (am 5), .ref (am 6), .int (gm 26)])), ((am 1), .inl (eC E 0, 32, .inl (upd ks (gm 4).toNatClampNeg p0))), ((am 2), .inl (eC E 0, 32, .inl (upd os (gm 4).toNatClampNeg p1))), ((am 3), .inl (eC E 0, 32, .inl ts)), ((am 4), .inl (eC E 0, 3, .inl iq)), ((am 5), .inl (eC E 0, 320, .inl mk)), ((am 6), .inl (eC E 0, 320, .inl me))] := hD
        refine lv_aload_n hx hb dX3_queues_96 rfl (lv_at hl 2 rfl) ?_
        refine va_get (D := eD E) (ci := 4) (v := .ref (am 3)) (C := RX3) (T := TX3) (N := 27) hx hb hta lay_X3 hown hKE.1 hP 0 rfl rfl 7 (by decide) (hta _ tw_561) (fun _ h9 => h9) rfl dX3_queues_97 ?_
        refine lv_aload_n hx hb dX3_queues_100 rfl (lv_at hl 2 rfl) ?_
        refine va_get (D := eD E) (ci := 4) (v := .int (gm 4)) (C := RX3) (T := TX3) (N := 27) hx hb hta lay_X3 hown hKE.1 hP 0 rfl rfl 4 (by decide) (hta _ tw_558) (fun _ h9 => h9) rfl dX3_queues_101 ?_
        refine lv_iload_n hx hb dX3_queues_104 rfl (lv_at hl 5 rfl) ?_
        refine va_iast hx hb hKE.1 hP hD hS 3 0 rfl rfl hi_134 dX3_queues_105 (fun H locs hP hD hS => ?_)
        have hP : va_P (eD E) vwCl [((am 0), .inr (4, [.int (gm 0), .int (gm 1), .int (gm 2), .int (gm 3), .int (gm 4), .ref (am 1), .ref (am 2), .ref (am 3), .int (gm 8), .int (gm 9), .int (gm 10), .int (gm 11), .int (gm 12), .int (gm 13), .int (gm 14), .int (gm 15), .int (gm 16), .int (gm 17), .int (gm 18), .int (gm 19), .int (gm 20), .ref (am 4), .int (gm 22), .int (gm 23), .ref (am 5), .ref (am 6), .int (gm 26)])), ((am 1), .inl (eC E 0, 32, .inl (upd ks (gm 4).toNatClampNeg p0))), ((am 2), .inl (eC E 0, 32, .inl (upd os (gm 4).toNatClampNeg p1))), ((am 3), .inl (eC E 0, 32, .inl (upd ts (gm 4).toNatClampNeg p2))), ((am 4), .inl (eC E 0, 3, .inl iq)), ((am 5), .inl (eC E 0, 320, .inl mk)), ((am 6), .inl (eC E 0, 320, .inl me))] H := hP
        have hD : va_D A [((am 0), .inr (4, [.int (gm 0), .int (gm 1), .int (gm 2), .int (gm 3), .int (gm 4), .ref (am 1), .ref (am 2), .ref (am 3), .int (gm 8), .int (gm 9), .int (gm 10), .int (gm 11), .int (gm 12), .int (gm 13), .int (gm 14), .int (gm 15), .int (gm 16), .int (gm 17), .int (gm 18), .int (gm 19), .int (gm 20), .ref (am 4), .int (gm 22), .int (gm 23), .ref (am 5), .ref (am 6), .int (gm 26)])), ((am 1), .inl (eC E 0, 32, .inl (upd ks (gm 4).toNatClampNeg p0))), ((am 2), .inl (eC E 0, 32, .inl (upd os (gm 4).toNatClampNeg p1))), ((am 3), .inl (eC E 0, 32, .inl (upd ts (gm 4).toNatClampNeg p2))), ((am 4), .inl (eC E 0, 3, .inl iq)), ((am 5), .inl (eC E 0, 320, .inl mk)), ((am 6), .inl (eC E 0, 320, .inl me))] := hD
        refine lv_aload_n hx hb dX3_queues_106 rfl (lv_at hl 2 rfl) ?_
        refine lv_dup hx hb dX3_queues_107 rfl ?_
        refine va_get (D := eD E) (ci := 4) (v := .int (gm 4)) (C := RX3) (T := TX3) (N := 27) hx hb hta lay_X3 hown hKE.1 hP 0 rfl rfl 4 (by decide) (hta _ tw_558) (fun _ h9 => h9) rfl dX3_queues_108 ?_
        refine lv_iconst (v := 1) hx hb dX3_queues_111 (by decide) ?_
        refine lv_iadd hx hb dX3_queues_112 ?_
        refine va_put (D := eD E) (ci := 4) (v := .int ((gm 4) + 1)) (ty := .int) (C := RX3) (T := TX3) (N := 27) hx hb hta lay_X3 tyX3 tyX3_ok nmX3 hown hKE.1 hP hD hS 0 rfl rfl 4 (by decide) (hta _ tw_558) (fun _ h9 => h9) rfl (by decide +kernel) rfl rfl (Nat.le_of_ble_eq_true rfl) dX3_queues_113 (fun H locs hP hD hS => ?_)
        have hP : va_P (eD E) vwCl [((am 0), .inr (4, [.int (gm 0), .int (gm 1), .int (gm 2), .int (gm 3), .int ((gm 4) + 1), .ref (am 1), .ref (am 2), .ref (am 3), .int (gm 8), .int (gm 9), .int (gm 10), .int (gm 11), .int (gm 12), .int (gm 13), .int (gm 14), .int (gm 15), .int (gm 16), .int (gm 17), .int (gm 18), .int (gm 19), .int (gm 20), .ref (am 4), .int (gm 22), .int (gm 23), .ref (am 5), .ref (am 6), .int (gm 26)])), ((am 1), .inl (eC E 0, 32, .inl (upd ks (gm 4).toNatClampNeg p0))), ((am 2), .inl (eC E 0, 32, .inl (upd os (gm 4).toNatClampNeg p1))), ((am 3), .inl (eC E 0, 32, .inl (upd ts (gm 4).toNatClampNeg p2))), ((am 4), .inl (eC E 0, 3, .inl iq)), ((am 5), .inl (eC E 0, 320, .inl mk)), ((am 6), .inl (eC E 0, 320, .inl me))] H := hP
        have hD : va_D A [((am 0), .inr (4, [.int (gm 0), .int (gm 1), .int (gm 2), .int (gm 3), .int ((gm 4) + 1), .ref (am 1), .ref (am 2), .ref (am 3), .int (gm 8), .int (gm 9), .int (gm 10), .int (gm 11), .int (gm 12), .int (gm 13), .int (gm 14), .int (gm 15), .int (gm 16), .int (gm 17), .int (gm 18), .int (gm 19), .int (gm 20), .ref (am 4), .int (gm 22), .int (gm 23), .ref (am 5), .ref (am 6), .int (gm 26)])), ((am 1), .inl (eC E 0, 32, .inl (upd ks (gm 4).toNatClampNeg p0))), ((am 2), .inl (eC E 0, 32, .inl (upd os (gm 4).toNatClampNeg p1))), ((am 3), .inl (eC E 0, 32, .inl (upd ts (gm 4).toNatClampNeg p2))), ((am 4), .inl (eC E 0, 3, .inl iq)), ((am 5), .inl (eC E 0, 320, .inl mk)), ((am 6), .inl (eC E 0, 320, .inl me))] := hD
        refine lv_iload_n hx hb dX3_queues_116 rfl (lv_at hl 3 rfl) ?_
        refine lv_iconst (v := 2) hx hb dX3_queues_117 (by decide) ?_
        refine lv_icmp_ne (tgt := 127) hx hb dX3_queues_118 (by decide) (fun c_135 => ?_) (fun c_135 => ?_)
        · have hw := hw.2 c_135
          refine lv_aload_n hx hb dX3_queues_127 rfl (lv_at hl 2 rfl) ?_
          refine lv_dup hx hb dX3_queues_128 rfl ?_
          refine va_get (D := eD E) (ci := 4) (v := .int (gm 11)) (C := RX3) (T := TX3) (N := 27) hx hb hta lay_X3 hown hKE.1 hP 0 rfl rfl 11 (by decide) (hta _ tw_565) (fun _ h9 => h9) rfl dX3_queues_129 ?_
          refine lv_iload hx hb dX3_queues_132 (lv_at hl 1 rfl) ?_
          refine lv_if_eq (tgt := 141) hx hb dX3_queues_134 (by decide) (fun _ => ?_) (fun c9 => absurd (by decide) c9)
          refine lv_iload_n hx hb dX3_queues_141 rfl (lv_at hl 4 rfl) ?_
          refine lv_iadd hx hb dX3_queues_142 ?_
          refine va_put (D := eD E) (ci := 4) (v := .int ((gm 11) + p1)) (ty := .int) (C := RX3) (T := TX3) (N := 27) hx hb hta lay_X3 tyX3 tyX3_ok nmX3 hown hKE.1 hP hD hS 0 rfl rfl 11 (by decide) (hta _ tw_565) (fun _ h9 => h9) rfl (by decide +kernel) rfl rfl (Nat.le_of_ble_eq_true rfl) dX3_queues_143 (fun H locs hP hD hS => ?_)
          have hP : va_P (eD E) vwCl [((am 0), .inr (4, [.int (gm 0), .int (gm 1), .int (gm 2), .int (gm 3), .int ((gm 4) + 1), .ref (am 1), .ref (am 2), .ref (am 3), .int (gm 8), .int (gm 9), .int (gm 10), .int ((gm 11) + p1), .int (gm 12), .int (gm 13), .int (gm 14), .int (gm 15), .int (gm 16), .int (gm 17), .int (gm 18), .int (gm 19), .int (gm 20), .ref (am 4), .int (gm 22), .int (gm 23), .ref (am 5), .ref (am 6), .int (gm 26)])), ((am 1), .inl (eC E 0, 32, .inl (upd ks (gm 4).toNatClampNeg p0))), ((am 2), .inl (eC E 0, 32, .inl (upd os (gm 4).toNatClampNeg p1))), ((am 3), .inl (eC E 0, 32, .inl (upd ts (gm 4).toNatClampNeg p2))), ((am 4), .inl (eC E 0, 3, .inl iq)), ((am 5), .inl (eC E 0, 320, .inl mk)), ((am 6), .inl (eC E 0, 320, .inl me))] H := hP
          have hD : va_D A [((am 0), .inr (4, [.int (gm 0), .int (gm 1), .int (gm 2), .int (gm 3), .int ((gm 4) + 1), .ref (am 1), .ref (am 2), .ref (am 3), .int (gm 8), .int (gm 9), .int (gm 10), .int ((gm 11) + p1), .int (gm 12), .int (gm 13), .int (gm 14), .int (gm 15), .int (gm 16), .int (gm 17), .int (gm 18), .int (gm 19), .int (gm 20), .ref (am 4), .int (gm 22), .int (gm 23), .ref (am 5), .ref (am 6), .int (gm 26)])), ((am 1), .inl (eC E 0, 32, .inl (upd ks (gm 4).toNatClampNeg p0))), ((am 2), .inl (eC E 0, 32, .inl (upd os (gm 4).toNatClampNeg p1))), ((am 3), .inl (eC E 0, 32, .inl (upd ts (gm 4).toNatClampNeg p2))), ((am 4), .inl (eC E 0, 3, .inl iq)), ((am 5), .inl (eC E 0, 320, .inl mk)), ((am 6), .inl (eC E 0, 320, .inl me))] := hD
          refine lv_aload_n hx hb dX3_queues_146 rfl (lv_at hl 2 rfl) ?_
          refine lv_dup hx hb dX3_queues_147 rfl ?_
          refine va_get (D := eD E) (ci := 4) (v := .int (gm 12)) (C := RX3) (T := TX3) (N := 27) hx hb hta lay_X3 hown hKE.1 hP 0 rfl rfl 12 (by decide) (hta _ tw_566) (fun _ h9 => h9) rfl dX3_queues_148 ?_
          refine lv_iload hx hb dX3_queues_151 (lv_at hl 1 rfl) ?_
          refine lv_if_eq (tgt := 160) hx hb dX3_queues_153 (by decide) (fun _ => ?_) (fun c9 => absurd (by decide) c9)
          refine lv_iload_n hx hb dX3_queues_160 rfl (lv_at hl 5 rfl) ?_
          refine lv_iadd hx hb dX3_queues_161 ?_
          refine va_put (D := eD E) (ci := 4) (v := .int ((gm 12) + p2)) (ty := .int) (C := RX3) (T := TX3) (N := 27) hx hb hta lay_X3 tyX3 tyX3_ok nmX3 hown hKE.1 hP hD hS 0 rfl rfl 12 (by decide) (hta _ tw_566) (fun _ h9 => h9) rfl (by decide +kernel) rfl rfl (Nat.le_of_ble_eq_true rfl) dX3_queues_162 (fun H locs hP hD hS => ?_)
          have hP : va_P (eD E) vwCl [((am 0), .inr (4, [.int (gm 0), .int (gm 1), .int (gm 2), .int (gm 3), .int ((gm 4) + 1), .ref (am 1), .ref (am 2), .ref (am 3), .int (gm 8), .int (gm 9), .int (gm 10), .int ((gm 11) + p1), .int ((gm 12) + p2), .int (gm 13), .int (gm 14), .int (gm 15), .int (gm 16), .int (gm 17), .int (gm 18), .int (gm 19), .int (gm 20), .ref (am 4), .int (gm 22), .int (gm 23), .ref (am 5), .ref (am 6), .int (gm 26)])), ((am 1), .inl (eC E 0, 32, .inl (upd ks (gm 4).toNatClampNeg p0))), ((am 2), .inl (eC E 0, 32, .inl (upd os (gm 4).toNatClampNeg p1))), ((am 3), .inl (eC E 0, 32, .inl (upd ts (gm 4).toNatClampNeg p2))), ((am 4), .inl (eC E 0, 3, .inl iq)), ((am 5), .inl (eC E 0, 320, .inl mk)), ((am 6), .inl (eC E 0, 320, .inl me))] H := hP
          have hD : va_D A [((am 0), .inr (4, [.int (gm 0), .int (gm 1), .int (gm 2), .int (gm 3), .int ((gm 4) + 1), .ref (am 1), .ref (am 2), .ref (am 3), .int (gm 8), .int (gm 9), .int (gm 10), .int ((gm 11) + p1), .int ((gm 12) + p2), .int (gm 13), .int (gm 14), .int (gm 15), .int (gm 16), .int (gm 17), .int (gm 18), .int (gm 19), .int (gm 20), .ref (am 4), .int (gm 22), .int (gm 23), .ref (am 5), .ref (am 6), .int (gm 26)])), ((am 1), .inl (eC E 0, 32, .inl (upd ks (gm 4).toNatClampNeg p0))), ((am 2), .inl (eC E 0, 32, .inl (upd os (gm 4).toNatClampNeg p1))), ((am 3), .inl (eC E 0, 32, .inl (upd ts (gm 4).toNatClampNeg p2))), ((am 4), .inl (eC E 0, 3, .inl iq)), ((am 5), .inl (eC E 0, 320, .inl mk)), ((am 6), .inl (eC E 0, 320, .inl me))] := hD
          refine lv_iconst (v := 1) hx hb dX3_queues_165 (by decide) ?_
          have hP9 : va_P (eD E) vwCl (wM E am (upd (upd (upd gm 4 ((gm 4) + 1)) 11 ((gm 11) + p1)) 12 ((gm 12) + p2)) (upd ks (gm 4).toNatClampNeg p0) (upd os (gm 4).toNatClampNeg p1) (upd ts (gm 4).toNatClampNeg p2) iq mk me) H := hP
          have hD9 : va_D A (wM E am (upd (upd (upd gm 4 ((gm 4) + 1)) 11 ((gm 11) + p1)) 12 ((gm 12) + p2)) (upd ks (gm 4).toNatClampNeg p0) (upd os (gm 4).toNatClampNeg p1) (upd ts (gm 4).toNatClampNeg p2) iq mk me) := hD
          exact W.zret (v := 1) hx hb hr rfl (fun t ht hW => ⟨⟨1, ((upd (upd (upd gm 4 ((gm 4) + 1)) 11 ((gm 11) + p1)) 12 ((gm 12) + p2)), (upd ks (gm 4).toNatClampNeg p0), (upd os (gm 4).toNatClampNeg p1), (upd ts (gm 4).toNatClampNeg p2), iq, mk, me), rfl, hw, ⟨by rw [ht]; exact hP9, hD9⟩⟩, hS.F ht⟩) hS.2.2 dX3_queues_166
        · have hw := hw.1 c_135
          refine lv_aload_n hx hb dX3_queues_121 rfl (lv_at hl 2 rfl) ?_
          refine lv_iload_n hx hb dX3_queues_122 rfl (lv_at hl 4 rfl) ?_
          refine lv_iload_n hx hb dX3_queues_123 rfl (lv_at hl 5 rfl) ?_
          have hPc : va_P (eD E) vwCl (wM E am (upd gm 4 ((gm 4) + 1)) (upd ks (gm 4).toNatClampNeg p0) (upd os (gm 4).toNatClampNeg p1) (upd ts (gm 4).toNatClampNeg p2) iq mk me) H := hP
          have hDc : va_D A (wM E am (upd gm 4 ((gm 4) + 1)) (upd ks (gm 4).toNatClampNeg p0) (upd os (gm 4).toNatClampNeg p1) (upd ts (gm 4).toNatClampNeg p2) iq mk me) := hD
          have hFc : ∀ q, va_A (wM E am (upd gm 4 ((gm 4) + 1)) (upd ks (gm 4).toNatClampNeg p0) (upd os (gm 4).toNatClampNeg p1) (upd ts (gm 4).toNatClampNeg p2) iq mk me) H.size q → A q := frS hDc hS hA
          refine va_callv (va_runV (As := [.int p1, .int p2]) (rest := []) ⟨hx, hb, hml, hown, hta⟩ (c_X3_draws E l am (upd gm 4 ((gm 4) + 1)) (upd ks (gm 4).toNatClampNeg p0) (upd os (gm 4).toNatClampNeg p1) (upd ts (gm 4).toNatClampNeg p2) iq mk me p1 p2 H.size _ hw) (pcV (n := 2) hta tw_669 tw_666 tw_6 tw_668 tp_36 rfl rfl hd_X3_draws ⟨Nat.le_of_ble_eq_true rfl, Nat.le_of_ble_eq_true rfl⟩) ⟨fbM, va_recv hKE.1 hP (ci := 4) (q0 := 0) rfl rfl, fun U hU hW => ⟨rfl, preM.mk hPc hKE hDc hZ hS hFc hU hW⟩⟩ rfl rfl hl.1 rfl (lv_room (Nat.le_of_ble_eq_true rfl)) dX3_queues_124 ⟨Nat.le_of_ble_eq_true rfl, Nat.le_of_ble_eq_true rfl⟩) hS (fun q _ h => hFc q h) hFc (fun u t H locs ht hvm hw hB hz1 hk1 hS => ?_)
          obtain ⟨gm_137, ks_138, os_139, ts_140, iq_141, mk_142, me_143⟩ := u
          obtain ⟨hP1, hD1⟩ := hB
          rw [ht] at hP1
          try dsimp only at hw hP1 hD1
          have hP : va_P (eD E) vwCl [((am 0), .inr (4, [.int (gm_137 0), .int (gm_137 1), .int (gm_137 2), .int (gm_137 3), .int (gm_137 4), .ref (am 1), .ref (am 2), .ref (am 3), .int (gm_137 8), .int (gm_137 9), .int (gm_137 10), .int (gm_137 11), .int (gm_137 12), .int (gm_137 13), .int (gm_137 14), .int (gm_137 15), .int (gm_137 16), .int (gm_137 17), .int (gm_137 18), .int (gm_137 19), .int (gm_137 20), .ref (am 4), .int (gm_137 22), .int (gm_137 23), .ref (am 5), .ref (am 6), .int (gm_137 26)])), ((am 1), .inl (eC E 0, 32, .inl ks_138)), ((am 2), .inl (eC E 0, 32, .inl os_139)), ((am 3), .inl (eC E 0, 32, .inl ts_140)), ((am 4), .inl (eC E 0, 3, .inl iq_141)), ((am 5), .inl (eC E 0, 320, .inl mk_142)), ((am 6), .inl (eC E 0, 320, .inl me_143))] H := hP1
          have hD : va_D A [((am 0), .inr (4, [.int (gm_137 0), .int (gm_137 1), .int (gm_137 2), .int (gm_137 3), .int (gm_137 4), .ref (am 1), .ref (am 2), .ref (am 3), .int (gm_137 8), .int (gm_137 9), .int (gm_137 10), .int (gm_137 11), .int (gm_137 12), .int (gm_137 13), .int (gm_137 14), .int (gm_137 15), .int (gm_137 16), .int (gm_137 17), .int (gm_137 18), .int (gm_137 19), .int (gm_137 20), .ref (am 4), .int (gm_137 22), .int (gm_137 23), .ref (am 5), .ref (am 6), .int (gm_137 26)])), ((am 1), .inl (eC E 0, 32, .inl ks_138)), ((am 2), .inl (eC E 0, 32, .inl os_139)), ((am 3), .inl (eC E 0, 32, .inl ts_140)), ((am 4), .inl (eC E 0, 3, .inl iq_141)), ((am 5), .inl (eC E 0, 320, .inl mk_142)), ((am 6), .inl (eC E 0, 320, .inl me_143))] := hD1.weaken (fun _ q _ h => hFc q.1 h)
          refine lv_aload_n hx hb dX3_queues_127 rfl (lv_at hl 2 rfl) ?_
          refine lv_dup hx hb dX3_queues_128 rfl ?_
          refine va_get (D := eD E) (ci := 4) (v := .int (gm_137 11)) (C := RX3) (T := TX3) (N := 27) hx hb hta lay_X3 hown hKE.1 hP 0 rfl rfl 11 (by decide) (hta _ tw_565) (fun _ h9 => h9) rfl dX3_queues_129 ?_
          refine lv_iload hx hb dX3_queues_132 (lv_at hl 1 rfl) ?_
          refine lv_if_eq (tgt := 141) hx hb dX3_queues_134 (by decide) (fun _ => ?_) (fun c9 => absurd (by decide) c9)
          refine lv_iload_n hx hb dX3_queues_141 rfl (lv_at hl 4 rfl) ?_
          refine lv_iadd hx hb dX3_queues_142 ?_
          refine va_put (D := eD E) (ci := 4) (v := .int ((gm_137 11) + p1)) (ty := .int) (C := RX3) (T := TX3) (N := 27) hx hb hta lay_X3 tyX3 tyX3_ok nmX3 hown hKE.1 hP hD hS 0 rfl rfl 11 (by decide) (hta _ tw_565) (fun _ h9 => h9) rfl (by decide +kernel) rfl rfl (Nat.le_of_ble_eq_true rfl) dX3_queues_143 (fun H locs hP hD hS => ?_)
          have hP : va_P (eD E) vwCl [((am 0), .inr (4, [.int (gm_137 0), .int (gm_137 1), .int (gm_137 2), .int (gm_137 3), .int (gm_137 4), .ref (am 1), .ref (am 2), .ref (am 3), .int (gm_137 8), .int (gm_137 9), .int (gm_137 10), .int ((gm_137 11) + p1), .int (gm_137 12), .int (gm_137 13), .int (gm_137 14), .int (gm_137 15), .int (gm_137 16), .int (gm_137 17), .int (gm_137 18), .int (gm_137 19), .int (gm_137 20), .ref (am 4), .int (gm_137 22), .int (gm_137 23), .ref (am 5), .ref (am 6), .int (gm_137 26)])), ((am 1), .inl (eC E 0, 32, .inl ks_138)), ((am 2), .inl (eC E 0, 32, .inl os_139)), ((am 3), .inl (eC E 0, 32, .inl ts_140)), ((am 4), .inl (eC E 0, 3, .inl iq_141)), ((am 5), .inl (eC E 0, 320, .inl mk_142)), ((am 6), .inl (eC E 0, 320, .inl me_143))] H := hP
          have hD : va_D A [((am 0), .inr (4, [.int (gm_137 0), .int (gm_137 1), .int (gm_137 2), .int (gm_137 3), .int (gm_137 4), .ref (am 1), .ref (am 2), .ref (am 3), .int (gm_137 8), .int (gm_137 9), .int (gm_137 10), .int ((gm_137 11) + p1), .int (gm_137 12), .int (gm_137 13), .int (gm_137 14), .int (gm_137 15), .int (gm_137 16), .int (gm_137 17), .int (gm_137 18), .int (gm_137 19), .int (gm_137 20), .ref (am 4), .int (gm_137 22), .int (gm_137 23), .ref (am 5), .ref (am 6), .int (gm_137 26)])), ((am 1), .inl (eC E 0, 32, .inl ks_138)), ((am 2), .inl (eC E 0, 32, .inl os_139)), ((am 3), .inl (eC E 0, 32, .inl ts_140)), ((am 4), .inl (eC E 0, 3, .inl iq_141)), ((am 5), .inl (eC E 0, 320, .inl mk_142)), ((am 6), .inl (eC E 0, 320, .inl me_143))] := hD
          refine lv_aload_n hx hb dX3_queues_146 rfl (lv_at hl 2 rfl) ?_
          refine lv_dup hx hb dX3_queues_147 rfl ?_
          refine va_get (D := eD E) (ci := 4) (v := .int (gm_137 12)) (C := RX3) (T := TX3) (N := 27) hx hb hta lay_X3 hown hKE.1 hP 0 rfl rfl 12 (by decide) (hta _ tw_566) (fun _ h9 => h9) rfl dX3_queues_148 ?_
          refine lv_iload hx hb dX3_queues_151 (lv_at hl 1 rfl) ?_
          refine lv_if_eq (tgt := 160) hx hb dX3_queues_153 (by decide) (fun _ => ?_) (fun c9 => absurd (by decide) c9)
          refine lv_iload_n hx hb dX3_queues_160 rfl (lv_at hl 5 rfl) ?_
          refine lv_iadd hx hb dX3_queues_161 ?_
          refine va_put (D := eD E) (ci := 4) (v := .int ((gm_137 12) + p2)) (ty := .int) (C := RX3) (T := TX3) (N := 27) hx hb hta lay_X3 tyX3 tyX3_ok nmX3 hown hKE.1 hP hD hS 0 rfl rfl 12 (by decide) (hta _ tw_566) (fun _ h9 => h9) rfl (by decide +kernel) rfl rfl (Nat.le_of_ble_eq_true rfl) dX3_queues_162 (fun H locs hP hD hS => ?_)
          have hP : va_P (eD E) vwCl [((am 0), .inr (4, [.int (gm_137 0), .int (gm_137 1), .int (gm_137 2), .int (gm_137 3), .int (gm_137 4), .ref (am 1), .ref (am 2), .ref (am 3), .int (gm_137 8), .int (gm_137 9), .int (gm_137 10), .int ((gm_137 11) + p1), .int ((gm_137 12) + p2), .int (gm_137 13), .int (gm_137 14), .int (gm_137 15), .int (gm_137 16), .int (gm_137 17), .int (gm_137 18), .int (gm_137 19), .int (gm_137 20), .ref (am 4), .int (gm_137 22), .int (gm_137 23), .ref (am 5), .ref (am 6), .int (gm_137 26)])), ((am 1), .inl (eC E 0, 32, .inl ks_138)), ((am 2), .inl (eC E 0, 32, .inl os_139)), ((am 3), .inl (eC E 0, 32, .inl ts_140)), ((am 4), .inl (eC E 0, 3, .inl iq_141)), ((am 5), .inl (eC E 0, 320, .inl mk_142)), ((am 6), .inl (eC E 0, 320, .inl me_143))] H := hP
          have hD : va_D A [((am 0), .inr (4, [.int (gm_137 0), .int (gm_137 1), .int (gm_137 2), .int (gm_137 3), .int (gm_137 4), .ref (am 1), .ref (am 2), .ref (am 3), .int (gm_137 8), .int (gm_137 9), .int (gm_137 10), .int ((gm_137 11) + p1), .int ((gm_137 12) + p2), .int (gm_137 13), .int (gm_137 14), .int (gm_137 15), .int (gm_137 16), .int (gm_137 17), .int (gm_137 18), .int (gm_137 19), .int (gm_137 20), .ref (am 4), .int (gm_137 22), .int (gm_137 23), .ref (am 5), .ref (am 6), .int (gm_137 26)])), ((am 1), .inl (eC E 0, 32, .inl ks_138)), ((am 2), .inl (eC E 0, 32, .inl os_139)), ((am 3), .inl (eC E 0, 32, .inl ts_140)), ((am 4), .inl (eC E 0, 3, .inl iq_141)), ((am 5), .inl (eC E 0, 320, .inl mk_142)), ((am 6), .inl (eC E 0, 320, .inl me_143))] := hD
          refine lv_iconst (v := 1) hx hb dX3_queues_165 (by decide) ?_
          have hP9 : va_P (eD E) vwCl (wM E am (upd (upd gm_137 11 ((gm_137 11) + p1)) 12 ((gm_137 12) + p2)) ks_138 os_139 ts_140 iq_141 mk_142 me_143) H := hP
          have hD9 : va_D A (wM E am (upd (upd gm_137 11 ((gm_137 11) + p1)) 12 ((gm_137 12) + p2)) ks_138 os_139 ts_140 iq_141 mk_142 me_143) := hD
          exact W.zret (v := 1) hx hb hr rfl (fun t ht hW => ⟨⟨1, ((upd (upd gm_137 11 ((gm_137 11) + p1)) 12 ((gm_137 12) + p2)), ks_138, os_139, ts_140, iq_141, mk_142, me_143), rfl, hw, ⟨by rw [ht]; exact hP9, hD9⟩⟩, hS.F ht⟩) hS.2.2 dX3_queues_166
    · have hw := hw.1 c_131
      refine lv_iload_n hx hb dX3_queues_30 rfl (lv_at hl 4 rfl) ?_
      refine lv_if_eq (tgt := 56) hx hb dX3_queues_31 (by decide) (fun c_144 => ?_) (fun c_144 => ?_)
      · have hw := hw.1 c_144
        refine lv_iconst (v := 0) hx hb dX3_queues_56 (by decide) ?_
        refine lv_istore (lv' := [(5, .int 0), (4, .int 0), (0, .ref (am 0)), (1, .int p0), (2, .int p1), (3, .int p2)]) hx hb dX3_queues_57 hl (by decide) rfl (fun ls hl => ?_)
        refine lv_iload hx hb dX3_queues_59 (lv_at hl 0 rfl) ?_
        refine lv_if_ne (tgt := 76) hx hb dX3_queues_61 (by decide) (fun c9 => absurd (by decide) c9) (fun _ => ?_)
        refine lv_aload_n hx hb dX3_queues_64 rfl (lv_at hl 2 rfl) ?_
        refine lv_dup hx hb dX3_queues_65 rfl ?_
        refine va_get (D := eD E) (ci := 4) (v := .int (gm 3)) (C := RX3) (T := TX3) (N := 27) hx hb hta lay_X3 hown hKE.1 hP 0 rfl rfl 3 (by decide) (hta _ tw_557) (fun _ h9 => h9) rfl dX3_queues_66 ?_
        refine lv_iconst (v := 1) hx hb dX3_queues_69 (by decide) ?_
        refine lv_iadd hx hb dX3_queues_70 ?_
        refine va_put (D := eD E) (ci := 4) (v := .int ((gm 3) + 1)) (ty := .int) (C := RX3) (T := TX3) (N := 27) hx hb hta lay_X3 tyX3 tyX3_ok nmX3 hown hKE.1 hP hD hS 0 rfl rfl 3 (by decide) (hta _ tw_557) (fun _ h9 => h9) rfl (by decide +kernel) rfl rfl (Nat.le_of_ble_eq_true rfl) dX3_queues_71 (fun H locs hP hD hS => ?_)
        have hP : va_P (eD E) vwCl [((am 0), .inr (4, [.int (gm 0), .int (gm 1), .int (gm 2), .int ((gm 3) + 1), .int (gm 4), .ref (am 1), .ref (am 2), .ref (am 3), .int (gm 8), .int (gm 9), .int (gm 10), .int (gm 11), .int (gm 12), .int (gm 13), .int (gm 14), .int (gm 15), .int (gm 16), .int (gm 17), .int (gm 18), .int (gm 19), .int (gm 20), .ref (am 4), .int (gm 22), .int (gm 23), .ref (am 5), .ref (am 6), .int (gm 26)])), ((am 1), .inl (eC E 0, 32, .inl ks)), ((am 2), .inl (eC E 0, 32, .inl os)), ((am 3), .inl (eC E 0, 32, .inl ts)), ((am 4), .inl (eC E 0, 3, .inl iq)), ((am 5), .inl (eC E 0, 320, .inl mk)), ((am 6), .inl (eC E 0, 320, .inl me))] H := hP
        have hD : va_D A [((am 0), .inr (4, [.int (gm 0), .int (gm 1), .int (gm 2), .int ((gm 3) + 1), .int (gm 4), .ref (am 1), .ref (am 2), .ref (am 3), .int (gm 8), .int (gm 9), .int (gm 10), .int (gm 11), .int (gm 12), .int (gm 13), .int (gm 14), .int (gm 15), .int (gm 16), .int (gm 17), .int (gm 18), .int (gm 19), .int (gm 20), .ref (am 4), .int (gm 22), .int (gm 23), .ref (am 5), .ref (am 6), .int (gm 26)])), ((am 1), .inl (eC E 0, 32, .inl ks)), ((am 2), .inl (eC E 0, 32, .inl os)), ((am 3), .inl (eC E 0, 32, .inl ts)), ((am 4), .inl (eC E 0, 3, .inl iq)), ((am 5), .inl (eC E 0, 320, .inl mk)), ((am 6), .inl (eC E 0, 320, .inl me))] := hD
        refine lv_iconst (v := 0) hx hb dX3_queues_74 (by decide) ?_
        have hP9 : va_P (eD E) vwCl (wM E am (upd gm 3 ((gm 3) + 1)) ks os ts iq mk me) H := hP
        have hD9 : va_D A (wM E am (upd gm 3 ((gm 3) + 1)) ks os ts iq mk me) := hD
        exact W.zret (v := 0) hx hb hr rfl (fun t ht hW => ⟨⟨0, ((upd gm 3 ((gm 3) + 1)), ks, os, ts, iq, mk, me), rfl, hw, ⟨by rw [ht]; exact hP9, hD9⟩⟩, hS.F ht⟩) hS.2.2 dX3_queues_75
      · have hw := hw.2 c_144
        refine lv_aload_n hx hb dX3_queues_34 rfl (lv_at hl 1 rfl) ?_
        refine va_get (D := eD E) (ci := 4) (v := .int (gm 11)) (C := RX3) (T := TX3) (N := 27) hx hb hta lay_X3 hown hKE.1 hP 0 rfl rfl 11 (by decide) (hta _ tw_565) (fun _ h9 => h9) rfl dX3_queues_35 ?_
        refine lv_iload_n hx hb dX3_queues_38 rfl (lv_at hl 3 rfl) ?_
        refine lv_iadd hx hb dX3_queues_39 ?_
        refine lv_aload_n hx hb dX3_queues_40 rfl (lv_at hl 1 rfl) ?_
        refine va_get (D := eD E) (ci := 4) (v := .int (gm 12)) (C := RX3) (T := TX3) (N := 27) hx hb hta lay_X3 hown hKE.1 hP 0 rfl rfl 12 (by decide) (hta _ tw_566) (fun _ h9 => h9) rfl dX3_queues_41 ?_
        refine lv_iload_n hx hb dX3_queues_44 rfl (lv_at hl 4 rfl) ?_
        refine lv_iadd hx hb dX3_queues_45 ?_
        have hPc : va_P (eD E) vwCl [] s.heap := va_P_nil
        refine vp_callSi (va_Run.run (va_runS (As := [.int ((gm 11) + p1), .int ((gm 12) + p2)]) (rest := []) ⟨hx, hb, hml, hown, hta⟩ (c_X3_isCell E l ((gm 11) + p1) ((gm 12) + p2) _ hw) (pcS (n := 2) hta tw_665 tw_663 tw_6 tw_664 rfl rfl hd_X3_isCell ⟨Nat.le_of_ble_eq_true rfl, Nat.le_of_ble_eq_true rfl⟩) ⟨fbR, fun U hU hW => ⟨rfl, preR.mk hPc hKE hU hW⟩⟩ rfl rfl hl.1 rfl (lv_room (Nat.le_of_ble_eq_true rfl)) dX3_queues_46 ⟨Nat.le_of_ble_eq_true rfl, Nat.le_of_ble_eq_true rfl⟩)) (fun r_145 hw => ?_)
        refine lv_if_eq (tgt := 56) hx hb dX3_queues_49 (by decide) (fun c_146 => ?_) (fun c_146 => ?_)
        · have hw := hw.1 c_146
          refine lv_iconst (v := 0) hx hb dX3_queues_56 (by decide) ?_
          refine lv_istore (lv' := [(5, .int 0), (4, .int 0), (0, .ref (am 0)), (1, .int p0), (2, .int p1), (3, .int p2)]) hx hb dX3_queues_57 hl (by decide) rfl (fun ls hl => ?_)
          refine lv_iload hx hb dX3_queues_59 (lv_at hl 0 rfl) ?_
          refine lv_if_ne (tgt := 76) hx hb dX3_queues_61 (by decide) (fun c9 => absurd (by decide) c9) (fun _ => ?_)
          refine lv_aload_n hx hb dX3_queues_64 rfl (lv_at hl 2 rfl) ?_
          refine lv_dup hx hb dX3_queues_65 rfl ?_
          refine va_get (D := eD E) (ci := 4) (v := .int (gm 3)) (C := RX3) (T := TX3) (N := 27) hx hb hta lay_X3 hown hKE.1 hP 0 rfl rfl 3 (by decide) (hta _ tw_557) (fun _ h9 => h9) rfl dX3_queues_66 ?_
          refine lv_iconst (v := 1) hx hb dX3_queues_69 (by decide) ?_
          refine lv_iadd hx hb dX3_queues_70 ?_
          refine va_put (D := eD E) (ci := 4) (v := .int ((gm 3) + 1)) (ty := .int) (C := RX3) (T := TX3) (N := 27) hx hb hta lay_X3 tyX3 tyX3_ok nmX3 hown hKE.1 hP hD hS 0 rfl rfl 3 (by decide) (hta _ tw_557) (fun _ h9 => h9) rfl (by decide +kernel) rfl rfl (Nat.le_of_ble_eq_true rfl) dX3_queues_71 (fun H locs hP hD hS => ?_)
          have hP : va_P (eD E) vwCl [((am 0), .inr (4, [.int (gm 0), .int (gm 1), .int (gm 2), .int ((gm 3) + 1), .int (gm 4), .ref (am 1), .ref (am 2), .ref (am 3), .int (gm 8), .int (gm 9), .int (gm 10), .int (gm 11), .int (gm 12), .int (gm 13), .int (gm 14), .int (gm 15), .int (gm 16), .int (gm 17), .int (gm 18), .int (gm 19), .int (gm 20), .ref (am 4), .int (gm 22), .int (gm 23), .ref (am 5), .ref (am 6), .int (gm 26)])), ((am 1), .inl (eC E 0, 32, .inl ks)), ((am 2), .inl (eC E 0, 32, .inl os)), ((am 3), .inl (eC E 0, 32, .inl ts)), ((am 4), .inl (eC E 0, 3, .inl iq)), ((am 5), .inl (eC E 0, 320, .inl mk)), ((am 6), .inl (eC E 0, 320, .inl me))] H := hP
          have hD : va_D A [((am 0), .inr (4, [.int (gm 0), .int (gm 1), .int (gm 2), .int ((gm 3) + 1), .int (gm 4), .ref (am 1), .ref (am 2), .ref (am 3), .int (gm 8), .int (gm 9), .int (gm 10), .int (gm 11), .int (gm 12), .int (gm 13), .int (gm 14), .int (gm 15), .int (gm 16), .int (gm 17), .int (gm 18), .int (gm 19), .int (gm 20), .ref (am 4), .int (gm 22), .int (gm 23), .ref (am 5), .ref (am 6), .int (gm 26)])), ((am 1), .inl (eC E 0, 32, .inl ks)), ((am 2), .inl (eC E 0, 32, .inl os)), ((am 3), .inl (eC E 0, 32, .inl ts)), ((am 4), .inl (eC E 0, 3, .inl iq)), ((am 5), .inl (eC E 0, 320, .inl mk)), ((am 6), .inl (eC E 0, 320, .inl me))] := hD
          refine lv_iconst (v := 0) hx hb dX3_queues_74 (by decide) ?_
          have hP9 : va_P (eD E) vwCl (wM E am (upd gm 3 ((gm 3) + 1)) ks os ts iq mk me) H := hP
          have hD9 : va_D A (wM E am (upd gm 3 ((gm 3) + 1)) ks os ts iq mk me) := hD
          exact W.zret (v := 0) hx hb hr rfl (fun t ht hW => ⟨⟨0, ((upd gm 3 ((gm 3) + 1)), ks, os, ts, iq, mk, me), rfl, hw, ⟨by rw [ht]; exact hP9, hD9⟩⟩, hS.F ht⟩) hS.2.2 dX3_queues_75
        · have hw := hw.2 c_146
          refine lv_iconst (v := 1) hx hb dX3_queues_52 (by decide) ?_
          refine lv_goto (tgt := 57) hx hb dX3_queues_53 (by decide) ?_
          refine lv_istore (lv' := [(5, .int 1), (4, .int 0), (0, .ref (am 0)), (1, .int p0), (2, .int p1), (3, .int p2)]) hx hb dX3_queues_57 hl (by decide) rfl (fun ls hl => ?_)
          refine lv_iload hx hb dX3_queues_59 (lv_at hl 0 rfl) ?_
          refine lv_if_ne (tgt := 76) hx hb dX3_queues_61 (by decide) (fun _ => ?_) (fun c9 => absurd c9 (by decide))
          refine lv_aload_n hx hb dX3_queues_76 rfl (lv_at hl 2 rfl) ?_
          refine va_get (D := eD E) (ci := 4) (v := .ref (am 1)) (C := RX3) (T := TX3) (N := 27) hx hb hta lay_X3 hown hKE.1 hP 0 rfl rfl 5 (by decide) (hta _ tw_559) (fun _ h9 => h9) rfl dX3_queues_77 ?_
          refine lv_aload_n hx hb dX3_queues_80 rfl (lv_at hl 2 rfl) ?_
          refine va_get (D := eD E) (ci := 4) (v := .int (gm 4)) (C := RX3) (T := TX3) (N := 27) hx hb hta lay_X3 hown hKE.1 hP 0 rfl rfl 4 (by decide) (hta _ tw_558) (fun _ h9 => h9) rfl dX3_queues_81 ?_
          refine lv_iload_n hx hb dX3_queues_84 rfl (lv_at hl 3 rfl) ?_
          obtain ⟨hi_147, hw⟩ := hw
          refine va_iast hx hb hKE.1 hP hD hS 1 0 rfl rfl hi_147 dX3_queues_85 (fun H locs hP hD hS => ?_)
          have hP : va_P (eD E) vwCl [((am 0), .inr (4, [.int (gm 0), .int (gm 1), .int (gm 2), .int (gm 3), .int (gm 4), .ref (am 1), .ref (am 2), .ref (am 3), .int (gm 8), .int (gm 9), .int (gm 10), .int (gm 11), .int (gm 12), .int (gm 13), .int (gm 14), .int (gm 15), .int (gm 16), .int (gm 17), .int (gm 18), .int (gm 19), .int (gm 20), .ref (am 4), .int (gm 22), .int (gm 23), .ref (am 5), .ref (am 6), .int (gm 26)])), ((am 1), .inl (eC E 0, 32, .inl (upd ks (gm 4).toNatClampNeg p0))), ((am 2), .inl (eC E 0, 32, .inl os)), ((am 3), .inl (eC E 0, 32, .inl ts)), ((am 4), .inl (eC E 0, 3, .inl iq)), ((am 5), .inl (eC E 0, 320, .inl mk)), ((am 6), .inl (eC E 0, 320, .inl me))] H := hP
          have hD : va_D A [((am 0), .inr (4, [.int (gm 0), .int (gm 1), .int (gm 2), .int (gm 3), .int (gm 4), .ref (am 1), .ref (am 2), .ref (am 3), .int (gm 8), .int (gm 9), .int (gm 10), .int (gm 11), .int (gm 12), .int (gm 13), .int (gm 14), .int (gm 15), .int (gm 16), .int (gm 17), .int (gm 18), .int (gm 19), .int (gm 20), .ref (am 4), .int (gm 22), .int (gm 23), .ref (am 5), .ref (am 6), .int (gm 26)])), ((am 1), .inl (eC E 0, 32, .inl (upd ks (gm 4).toNatClampNeg p0))), ((am 2), .inl (eC E 0, 32, .inl os)), ((am 3), .inl (eC E 0, 32, .inl ts)), ((am 4), .inl (eC E 0, 3, .inl iq)), ((am 5), .inl (eC E 0, 320, .inl mk)), ((am 6), .inl (eC E 0, 320, .inl me))] := hD
          refine lv_aload_n hx hb dX3_queues_86 rfl (lv_at hl 2 rfl) ?_
          refine va_get (D := eD E) (ci := 4) (v := .ref (am 2)) (C := RX3) (T := TX3) (N := 27) hx hb hta lay_X3 hown hKE.1 hP 0 rfl rfl 6 (by decide) (hta _ tw_560) (fun _ h9 => h9) rfl dX3_queues_87 ?_
          refine lv_aload_n hx hb dX3_queues_90 rfl (lv_at hl 2 rfl) ?_
          refine va_get (D := eD E) (ci := 4) (v := .int (gm 4)) (C := RX3) (T := TX3) (N := 27) hx hb hta lay_X3 hown hKE.1 hP 0 rfl rfl 4 (by decide) (hta _ tw_558) (fun _ h9 => h9) rfl dX3_queues_91 ?_
          refine lv_iload_n hx hb dX3_queues_94 rfl (lv_at hl 4 rfl) ?_
          refine va_iast hx hb hKE.1 hP hD hS 2 0 rfl rfl hi_147 dX3_queues_95 (fun H locs hP hD hS => ?_)
          have hP : va_P (eD E) vwCl [((am 0), .inr (4, [.int (gm 0), .int (gm 1), .int (gm 2), .int (gm 3), .int (gm 4), .ref (am 1), .ref (am 2), .ref (am 3), .int (gm 8), .int (gm 9), .int (gm 10), .int (gm 11), .int (gm 12), .int (gm 13), .int (gm 14), .int (gm 15), .int (gm 16), .int (gm 17), .int (gm 18), .int (gm 19), .int (gm 20), .ref (am 4), .int (gm 22), .int (gm 23), .ref (am 5), .ref (am 6), .int (gm 26)])), ((am 1), .inl (eC E 0, 32, .inl (upd ks (gm 4).toNatClampNeg p0))), ((am 2), .inl (eC E 0, 32, .inl (upd os (gm 4).toNatClampNeg p1))), ((am 3), .inl (eC E 0, 32, .inl ts)), ((am 4), .inl (eC E 0, 3, .inl iq)), ((am 5), .inl (eC E 0, 320, .inl mk)), ((am 6), .inl (eC E 0, 320, .inl me))] H := hP
          have hD : va_D A [((am 0), .inr (4, [.int (gm 0), .int (gm 1), .int (gm 2), .int (gm 3), .int (gm 4), .ref (am 1), .ref (am 2), .ref (am 3), .int (gm 8), .int (gm 9), .int (gm 10), .int (gm 11), .int (gm 12), .int (gm 13), .int (gm 14), .int (gm 15), .int (gm 16), .int (gm 17), .int (gm 18), .int (gm 19), .int (gm 20), .ref (am 4), .int (gm 22), .int (gm 23), .ref (am 5), .ref (am 6), .int (gm 26)])), ((am 1), .inl (eC E 0, 32, .inl (upd ks (gm 4).toNatClampNeg p0))), ((am 2), .inl (eC E 0, 32, .inl (upd os (gm 4).toNatClampNeg p1))), ((am 3), .inl (eC E 0, 32, .inl ts)), ((am 4), .inl (eC E 0, 3, .inl iq)), ((am 5), .inl (eC E 0, 320, .inl mk)), ((am 6), .inl (eC E 0, 320, .inl me))] := hD
          refine lv_aload_n hx hb dX3_queues_96 rfl (lv_at hl 2 rfl) ?_
          refine va_get (D := eD E) (ci := 4) (v := .ref (am 3)) (C := RX3) (T := TX3) (N := 27) hx hb hta lay_X3 hown hKE.1 hP 0 rfl rfl 7 (by decide) (hta _ tw_561) (fun _ h9 => h9) rfl dX3_queues_97 ?_
          refine lv_aload_n hx hb dX3_queues_100 rfl (lv_at hl 2 rfl) ?_
          refine va_get (D := eD E) (ci := 4) (v := .int (gm 4)) (C := RX3) (T := TX3) (N := 27) hx hb hta lay_X3 hown hKE.1 hP 0 rfl rfl 4 (by decide) (hta _ tw_558) (fun _ h9 => h9) rfl dX3_queues_101 ?_
          refine lv_iload_n hx hb dX3_queues_104 rfl (lv_at hl 5 rfl) ?_
          refine va_iast hx hb hKE.1 hP hD hS 3 0 rfl rfl hi_147 dX3_queues_105 (fun H locs hP hD hS => ?_)
          have hP : va_P (eD E) vwCl [((am 0), .inr (4, [.int (gm 0), .int (gm 1), .int (gm 2), .int (gm 3), .int (gm 4), .ref (am 1), .ref (am 2), .ref (am 3), .int (gm 8), .int (gm 9), .int (gm 10), .int (gm 11), .int (gm 12), .int (gm 13), .int (gm 14), .int (gm 15), .int (gm 16), .int (gm 17), .int (gm 18), .int (gm 19), .int (gm 20), .ref (am 4), .int (gm 22), .int (gm 23), .ref (am 5), .ref (am 6), .int (gm 26)])), ((am 1), .inl (eC E 0, 32, .inl (upd ks (gm 4).toNatClampNeg p0))), ((am 2), .inl (eC E 0, 32, .inl (upd os (gm 4).toNatClampNeg p1))), ((am 3), .inl (eC E 0, 32, .inl (upd ts (gm 4).toNatClampNeg p2))), ((am 4), .inl (eC E 0, 3, .inl iq)), ((am 5), .inl (eC E 0, 320, .inl mk)), ((am 6), .inl (eC E 0, 320, .inl me))] H := hP
          have hD : va_D A [((am 0), .inr (4, [.int (gm 0), .int (gm 1), .int (gm 2), .int (gm 3), .int (gm 4), .ref (am 1), .ref (am 2), .ref (am 3), .int (gm 8), .int (gm 9), .int (gm 10), .int (gm 11), .int (gm 12), .int (gm 13), .int (gm 14), .int (gm 15), .int (gm 16), .int (gm 17), .int (gm 18), .int (gm 19), .int (gm 20), .ref (am 4), .int (gm 22), .int (gm 23), .ref (am 5), .ref (am 6), .int (gm 26)])), ((am 1), .inl (eC E 0, 32, .inl (upd ks (gm 4).toNatClampNeg p0))), ((am 2), .inl (eC E 0, 32, .inl (upd os (gm 4).toNatClampNeg p1))), ((am 3), .inl (eC E 0, 32, .inl (upd ts (gm 4).toNatClampNeg p2))), ((am 4), .inl (eC E 0, 3, .inl iq)), ((am 5), .inl (eC E 0, 320, .inl mk)), ((am 6), .inl (eC E 0, 320, .inl me))] := hD
          refine lv_aload_n hx hb dX3_queues_106 rfl (lv_at hl 2 rfl) ?_
          refine lv_dup hx hb dX3_queues_107 rfl ?_
          refine va_get (D := eD E) (ci := 4) (v := .int (gm 4)) (C := RX3) (T := TX3) (N := 27) hx hb hta lay_X3 hown hKE.1 hP 0 rfl rfl 4 (by decide) (hta _ tw_558) (fun _ h9 => h9) rfl dX3_queues_108 ?_
          refine lv_iconst (v := 1) hx hb dX3_queues_111 (by decide) ?_
          refine lv_iadd hx hb dX3_queues_112 ?_
          refine va_put (D := eD E) (ci := 4) (v := .int ((gm 4) + 1)) (ty := .int) (C := RX3) (T := TX3) (N := 27) hx hb hta lay_X3 tyX3 tyX3_ok nmX3 hown hKE.1 hP hD hS 0 rfl rfl 4 (by decide) (hta _ tw_558) (fun _ h9 => h9) rfl (by decide +kernel) rfl rfl (Nat.le_of_ble_eq_true rfl) dX3_queues_113 (fun H locs hP hD hS => ?_)
          have hP : va_P (eD E) vwCl [((am 0), .inr (4, [.int (gm 0), .int (gm 1), .int (gm 2), .int (gm 3), .int ((gm 4) + 1), .ref (am 1), .ref (am 2), .ref (am 3), .int (gm 8), .int (gm 9), .int (gm 10), .int (gm 11), .int (gm 12), .int (gm 13), .int (gm 14), .int (gm 15), .int (gm 16), .int (gm 17), .int (gm 18), .int (gm 19), .int (gm 20), .ref (am 4), .int (gm 22), .int (gm 23), .ref (am 5), .ref (am 6), .int (gm 26)])), ((am 1), .inl (eC E 0, 32, .inl (upd ks (gm 4).toNatClampNeg p0))), ((am 2), .inl (eC E 0, 32, .inl (upd os (gm 4).toNatClampNeg p1))), ((am 3), .inl (eC E 0, 32, .inl (upd ts (gm 4).toNatClampNeg p2))), ((am 4), .inl (eC E 0, 3, .inl iq)), ((am 5), .inl (eC E 0, 320, .inl mk)), ((am 6), .inl (eC E 0, 320, .inl me))] H := hP
          have hD : va_D A [((am 0), .inr (4, [.int (gm 0), .int (gm 1), .int (gm 2), .int (gm 3), .int ((gm 4) + 1), .ref (am 1), .ref (am 2), .ref (am 3), .int (gm 8), .int (gm 9), .int (gm 10), .int (gm 11), .int (gm 12), .int (gm 13), .int (gm 14), .int (gm 15), .int (gm 16), .int (gm 17), .int (gm 18), .int (gm 19), .int (gm 20), .ref (am 4), .int (gm 22), .int (gm 23), .ref (am 5), .ref (am 6), .int (gm 26)])), ((am 1), .inl (eC E 0, 32, .inl (upd ks (gm 4).toNatClampNeg p0))), ((am 2), .inl (eC E 0, 32, .inl (upd os (gm 4).toNatClampNeg p1))), ((am 3), .inl (eC E 0, 32, .inl (upd ts (gm 4).toNatClampNeg p2))), ((am 4), .inl (eC E 0, 3, .inl iq)), ((am 5), .inl (eC E 0, 320, .inl mk)), ((am 6), .inl (eC E 0, 320, .inl me))] := hD
          refine lv_iload_n hx hb dX3_queues_116 rfl (lv_at hl 3 rfl) ?_
          refine lv_iconst (v := 2) hx hb dX3_queues_117 (by decide) ?_
          refine lv_icmp_ne (tgt := 127) hx hb dX3_queues_118 (by decide) (fun c_148 => ?_) (fun c_148 => ?_)
          · have hw := hw.2 c_148
            refine lv_aload_n hx hb dX3_queues_127 rfl (lv_at hl 2 rfl) ?_
            refine lv_dup hx hb dX3_queues_128 rfl ?_
            refine va_get (D := eD E) (ci := 4) (v := .int (gm 11)) (C := RX3) (T := TX3) (N := 27) hx hb hta lay_X3 hown hKE.1 hP 0 rfl rfl 11 (by decide) (hta _ tw_565) (fun _ h9 => h9) rfl dX3_queues_129 ?_
            refine lv_iload hx hb dX3_queues_132 (lv_at hl 1 rfl) ?_
            refine lv_if_eq (tgt := 141) hx hb dX3_queues_134 (by decide) (fun _ => ?_) (fun c9 => absurd (by decide) c9)
            refine lv_iload_n hx hb dX3_queues_141 rfl (lv_at hl 4 rfl) ?_
            refine lv_iadd hx hb dX3_queues_142 ?_
            refine va_put (D := eD E) (ci := 4) (v := .int ((gm 11) + p1)) (ty := .int) (C := RX3) (T := TX3) (N := 27) hx hb hta lay_X3 tyX3 tyX3_ok nmX3 hown hKE.1 hP hD hS 0 rfl rfl 11 (by decide) (hta _ tw_565) (fun _ h9 => h9) rfl (by decide +kernel) rfl rfl (Nat.le_of_ble_eq_true rfl) dX3_queues_143 (fun H locs hP hD hS => ?_)
            have hP : va_P (eD E) vwCl [((am 0), .inr (4, [.int (gm 0), .int (gm 1), .int (gm 2), .int (gm 3), .int ((gm 4) + 1), .ref (am 1), .ref (am 2), .ref (am 3), .int (gm 8), .int (gm 9), .int (gm 10), .int ((gm 11) + p1), .int (gm 12), .int (gm 13), .int (gm 14), .int (gm 15), .int (gm 16), .int (gm 17), .int (gm 18), .int (gm 19), .int (gm 20), .ref (am 4), .int (gm 22), .int (gm 23), .ref (am 5), .ref (am 6), .int (gm 26)])), ((am 1), .inl (eC E 0, 32, .inl (upd ks (gm 4).toNatClampNeg p0))), ((am 2), .inl (eC E 0, 32, .inl (upd os (gm 4).toNatClampNeg p1))), ((am 3), .inl (eC E 0, 32, .inl (upd ts (gm 4).toNatClampNeg p2))), ((am 4), .inl (eC E 0, 3, .inl iq)), ((am 5), .inl (eC E 0, 320, .inl mk)), ((am 6), .inl (eC E 0, 320, .inl me))] H := hP
            have hD : va_D A [((am 0), .inr (4, [.int (gm 0), .int (gm 1), .int (gm 2), .int (gm 3), .int ((gm 4) + 1), .ref (am 1), .ref (am 2), .ref (am 3), .int (gm 8), .int (gm 9), .int (gm 10), .int ((gm 11) + p1), .int (gm 12), .int (gm 13), .int (gm 14), .int (gm 15), .int (gm 16), .int (gm 17), .int (gm 18), .int (gm 19), .int (gm 20), .ref (am 4), .int (gm 22), .int (gm 23), .ref (am 5), .ref (am 6), .int (gm 26)])), ((am 1), .inl (eC E 0, 32, .inl (upd ks (gm 4).toNatClampNeg p0))), ((am 2), .inl (eC E 0, 32, .inl (upd os (gm 4).toNatClampNeg p1))), ((am 3), .inl (eC E 0, 32, .inl (upd ts (gm 4).toNatClampNeg p2))), ((am 4), .inl (eC E 0, 3, .inl iq)), ((am 5), .inl (eC E 0, 320, .inl mk)), ((am 6), .inl (eC E 0, 320, .inl me))] := hD
            refine lv_aload_n hx hb dX3_queues_146 rfl (lv_at hl 2 rfl) ?_
            refine lv_dup hx hb dX3_queues_147 rfl ?_
            refine va_get (D := eD E) (ci := 4) (v := .int (gm 12)) (C := RX3) (T := TX3) (N := 27) hx hb hta lay_X3 hown hKE.1 hP 0 rfl rfl 12 (by decide) (hta _ tw_566) (fun _ h9 => h9) rfl dX3_queues_148 ?_
            refine lv_iload hx hb dX3_queues_151 (lv_at hl 1 rfl) ?_
            refine lv_if_eq (tgt := 160) hx hb dX3_queues_153 (by decide) (fun _ => ?_) (fun c9 => absurd (by decide) c9)
            refine lv_iload_n hx hb dX3_queues_160 rfl (lv_at hl 5 rfl) ?_
            refine lv_iadd hx hb dX3_queues_161 ?_
            refine va_put (D := eD E) (ci := 4) (v := .int ((gm 12) + p2)) (ty := .int) (C := RX3) (T := TX3) (N := 27) hx hb hta lay_X3 tyX3 tyX3_ok nmX3 hown hKE.1 hP hD hS 0 rfl rfl 12 (by decide) (hta _ tw_566) (fun _ h9 => h9) rfl (by decide +kernel) rfl rfl (Nat.le_of_ble_eq_true rfl) dX3_queues_162 (fun H locs hP hD hS => ?_)
            have hP : va_P (eD E) vwCl [((am 0), .inr (4, [.int (gm 0), .int (gm 1), .int (gm 2), .int (gm 3), .int ((gm 4) + 1), .ref (am 1), .ref (am 2), .ref (am 3), .int (gm 8), .int (gm 9), .int (gm 10), .int ((gm 11) + p1), .int ((gm 12) + p2), .int (gm 13), .int (gm 14), .int (gm 15), .int (gm 16), .int (gm 17), .int (gm 18), .int (gm 19), .int (gm 20), .ref (am 4), .int (gm 22), .int (gm 23), .ref (am 5), .ref (am 6), .int (gm 26)])), ((am 1), .inl (eC E 0, 32, .inl (upd ks (gm 4).toNatClampNeg p0))), ((am 2), .inl (eC E 0, 32, .inl (upd os (gm 4).toNatClampNeg p1))), ((am 3), .inl (eC E 0, 32, .inl (upd ts (gm 4).toNatClampNeg p2))), ((am 4), .inl (eC E 0, 3, .inl iq)), ((am 5), .inl (eC E 0, 320, .inl mk)), ((am 6), .inl (eC E 0, 320, .inl me))] H := hP
            have hD : va_D A [((am 0), .inr (4, [.int (gm 0), .int (gm 1), .int (gm 2), .int (gm 3), .int ((gm 4) + 1), .ref (am 1), .ref (am 2), .ref (am 3), .int (gm 8), .int (gm 9), .int (gm 10), .int ((gm 11) + p1), .int ((gm 12) + p2), .int (gm 13), .int (gm 14), .int (gm 15), .int (gm 16), .int (gm 17), .int (gm 18), .int (gm 19), .int (gm 20), .ref (am 4), .int (gm 22), .int (gm 23), .ref (am 5), .ref (am 6), .int (gm 26)])), ((am 1), .inl (eC E 0, 32, .inl (upd ks (gm 4).toNatClampNeg p0))), ((am 2), .inl (eC E 0, 32, .inl (upd os (gm 4).toNatClampNeg p1))), ((am 3), .inl (eC E 0, 32, .inl (upd ts (gm 4).toNatClampNeg p2))), ((am 4), .inl (eC E 0, 3, .inl iq)), ((am 5), .inl (eC E 0, 320, .inl mk)), ((am 6), .inl (eC E 0, 320, .inl me))] := hD
            refine lv_iconst (v := 1) hx hb dX3_queues_165 (by decide) ?_
            have hP9 : va_P (eD E) vwCl (wM E am (upd (upd (upd gm 4 ((gm 4) + 1)) 11 ((gm 11) + p1)) 12 ((gm 12) + p2)) (upd ks (gm 4).toNatClampNeg p0) (upd os (gm 4).toNatClampNeg p1) (upd ts (gm 4).toNatClampNeg p2) iq mk me) H := hP
            have hD9 : va_D A (wM E am (upd (upd (upd gm 4 ((gm 4) + 1)) 11 ((gm 11) + p1)) 12 ((gm 12) + p2)) (upd ks (gm 4).toNatClampNeg p0) (upd os (gm 4).toNatClampNeg p1) (upd ts (gm 4).toNatClampNeg p2) iq mk me) := hD
            exact W.zret (v := 1) hx hb hr rfl (fun t ht hW => ⟨⟨1, ((upd (upd (upd gm 4 ((gm 4) + 1)) 11 ((gm 11) + p1)) 12 ((gm 12) + p2)), (upd ks (gm 4).toNatClampNeg p0), (upd os (gm 4).toNatClampNeg p1), (upd ts (gm 4).toNatClampNeg p2), iq, mk, me), rfl, hw, ⟨by rw [ht]; exact hP9, hD9⟩⟩, hS.F ht⟩) hS.2.2 dX3_queues_166
          · have hw := hw.1 c_148
            refine lv_aload_n hx hb dX3_queues_121 rfl (lv_at hl 2 rfl) ?_
            refine lv_iload_n hx hb dX3_queues_122 rfl (lv_at hl 4 rfl) ?_
            refine lv_iload_n hx hb dX3_queues_123 rfl (lv_at hl 5 rfl) ?_
            have hPc : va_P (eD E) vwCl (wM E am (upd gm 4 ((gm 4) + 1)) (upd ks (gm 4).toNatClampNeg p0) (upd os (gm 4).toNatClampNeg p1) (upd ts (gm 4).toNatClampNeg p2) iq mk me) H := hP
            have hDc : va_D A (wM E am (upd gm 4 ((gm 4) + 1)) (upd ks (gm 4).toNatClampNeg p0) (upd os (gm 4).toNatClampNeg p1) (upd ts (gm 4).toNatClampNeg p2) iq mk me) := hD
            have hFc : ∀ q, va_A (wM E am (upd gm 4 ((gm 4) + 1)) (upd ks (gm 4).toNatClampNeg p0) (upd os (gm 4).toNatClampNeg p1) (upd ts (gm 4).toNatClampNeg p2) iq mk me) H.size q → A q := frS hDc hS hA
            refine va_callv (va_runV (As := [.int p1, .int p2]) (rest := []) ⟨hx, hb, hml, hown, hta⟩ (c_X3_draws E l am (upd gm 4 ((gm 4) + 1)) (upd ks (gm 4).toNatClampNeg p0) (upd os (gm 4).toNatClampNeg p1) (upd ts (gm 4).toNatClampNeg p2) iq mk me p1 p2 H.size _ hw) (pcV (n := 2) hta tw_669 tw_666 tw_6 tw_668 tp_36 rfl rfl hd_X3_draws ⟨Nat.le_of_ble_eq_true rfl, Nat.le_of_ble_eq_true rfl⟩) ⟨fbM, va_recv hKE.1 hP (ci := 4) (q0 := 0) rfl rfl, fun U hU hW => ⟨rfl, preM.mk hPc hKE hDc hZ hS hFc hU hW⟩⟩ rfl rfl hl.1 rfl (lv_room (Nat.le_of_ble_eq_true rfl)) dX3_queues_124 ⟨Nat.le_of_ble_eq_true rfl, Nat.le_of_ble_eq_true rfl⟩) hS (fun q _ h => hFc q h) hFc (fun u t H locs ht hvm hw hB hz1 hk1 hS => ?_)
            obtain ⟨gm_150, ks_151, os_152, ts_153, iq_154, mk_155, me_156⟩ := u
            obtain ⟨hP1, hD1⟩ := hB
            rw [ht] at hP1
            try dsimp only at hw hP1 hD1
            have hP : va_P (eD E) vwCl [((am 0), .inr (4, [.int (gm_150 0), .int (gm_150 1), .int (gm_150 2), .int (gm_150 3), .int (gm_150 4), .ref (am 1), .ref (am 2), .ref (am 3), .int (gm_150 8), .int (gm_150 9), .int (gm_150 10), .int (gm_150 11), .int (gm_150 12), .int (gm_150 13), .int (gm_150 14), .int (gm_150 15), .int (gm_150 16), .int (gm_150 17), .int (gm_150 18), .int (gm_150 19), .int (gm_150 20), .ref (am 4), .int (gm_150 22), .int (gm_150 23), .ref (am 5), .ref (am 6), .int (gm_150 26)])), ((am 1), .inl (eC E 0, 32, .inl ks_151)), ((am 2), .inl (eC E 0, 32, .inl os_152)), ((am 3), .inl (eC E 0, 32, .inl ts_153)), ((am 4), .inl (eC E 0, 3, .inl iq_154)), ((am 5), .inl (eC E 0, 320, .inl mk_155)), ((am 6), .inl (eC E 0, 320, .inl me_156))] H := hP1
            have hD : va_D A [((am 0), .inr (4, [.int (gm_150 0), .int (gm_150 1), .int (gm_150 2), .int (gm_150 3), .int (gm_150 4), .ref (am 1), .ref (am 2), .ref (am 3), .int (gm_150 8), .int (gm_150 9), .int (gm_150 10), .int (gm_150 11), .int (gm_150 12), .int (gm_150 13), .int (gm_150 14), .int (gm_150 15), .int (gm_150 16), .int (gm_150 17), .int (gm_150 18), .int (gm_150 19), .int (gm_150 20), .ref (am 4), .int (gm_150 22), .int (gm_150 23), .ref (am 5), .ref (am 6), .int (gm_150 26)])), ((am 1), .inl (eC E 0, 32, .inl ks_151)), ((am 2), .inl (eC E 0, 32, .inl os_152)), ((am 3), .inl (eC E 0, 32, .inl ts_153)), ((am 4), .inl (eC E 0, 3, .inl iq_154)), ((am 5), .inl (eC E 0, 320, .inl mk_155)), ((am 6), .inl (eC E 0, 320, .inl me_156))] := hD1.weaken (fun _ q _ h => hFc q.1 h)
            refine lv_aload_n hx hb dX3_queues_127 rfl (lv_at hl 2 rfl) ?_
            refine lv_dup hx hb dX3_queues_128 rfl ?_
            refine va_get (D := eD E) (ci := 4) (v := .int (gm_150 11)) (C := RX3) (T := TX3) (N := 27) hx hb hta lay_X3 hown hKE.1 hP 0 rfl rfl 11 (by decide) (hta _ tw_565) (fun _ h9 => h9) rfl dX3_queues_129 ?_
            refine lv_iload hx hb dX3_queues_132 (lv_at hl 1 rfl) ?_
            refine lv_if_eq (tgt := 141) hx hb dX3_queues_134 (by decide) (fun _ => ?_) (fun c9 => absurd (by decide) c9)
            refine lv_iload_n hx hb dX3_queues_141 rfl (lv_at hl 4 rfl) ?_
            refine lv_iadd hx hb dX3_queues_142 ?_
            refine va_put (D := eD E) (ci := 4) (v := .int ((gm_150 11) + p1)) (ty := .int) (C := RX3) (T := TX3) (N := 27) hx hb hta lay_X3 tyX3 tyX3_ok nmX3 hown hKE.1 hP hD hS 0 rfl rfl 11 (by decide) (hta _ tw_565) (fun _ h9 => h9) rfl (by decide +kernel) rfl rfl (Nat.le_of_ble_eq_true rfl) dX3_queues_143 (fun H locs hP hD hS => ?_)
            have hP : va_P (eD E) vwCl [((am 0), .inr (4, [.int (gm_150 0), .int (gm_150 1), .int (gm_150 2), .int (gm_150 3), .int (gm_150 4), .ref (am 1), .ref (am 2), .ref (am 3), .int (gm_150 8), .int (gm_150 9), .int (gm_150 10), .int ((gm_150 11) + p1), .int (gm_150 12), .int (gm_150 13), .int (gm_150 14), .int (gm_150 15), .int (gm_150 16), .int (gm_150 17), .int (gm_150 18), .int (gm_150 19), .int (gm_150 20), .ref (am 4), .int (gm_150 22), .int (gm_150 23), .ref (am 5), .ref (am 6), .int (gm_150 26)])), ((am 1), .inl (eC E 0, 32, .inl ks_151)), ((am 2), .inl (eC E 0, 32, .inl os_152)), ((am 3), .inl (eC E 0, 32, .inl ts_153)), ((am 4), .inl (eC E 0, 3, .inl iq_154)), ((am 5), .inl (eC E 0, 320, .inl mk_155)), ((am 6), .inl (eC E 0, 320, .inl me_156))] H := hP
            have hD : va_D A [((am 0), .inr (4, [.int (gm_150 0), .int (gm_150 1), .int (gm_150 2), .int (gm_150 3), .int (gm_150 4), .ref (am 1), .ref (am 2), .ref (am 3), .int (gm_150 8), .int (gm_150 9), .int (gm_150 10), .int ((gm_150 11) + p1), .int (gm_150 12), .int (gm_150 13), .int (gm_150 14), .int (gm_150 15), .int (gm_150 16), .int (gm_150 17), .int (gm_150 18), .int (gm_150 19), .int (gm_150 20), .ref (am 4), .int (gm_150 22), .int (gm_150 23), .ref (am 5), .ref (am 6), .int (gm_150 26)])), ((am 1), .inl (eC E 0, 32, .inl ks_151)), ((am 2), .inl (eC E 0, 32, .inl os_152)), ((am 3), .inl (eC E 0, 32, .inl ts_153)), ((am 4), .inl (eC E 0, 3, .inl iq_154)), ((am 5), .inl (eC E 0, 320, .inl mk_155)), ((am 6), .inl (eC E 0, 320, .inl me_156))] := hD
            refine lv_aload_n hx hb dX3_queues_146 rfl (lv_at hl 2 rfl) ?_
            refine lv_dup hx hb dX3_queues_147 rfl ?_
            refine va_get (D := eD E) (ci := 4) (v := .int (gm_150 12)) (C := RX3) (T := TX3) (N := 27) hx hb hta lay_X3 hown hKE.1 hP 0 rfl rfl 12 (by decide) (hta _ tw_566) (fun _ h9 => h9) rfl dX3_queues_148 ?_
            refine lv_iload hx hb dX3_queues_151 (lv_at hl 1 rfl) ?_
            refine lv_if_eq (tgt := 160) hx hb dX3_queues_153 (by decide) (fun _ => ?_) (fun c9 => absurd (by decide) c9)
            refine lv_iload_n hx hb dX3_queues_160 rfl (lv_at hl 5 rfl) ?_
            refine lv_iadd hx hb dX3_queues_161 ?_
            refine va_put (D := eD E) (ci := 4) (v := .int ((gm_150 12) + p2)) (ty := .int) (C := RX3) (T := TX3) (N := 27) hx hb hta lay_X3 tyX3 tyX3_ok nmX3 hown hKE.1 hP hD hS 0 rfl rfl 12 (by decide) (hta _ tw_566) (fun _ h9 => h9) rfl (by decide +kernel) rfl rfl (Nat.le_of_ble_eq_true rfl) dX3_queues_162 (fun H locs hP hD hS => ?_)
            have hP : va_P (eD E) vwCl [((am 0), .inr (4, [.int (gm_150 0), .int (gm_150 1), .int (gm_150 2), .int (gm_150 3), .int (gm_150 4), .ref (am 1), .ref (am 2), .ref (am 3), .int (gm_150 8), .int (gm_150 9), .int (gm_150 10), .int ((gm_150 11) + p1), .int ((gm_150 12) + p2), .int (gm_150 13), .int (gm_150 14), .int (gm_150 15), .int (gm_150 16), .int (gm_150 17), .int (gm_150 18), .int (gm_150 19), .int (gm_150 20), .ref (am 4), .int (gm_150 22), .int (gm_150 23), .ref (am 5), .ref (am 6), .int (gm_150 26)])), ((am 1), .inl (eC E 0, 32, .inl ks_151)), ((am 2), .inl (eC E 0, 32, .inl os_152)), ((am 3), .inl (eC E 0, 32, .inl ts_153)), ((am 4), .inl (eC E 0, 3, .inl iq_154)), ((am 5), .inl (eC E 0, 320, .inl mk_155)), ((am 6), .inl (eC E 0, 320, .inl me_156))] H := hP
            have hD : va_D A [((am 0), .inr (4, [.int (gm_150 0), .int (gm_150 1), .int (gm_150 2), .int (gm_150 3), .int (gm_150 4), .ref (am 1), .ref (am 2), .ref (am 3), .int (gm_150 8), .int (gm_150 9), .int (gm_150 10), .int ((gm_150 11) + p1), .int ((gm_150 12) + p2), .int (gm_150 13), .int (gm_150 14), .int (gm_150 15), .int (gm_150 16), .int (gm_150 17), .int (gm_150 18), .int (gm_150 19), .int (gm_150 20), .ref (am 4), .int (gm_150 22), .int (gm_150 23), .ref (am 5), .ref (am 6), .int (gm_150 26)])), ((am 1), .inl (eC E 0, 32, .inl ks_151)), ((am 2), .inl (eC E 0, 32, .inl os_152)), ((am 3), .inl (eC E 0, 32, .inl ts_153)), ((am 4), .inl (eC E 0, 3, .inl iq_154)), ((am 5), .inl (eC E 0, 320, .inl mk_155)), ((am 6), .inl (eC E 0, 320, .inl me_156))] := hD
            refine lv_iconst (v := 1) hx hb dX3_queues_165 (by decide) ?_
            have hP9 : va_P (eD E) vwCl (wM E am (upd (upd gm_150 11 ((gm_150 11) + p1)) 12 ((gm_150 12) + p2)) ks_151 os_152 ts_153 iq_154 mk_155 me_156) H := hP
            have hD9 : va_D A (wM E am (upd (upd gm_150 11 ((gm_150 11) + p1)) 12 ((gm_150 12) + p2)) ks_151 os_152 ts_153 iq_154 mk_155 me_156) := hD
            exact W.zret (v := 1) hx hb hr rfl (fun t ht hW => ⟨⟨1, ((upd (upd gm_150 11 ((gm_150 11) + p1)) 12 ((gm_150 12) + p2)), ks_151, os_152, ts_153, iq_154, mk_155, me_156), rfl, hw, ⟨by rw [ht]; exact hP9, hD9⟩⟩, hS.F ht⟩) hS.2.2 dX3_queues_166
  · have hw := hw.1 c_130
    refine lv_iconst (v := 1) hx hb dX3_queues_5 (by decide) ?_
    refine lv_goto (tgt := 10) hx hb dX3_queues_6 (by decide) ?_
    refine lv_istore (lv' := [(4, .int 1), (0, .ref (am 0)), (1, .int p0), (2, .int p1), (3, .int p2)]) hx hb dX3_queues_10 hl (by decide) rfl (fun ls hl => ?_)
    refine lv_iload hx hb dX3_queues_12 (lv_at hl 0 rfl) ?_
    refine lv_if_eq (tgt := 26) hx hb dX3_queues_14 (by decide) (fun c9 => absurd c9 (by decide)) (fun _ => ?_)
    refine lv_iload_n hx hb dX3_queues_17 rfl (lv_at hl 3 rfl) ?_
    refine lv_iconst (v := 0) hx hb dX3_queues_18 (by decide) ?_
    refine lv_iconst (v := 2) hx hb dX3_queues_19 (by decide) ?_
    have hPc : va_P (eD E) vwCl [] s.heap := va_P_nil
    refine vp_callSi (va_Run.run (va_runS (As := [.int p1, .int 0, .int 2]) (rest := []) ⟨hx, hb, hml, hown, hta⟩ (c_X3_isIn E l p1 0 2 _ hw) (pcS (n := 3) hta tw_646 tw_644 tw_6 tw_645 rfl rfl hd_X3_isIn ⟨Nat.le_of_ble_eq_true rfl, Nat.le_of_ble_eq_true rfl⟩) ⟨fbR, fun U hU hW => ⟨rfl, preR.mk hPc hKE hU hW⟩⟩ rfl rfl hl.1 rfl (lv_room (Nat.le_of_ble_eq_true rfl)) dX3_queues_20 ⟨Nat.le_of_ble_eq_true rfl, Nat.le_of_ble_eq_true rfl⟩)) (fun r_157 hw => ?_)
    refine lv_goto (tgt := 57) hx hb dX3_queues_23 (by decide) ?_
    refine lv_istore (lv' := [(5, .int r_157), (4, .int 1), (0, .ref (am 0)), (1, .int p0), (2, .int p1), (3, .int p2)]) hx hb dX3_queues_57 hl (by decide) rfl (fun ls hl => ?_)
    refine lv_iload hx hb dX3_queues_59 (lv_at hl 0 rfl) ?_
    refine lv_if_ne (tgt := 76) hx hb dX3_queues_61 (by decide) (fun c_158 => ?_) (fun c_158 => ?_)
    · have hw := hw.2 c_158
      refine lv_aload_n hx hb dX3_queues_76 rfl (lv_at hl 2 rfl) ?_
      refine va_get (D := eD E) (ci := 4) (v := .ref (am 1)) (C := RX3) (T := TX3) (N := 27) hx hb hta lay_X3 hown hKE.1 hP 0 rfl rfl 5 (by decide) (hta _ tw_559) (fun _ h9 => h9) rfl dX3_queues_77 ?_
      refine lv_aload_n hx hb dX3_queues_80 rfl (lv_at hl 2 rfl) ?_
      refine va_get (D := eD E) (ci := 4) (v := .int (gm 4)) (C := RX3) (T := TX3) (N := 27) hx hb hta lay_X3 hown hKE.1 hP 0 rfl rfl 4 (by decide) (hta _ tw_558) (fun _ h9 => h9) rfl dX3_queues_81 ?_
      refine lv_iload_n hx hb dX3_queues_84 rfl (lv_at hl 3 rfl) ?_
      obtain ⟨hi_159, hw⟩ := hw
      refine va_iast hx hb hKE.1 hP hD hS 1 0 rfl rfl hi_159 dX3_queues_85 (fun H locs hP hD hS => ?_)
      have hP : va_P (eD E) vwCl [((am 0), .inr (4, [.int (gm 0), .int (gm 1), .int (gm 2), .int (gm 3), .int (gm 4), .ref (am 1), .ref (am 2), .ref (am 3), .int (gm 8), .int (gm 9), .int (gm 10), .int (gm 11), .int (gm 12), .int (gm 13), .int (gm 14), .int (gm 15), .int (gm 16), .int (gm 17), .int (gm 18), .int (gm 19), .int (gm 20), .ref (am 4), .int (gm 22), .int (gm 23), .ref (am 5), .ref (am 6), .int (gm 26)])), ((am 1), .inl (eC E 0, 32, .inl (upd ks (gm 4).toNatClampNeg p0))), ((am 2), .inl (eC E 0, 32, .inl os)), ((am 3), .inl (eC E 0, 32, .inl ts)), ((am 4), .inl (eC E 0, 3, .inl iq)), ((am 5), .inl (eC E 0, 320, .inl mk)), ((am 6), .inl (eC E 0, 320, .inl me))] H := hP
      have hD : va_D A [((am 0), .inr (4, [.int (gm 0), .int (gm 1), .int (gm 2), .int (gm 3), .int (gm 4), .ref (am 1), .ref (am 2), .ref (am 3), .int (gm 8), .int (gm 9), .int (gm 10), .int (gm 11), .int (gm 12), .int (gm 13), .int (gm 14), .int (gm 15), .int (gm 16), .int (gm 17), .int (gm 18), .int (gm 19), .int (gm 20), .ref (am 4), .int (gm 22), .int (gm 23), .ref (am 5), .ref (am 6), .int (gm 26)])), ((am 1), .inl (eC E 0, 32, .inl (upd ks (gm 4).toNatClampNeg p0))), ((am 2), .inl (eC E 0, 32, .inl os)), ((am 3), .inl (eC E 0, 32, .inl ts)), ((am 4), .inl (eC E 0, 3, .inl iq)), ((am 5), .inl (eC E 0, 320, .inl mk)), ((am 6), .inl (eC E 0, 320, .inl me))] := hD
      refine lv_aload_n hx hb dX3_queues_86 rfl (lv_at hl 2 rfl) ?_
      refine va_get (D := eD E) (ci := 4) (v := .ref (am 2)) (C := RX3) (T := TX3) (N := 27) hx hb hta lay_X3 hown hKE.1 hP 0 rfl rfl 6 (by decide) (hta _ tw_560) (fun _ h9 => h9) rfl dX3_queues_87 ?_
      refine lv_aload_n hx hb dX3_queues_90 rfl (lv_at hl 2 rfl) ?_
      refine va_get (D := eD E) (ci := 4) (v := .int (gm 4)) (C := RX3) (T := TX3) (N := 27) hx hb hta lay_X3 hown hKE.1 hP 0 rfl rfl 4 (by decide) (hta _ tw_558) (fun _ h9 => h9) rfl dX3_queues_91 ?_
      refine lv_iload_n hx hb dX3_queues_94 rfl (lv_at hl 4 rfl) ?_
      refine va_iast hx hb hKE.1 hP hD hS 2 0 rfl rfl hi_159 dX3_queues_95 (fun H locs hP hD hS => ?_)
      have hP : va_P (eD E) vwCl [((am 0), .inr (4, [.int (gm 0), .int (gm 1), .int (gm 2), .int (gm 3), .int (gm 4), .ref (am 1), .ref (am 2), .ref (am 3), .int (gm 8), .int (gm 9), .int (gm 10), .int (gm 11), .int (gm 12), .int (gm 13), .int (gm 14), .int (gm 15), .int (gm 16), .int (gm 17), .int (gm 18), .int (gm 19), .int (gm 20), .ref (am 4), .int (gm 22), .int (gm 23), .ref (am 5), .ref (am 6), .int (gm 26)])), ((am 1), .inl (eC E 0, 32, .inl (upd ks (gm 4).toNatClampNeg p0))), ((am 2), .inl (eC E 0, 32, .inl (upd os (gm 4).toNatClampNeg p1))), ((am 3), .inl (eC E 0, 32, .inl ts)), ((am 4), .inl (eC E 0, 3, .inl iq)), ((am 5), .inl (eC E 0, 320, .inl mk)), ((am 6), .inl (eC E 0, 320, .inl me))] H := hP
      have hD : va_D A [((am 0), .inr (4, [.int (gm 0), .int (gm 1), .int (gm 2), .int (gm 3), .int (gm 4), .ref (am 1), .ref (am 2), .ref (am 3), .int (gm 8), .int (gm 9), .int (gm 10), .int (gm 11), .int (gm 12), .int (gm 13), .int (gm 14), .int (gm 15), .int (gm 16), .int (gm 17), .int (gm 18), .int (gm 19), .int (gm 20), .ref (am 4), .int (gm 22), .int (gm 23), .ref (am 5), .ref (am 6), .int (gm 26)])), ((am 1), .inl (eC E 0, 32, .inl (upd ks (gm 4).toNatClampNeg p0))), ((am 2), .inl (eC E 0, 32, .inl (upd os (gm 4).toNatClampNeg p1))), ((am 3), .inl (eC E 0, 32, .inl ts)), ((am 4), .inl (eC E 0, 3, .inl iq)), ((am 5), .inl (eC E 0, 320, .inl mk)), ((am 6), .inl (eC E 0, 320, .inl me))] := hD
      refine lv_aload_n hx hb dX3_queues_96 rfl (lv_at hl 2 rfl) ?_
      refine va_get (D := eD E) (ci := 4) (v := .ref (am 3)) (C := RX3) (T := TX3) (N := 27) hx hb hta lay_X3 hown hKE.1 hP 0 rfl rfl 7 (by decide) (hta _ tw_561) (fun _ h9 => h9) rfl dX3_queues_97 ?_
      refine lv_aload_n hx hb dX3_queues_100 rfl (lv_at hl 2 rfl) ?_
      refine va_get (D := eD E) (ci := 4) (v := .int (gm 4)) (C := RX3) (T := TX3) (N := 27) hx hb hta lay_X3 hown hKE.1 hP 0 rfl rfl 4 (by decide) (hta _ tw_558) (fun _ h9 => h9) rfl dX3_queues_101 ?_
      refine lv_iload_n hx hb dX3_queues_104 rfl (lv_at hl 5 rfl) ?_
      refine va_iast hx hb hKE.1 hP hD hS 3 0 rfl rfl hi_159 dX3_queues_105 (fun H locs hP hD hS => ?_)
      have hP : va_P (eD E) vwCl [((am 0), .inr (4, [.int (gm 0), .int (gm 1), .int (gm 2), .int (gm 3), .int (gm 4), .ref (am 1), .ref (am 2), .ref (am 3), .int (gm 8), .int (gm 9), .int (gm 10), .int (gm 11), .int (gm 12), .int (gm 13), .int (gm 14), .int (gm 15), .int (gm 16), .int (gm 17), .int (gm 18), .int (gm 19), .int (gm 20), .ref (am 4), .int (gm 22), .int (gm 23), .ref (am 5), .ref (am 6), .int (gm 26)])), ((am 1), .inl (eC E 0, 32, .inl (upd ks (gm 4).toNatClampNeg p0))), ((am 2), .inl (eC E 0, 32, .inl (upd os (gm 4).toNatClampNeg p1))), ((am 3), .inl (eC E 0, 32, .inl (upd ts (gm 4).toNatClampNeg p2))), ((am 4), .inl (eC E 0, 3, .inl iq)), ((am 5), .inl (eC E 0, 320, .inl mk)), ((am 6), .inl (eC E 0, 320, .inl me))] H := hP
      have hD : va_D A [((am 0), .inr (4, [.int (gm 0), .int (gm 1), .int (gm 2), .int (gm 3), .int (gm 4), .ref (am 1), .ref (am 2), .ref (am 3), .int (gm 8), .int (gm 9), .int (gm 10), .int (gm 11), .int (gm 12), .int (gm 13), .int (gm 14), .int (gm 15), .int (gm 16), .int (gm 17), .int (gm 18), .int (gm 19), .int (gm 20), .ref (am 4), .int (gm 22), .int (gm 23), .ref (am 5), .ref (am 6), .int (gm 26)])), ((am 1), .inl (eC E 0, 32, .inl (upd ks (gm 4).toNatClampNeg p0))), ((am 2), .inl (eC E 0, 32, .inl (upd os (gm 4).toNatClampNeg p1))), ((am 3), .inl (eC E 0, 32, .inl (upd ts (gm 4).toNatClampNeg p2))), ((am 4), .inl (eC E 0, 3, .inl iq)), ((am 5), .inl (eC E 0, 320, .inl mk)), ((am 6), .inl (eC E 0, 320, .inl me))] := hD
      refine lv_aload_n hx hb dX3_queues_106 rfl (lv_at hl 2 rfl) ?_
      refine lv_dup hx hb dX3_queues_107 rfl ?_
      refine va_get (D := eD E) (ci := 4) (v := .int (gm 4)) (C := RX3) (T := TX3) (N := 27) hx hb hta lay_X3 hown hKE.1 hP 0 rfl rfl 4 (by decide) (hta _ tw_558) (fun _ h9 => h9) rfl dX3_queues_108 ?_
      refine lv_iconst (v := 1) hx hb dX3_queues_111 (by decide) ?_
      refine lv_iadd hx hb dX3_queues_112 ?_
      refine va_put (D := eD E) (ci := 4) (v := .int ((gm 4) + 1)) (ty := .int) (C := RX3) (T := TX3) (N := 27) hx hb hta lay_X3 tyX3 tyX3_ok nmX3 hown hKE.1 hP hD hS 0 rfl rfl 4 (by decide) (hta _ tw_558) (fun _ h9 => h9) rfl (by decide +kernel) rfl rfl (Nat.le_of_ble_eq_true rfl) dX3_queues_113 (fun H locs hP hD hS => ?_)
      have hP : va_P (eD E) vwCl [((am 0), .inr (4, [.int (gm 0), .int (gm 1), .int (gm 2), .int (gm 3), .int ((gm 4) + 1), .ref (am 1), .ref (am 2), .ref (am 3), .int (gm 8), .int (gm 9), .int (gm 10), .int (gm 11), .int (gm 12), .int (gm 13), .int (gm 14), .int (gm 15), .int (gm 16), .int (gm 17), .int (gm 18), .int (gm 19), .int (gm 20), .ref (am 4), .int (gm 22), .int (gm 23), .ref (am 5), .ref (am 6), .int (gm 26)])), ((am 1), .inl (eC E 0, 32, .inl (upd ks (gm 4).toNatClampNeg p0))), ((am 2), .inl (eC E 0, 32, .inl (upd os (gm 4).toNatClampNeg p1))), ((am 3), .inl (eC E 0, 32, .inl (upd ts (gm 4).toNatClampNeg p2))), ((am 4), .inl (eC E 0, 3, .inl iq)), ((am 5), .inl (eC E 0, 320, .inl mk)), ((am 6), .inl (eC E 0, 320, .inl me))] H := hP
      have hD : va_D A [((am 0), .inr (4, [.int (gm 0), .int (gm 1), .int (gm 2), .int (gm 3), .int ((gm 4) + 1), .ref (am 1), .ref (am 2), .ref (am 3), .int (gm 8), .int (gm 9), .int (gm 10), .int (gm 11), .int (gm 12), .int (gm 13), .int (gm 14), .int (gm 15), .int (gm 16), .int (gm 17), .int (gm 18), .int (gm 19), .int (gm 20), .ref (am 4), .int (gm 22), .int (gm 23), .ref (am 5), .ref (am 6), .int (gm 26)])), ((am 1), .inl (eC E 0, 32, .inl (upd ks (gm 4).toNatClampNeg p0))), ((am 2), .inl (eC E 0, 32, .inl (upd os (gm 4).toNatClampNeg p1))), ((am 3), .inl (eC E 0, 32, .inl (upd ts (gm 4).toNatClampNeg p2))), ((am 4), .inl (eC E 0, 3, .inl iq)), ((am 5), .inl (eC E 0, 320, .inl mk)), ((am 6), .inl (eC E 0, 320, .inl me))] := hD
      refine lv_iload_n hx hb dX3_queues_116 rfl (lv_at hl 3 rfl) ?_
      refine lv_iconst (v := 2) hx hb dX3_queues_117 (by decide) ?_
      refine lv_icmp_ne (tgt := 127) hx hb dX3_queues_118 (by decide) (fun c_160 => ?_) (fun c_160 => ?_)
      · have hw := hw.2 c_160
        refine lv_aload_n hx hb dX3_queues_127 rfl (lv_at hl 2 rfl) ?_
        refine lv_dup hx hb dX3_queues_128 rfl ?_
        refine va_get (D := eD E) (ci := 4) (v := .int (gm 11)) (C := RX3) (T := TX3) (N := 27) hx hb hta lay_X3 hown hKE.1 hP 0 rfl rfl 11 (by decide) (hta _ tw_565) (fun _ h9 => h9) rfl dX3_queues_129 ?_
        refine lv_iload hx hb dX3_queues_132 (lv_at hl 1 rfl) ?_
        refine lv_if_eq (tgt := 141) hx hb dX3_queues_134 (by decide) (fun c9 => absurd c9 (by decide)) (fun _ => ?_)
        refine lv_iconst (v := 0) hx hb dX3_queues_137 (by decide) ?_
        refine lv_goto (tgt := 142) hx hb dX3_queues_138 (by decide) ?_
        refine lv_iadd hx hb dX3_queues_142 ?_
        refine va_put (D := eD E) (ci := 4) (v := .int ((gm 11) + 0)) (ty := .int) (C := RX3) (T := TX3) (N := 27) hx hb hta lay_X3 tyX3 tyX3_ok nmX3 hown hKE.1 hP hD hS 0 rfl rfl 11 (by decide) (hta _ tw_565) (fun _ h9 => h9) rfl (by decide +kernel) rfl rfl (Nat.le_of_ble_eq_true rfl) dX3_queues_143 (fun H locs hP hD hS => ?_)
        have hP : va_P (eD E) vwCl [((am 0), .inr (4, [.int (gm 0), .int (gm 1), .int (gm 2), .int (gm 3), .int ((gm 4) + 1), .ref (am 1), .ref (am 2), .ref (am 3), .int (gm 8), .int (gm 9), .int (gm 10), .int ((gm 11) + 0), .int (gm 12), .int (gm 13), .int (gm 14), .int (gm 15), .int (gm 16), .int (gm 17), .int (gm 18), .int (gm 19), .int (gm 20), .ref (am 4), .int (gm 22), .int (gm 23), .ref (am 5), .ref (am 6), .int (gm 26)])), ((am 1), .inl (eC E 0, 32, .inl (upd ks (gm 4).toNatClampNeg p0))), ((am 2), .inl (eC E 0, 32, .inl (upd os (gm 4).toNatClampNeg p1))), ((am 3), .inl (eC E 0, 32, .inl (upd ts (gm 4).toNatClampNeg p2))), ((am 4), .inl (eC E 0, 3, .inl iq)), ((am 5), .inl (eC E 0, 320, .inl mk)), ((am 6), .inl (eC E 0, 320, .inl me))] H := hP
        have hD : va_D A [((am 0), .inr (4, [.int (gm 0), .int (gm 1), .int (gm 2), .int (gm 3), .int ((gm 4) + 1), .ref (am 1), .ref (am 2), .ref (am 3), .int (gm 8), .int (gm 9), .int (gm 10), .int ((gm 11) + 0), .int (gm 12), .int (gm 13), .int (gm 14), .int (gm 15), .int (gm 16), .int (gm 17), .int (gm 18), .int (gm 19), .int (gm 20), .ref (am 4), .int (gm 22), .int (gm 23), .ref (am 5), .ref (am 6), .int (gm 26)])), ((am 1), .inl (eC E 0, 32, .inl (upd ks (gm 4).toNatClampNeg p0))), ((am 2), .inl (eC E 0, 32, .inl (upd os (gm 4).toNatClampNeg p1))), ((am 3), .inl (eC E 0, 32, .inl (upd ts (gm 4).toNatClampNeg p2))), ((am 4), .inl (eC E 0, 3, .inl iq)), ((am 5), .inl (eC E 0, 320, .inl mk)), ((am 6), .inl (eC E 0, 320, .inl me))] := hD
        refine lv_aload_n hx hb dX3_queues_146 rfl (lv_at hl 2 rfl) ?_
        refine lv_dup hx hb dX3_queues_147 rfl ?_
        refine va_get (D := eD E) (ci := 4) (v := .int (gm 12)) (C := RX3) (T := TX3) (N := 27) hx hb hta lay_X3 hown hKE.1 hP 0 rfl rfl 12 (by decide) (hta _ tw_566) (fun _ h9 => h9) rfl dX3_queues_148 ?_
        refine lv_iload hx hb dX3_queues_151 (lv_at hl 1 rfl) ?_
        refine lv_if_eq (tgt := 160) hx hb dX3_queues_153 (by decide) (fun c9 => absurd c9 (by decide)) (fun _ => ?_)
        refine lv_iconst (v := 0) hx hb dX3_queues_156 (by decide) ?_
        refine lv_goto (tgt := 161) hx hb dX3_queues_157 (by decide) ?_
        refine lv_iadd hx hb dX3_queues_161 ?_
        refine va_put (D := eD E) (ci := 4) (v := .int ((gm 12) + 0)) (ty := .int) (C := RX3) (T := TX3) (N := 27) hx hb hta lay_X3 tyX3 tyX3_ok nmX3 hown hKE.1 hP hD hS 0 rfl rfl 12 (by decide) (hta _ tw_566) (fun _ h9 => h9) rfl (by decide +kernel) rfl rfl (Nat.le_of_ble_eq_true rfl) dX3_queues_162 (fun H locs hP hD hS => ?_)
        have hP : va_P (eD E) vwCl [((am 0), .inr (4, [.int (gm 0), .int (gm 1), .int (gm 2), .int (gm 3), .int ((gm 4) + 1), .ref (am 1), .ref (am 2), .ref (am 3), .int (gm 8), .int (gm 9), .int (gm 10), .int ((gm 11) + 0), .int ((gm 12) + 0), .int (gm 13), .int (gm 14), .int (gm 15), .int (gm 16), .int (gm 17), .int (gm 18), .int (gm 19), .int (gm 20), .ref (am 4), .int (gm 22), .int (gm 23), .ref (am 5), .ref (am 6), .int (gm 26)])), ((am 1), .inl (eC E 0, 32, .inl (upd ks (gm 4).toNatClampNeg p0))), ((am 2), .inl (eC E 0, 32, .inl (upd os (gm 4).toNatClampNeg p1))), ((am 3), .inl (eC E 0, 32, .inl (upd ts (gm 4).toNatClampNeg p2))), ((am 4), .inl (eC E 0, 3, .inl iq)), ((am 5), .inl (eC E 0, 320, .inl mk)), ((am 6), .inl (eC E 0, 320, .inl me))] H := hP
        have hD : va_D A [((am 0), .inr (4, [.int (gm 0), .int (gm 1), .int (gm 2), .int (gm 3), .int ((gm 4) + 1), .ref (am 1), .ref (am 2), .ref (am 3), .int (gm 8), .int (gm 9), .int (gm 10), .int ((gm 11) + 0), .int ((gm 12) + 0), .int (gm 13), .int (gm 14), .int (gm 15), .int (gm 16), .int (gm 17), .int (gm 18), .int (gm 19), .int (gm 20), .ref (am 4), .int (gm 22), .int (gm 23), .ref (am 5), .ref (am 6), .int (gm 26)])), ((am 1), .inl (eC E 0, 32, .inl (upd ks (gm 4).toNatClampNeg p0))), ((am 2), .inl (eC E 0, 32, .inl (upd os (gm 4).toNatClampNeg p1))), ((am 3), .inl (eC E 0, 32, .inl (upd ts (gm 4).toNatClampNeg p2))), ((am 4), .inl (eC E 0, 3, .inl iq)), ((am 5), .inl (eC E 0, 320, .inl mk)), ((am 6), .inl (eC E 0, 320, .inl me))] := hD
        refine lv_iconst (v := 1) hx hb dX3_queues_165 (by decide) ?_
        have hP9 : va_P (eD E) vwCl (wM E am (upd (upd (upd gm 4 ((gm 4) + 1)) 11 ((gm 11) + 0)) 12 ((gm 12) + 0)) (upd ks (gm 4).toNatClampNeg p0) (upd os (gm 4).toNatClampNeg p1) (upd ts (gm 4).toNatClampNeg p2) iq mk me) H := hP
        have hD9 : va_D A (wM E am (upd (upd (upd gm 4 ((gm 4) + 1)) 11 ((gm 11) + 0)) 12 ((gm 12) + 0)) (upd ks (gm 4).toNatClampNeg p0) (upd os (gm 4).toNatClampNeg p1) (upd ts (gm 4).toNatClampNeg p2) iq mk me) := hD
        exact W.zret (v := 1) hx hb hr rfl (fun t ht hW => ⟨⟨1, ((upd (upd (upd gm 4 ((gm 4) + 1)) 11 ((gm 11) + 0)) 12 ((gm 12) + 0)), (upd ks (gm 4).toNatClampNeg p0), (upd os (gm 4).toNatClampNeg p1), (upd ts (gm 4).toNatClampNeg p2), iq, mk, me), rfl, hw, ⟨by rw [ht]; exact hP9, hD9⟩⟩, hS.F ht⟩) hS.2.2 dX3_queues_166
      · have hw := hw.1 c_160
        refine lv_aload_n hx hb dX3_queues_121 rfl (lv_at hl 2 rfl) ?_
        refine lv_iload_n hx hb dX3_queues_122 rfl (lv_at hl 4 rfl) ?_
        refine lv_iload_n hx hb dX3_queues_123 rfl (lv_at hl 5 rfl) ?_
        have hPc : va_P (eD E) vwCl (wM E am (upd gm 4 ((gm 4) + 1)) (upd ks (gm 4).toNatClampNeg p0) (upd os (gm 4).toNatClampNeg p1) (upd ts (gm 4).toNatClampNeg p2) iq mk me) H := hP
        have hDc : va_D A (wM E am (upd gm 4 ((gm 4) + 1)) (upd ks (gm 4).toNatClampNeg p0) (upd os (gm 4).toNatClampNeg p1) (upd ts (gm 4).toNatClampNeg p2) iq mk me) := hD
        have hFc : ∀ q, va_A (wM E am (upd gm 4 ((gm 4) + 1)) (upd ks (gm 4).toNatClampNeg p0) (upd os (gm 4).toNatClampNeg p1) (upd ts (gm 4).toNatClampNeg p2) iq mk me) H.size q → A q := frS hDc hS hA
        refine va_callv (va_runV (As := [.int p1, .int p2]) (rest := []) ⟨hx, hb, hml, hown, hta⟩ (c_X3_draws E l am (upd gm 4 ((gm 4) + 1)) (upd ks (gm 4).toNatClampNeg p0) (upd os (gm 4).toNatClampNeg p1) (upd ts (gm 4).toNatClampNeg p2) iq mk me p1 p2 H.size _ hw) (pcV (n := 2) hta tw_669 tw_666 tw_6 tw_668 tp_36 rfl rfl hd_X3_draws ⟨Nat.le_of_ble_eq_true rfl, Nat.le_of_ble_eq_true rfl⟩) ⟨fbM, va_recv hKE.1 hP (ci := 4) (q0 := 0) rfl rfl, fun U hU hW => ⟨rfl, preM.mk hPc hKE hDc hZ hS hFc hU hW⟩⟩ rfl rfl hl.1 rfl (lv_room (Nat.le_of_ble_eq_true rfl)) dX3_queues_124 ⟨Nat.le_of_ble_eq_true rfl, Nat.le_of_ble_eq_true rfl⟩) hS (fun q _ h => hFc q h) hFc (fun u t H locs ht hvm hw hB hz1 hk1 hS => ?_)
        obtain ⟨gm_162, ks_163, os_164, ts_165, iq_166, mk_167, me_168⟩ := u
        obtain ⟨hP1, hD1⟩ := hB
        rw [ht] at hP1
        try dsimp only at hw hP1 hD1
        have hP : va_P (eD E) vwCl [((am 0), .inr (4, [.int (gm_162 0), .int (gm_162 1), .int (gm_162 2), .int (gm_162 3), .int (gm_162 4), .ref (am 1), .ref (am 2), .ref (am 3), .int (gm_162 8), .int (gm_162 9), .int (gm_162 10), .int (gm_162 11), .int (gm_162 12), .int (gm_162 13), .int (gm_162 14), .int (gm_162 15), .int (gm_162 16), .int (gm_162 17), .int (gm_162 18), .int (gm_162 19), .int (gm_162 20), .ref (am 4), .int (gm_162 22), .int (gm_162 23), .ref (am 5), .ref (am 6), .int (gm_162 26)])), ((am 1), .inl (eC E 0, 32, .inl ks_163)), ((am 2), .inl (eC E 0, 32, .inl os_164)), ((am 3), .inl (eC E 0, 32, .inl ts_165)), ((am 4), .inl (eC E 0, 3, .inl iq_166)), ((am 5), .inl (eC E 0, 320, .inl mk_167)), ((am 6), .inl (eC E 0, 320, .inl me_168))] H := hP1
        have hD : va_D A [((am 0), .inr (4, [.int (gm_162 0), .int (gm_162 1), .int (gm_162 2), .int (gm_162 3), .int (gm_162 4), .ref (am 1), .ref (am 2), .ref (am 3), .int (gm_162 8), .int (gm_162 9), .int (gm_162 10), .int (gm_162 11), .int (gm_162 12), .int (gm_162 13), .int (gm_162 14), .int (gm_162 15), .int (gm_162 16), .int (gm_162 17), .int (gm_162 18), .int (gm_162 19), .int (gm_162 20), .ref (am 4), .int (gm_162 22), .int (gm_162 23), .ref (am 5), .ref (am 6), .int (gm_162 26)])), ((am 1), .inl (eC E 0, 32, .inl ks_163)), ((am 2), .inl (eC E 0, 32, .inl os_164)), ((am 3), .inl (eC E 0, 32, .inl ts_165)), ((am 4), .inl (eC E 0, 3, .inl iq_166)), ((am 5), .inl (eC E 0, 320, .inl mk_167)), ((am 6), .inl (eC E 0, 320, .inl me_168))] := hD1.weaken (fun _ q _ h => hFc q.1 h)
        refine lv_aload_n hx hb dX3_queues_127 rfl (lv_at hl 2 rfl) ?_
        refine lv_dup hx hb dX3_queues_128 rfl ?_
        refine va_get (D := eD E) (ci := 4) (v := .int (gm_162 11)) (C := RX3) (T := TX3) (N := 27) hx hb hta lay_X3 hown hKE.1 hP 0 rfl rfl 11 (by decide) (hta _ tw_565) (fun _ h9 => h9) rfl dX3_queues_129 ?_
        refine lv_iload hx hb dX3_queues_132 (lv_at hl 1 rfl) ?_
        refine lv_if_eq (tgt := 141) hx hb dX3_queues_134 (by decide) (fun c9 => absurd c9 (by decide)) (fun _ => ?_)
        refine lv_iconst (v := 0) hx hb dX3_queues_137 (by decide) ?_
        refine lv_goto (tgt := 142) hx hb dX3_queues_138 (by decide) ?_
        refine lv_iadd hx hb dX3_queues_142 ?_
        refine va_put (D := eD E) (ci := 4) (v := .int ((gm_162 11) + 0)) (ty := .int) (C := RX3) (T := TX3) (N := 27) hx hb hta lay_X3 tyX3 tyX3_ok nmX3 hown hKE.1 hP hD hS 0 rfl rfl 11 (by decide) (hta _ tw_565) (fun _ h9 => h9) rfl (by decide +kernel) rfl rfl (Nat.le_of_ble_eq_true rfl) dX3_queues_143 (fun H locs hP hD hS => ?_)
        have hP : va_P (eD E) vwCl [((am 0), .inr (4, [.int (gm_162 0), .int (gm_162 1), .int (gm_162 2), .int (gm_162 3), .int (gm_162 4), .ref (am 1), .ref (am 2), .ref (am 3), .int (gm_162 8), .int (gm_162 9), .int (gm_162 10), .int ((gm_162 11) + 0), .int (gm_162 12), .int (gm_162 13), .int (gm_162 14), .int (gm_162 15), .int (gm_162 16), .int (gm_162 17), .int (gm_162 18), .int (gm_162 19), .int (gm_162 20), .ref (am 4), .int (gm_162 22), .int (gm_162 23), .ref (am 5), .ref (am 6), .int (gm_162 26)])), ((am 1), .inl (eC E 0, 32, .inl ks_163)), ((am 2), .inl (eC E 0, 32, .inl os_164)), ((am 3), .inl (eC E 0, 32, .inl ts_165)), ((am 4), .inl (eC E 0, 3, .inl iq_166)), ((am 5), .inl (eC E 0, 320, .inl mk_167)), ((am 6), .inl (eC E 0, 320, .inl me_168))] H := hP
        have hD : va_D A [((am 0), .inr (4, [.int (gm_162 0), .int (gm_162 1), .int (gm_162 2), .int (gm_162 3), .int (gm_162 4), .ref (am 1), .ref (am 2), .ref (am 3), .int (gm_162 8), .int (gm_162 9), .int (gm_162 10), .int ((gm_162 11) + 0), .int (gm_162 12), .int (gm_162 13), .int (gm_162 14), .int (gm_162 15), .int (gm_162 16), .int (gm_162 17), .int (gm_162 18), .int (gm_162 19), .int (gm_162 20), .ref (am 4), .int (gm_162 22), .int (gm_162 23), .ref (am 5), .ref (am 6), .int (gm_162 26)])), ((am 1), .inl (eC E 0, 32, .inl ks_163)), ((am 2), .inl (eC E 0, 32, .inl os_164)), ((am 3), .inl (eC E 0, 32, .inl ts_165)), ((am 4), .inl (eC E 0, 3, .inl iq_166)), ((am 5), .inl (eC E 0, 320, .inl mk_167)), ((am 6), .inl (eC E 0, 320, .inl me_168))] := hD
        refine lv_aload_n hx hb dX3_queues_146 rfl (lv_at hl 2 rfl) ?_
        refine lv_dup hx hb dX3_queues_147 rfl ?_
        refine va_get (D := eD E) (ci := 4) (v := .int (gm_162 12)) (C := RX3) (T := TX3) (N := 27) hx hb hta lay_X3 hown hKE.1 hP 0 rfl rfl 12 (by decide) (hta _ tw_566) (fun _ h9 => h9) rfl dX3_queues_148 ?_
        refine lv_iload hx hb dX3_queues_151 (lv_at hl 1 rfl) ?_
        refine lv_if_eq (tgt := 160) hx hb dX3_queues_153 (by decide) (fun c9 => absurd c9 (by decide)) (fun _ => ?_)
        refine lv_iconst (v := 0) hx hb dX3_queues_156 (by decide) ?_
        refine lv_goto (tgt := 161) hx hb dX3_queues_157 (by decide) ?_
        refine lv_iadd hx hb dX3_queues_161 ?_
        refine va_put (D := eD E) (ci := 4) (v := .int ((gm_162 12) + 0)) (ty := .int) (C := RX3) (T := TX3) (N := 27) hx hb hta lay_X3 tyX3 tyX3_ok nmX3 hown hKE.1 hP hD hS 0 rfl rfl 12 (by decide) (hta _ tw_566) (fun _ h9 => h9) rfl (by decide +kernel) rfl rfl (Nat.le_of_ble_eq_true rfl) dX3_queues_162 (fun H locs hP hD hS => ?_)
        have hP : va_P (eD E) vwCl [((am 0), .inr (4, [.int (gm_162 0), .int (gm_162 1), .int (gm_162 2), .int (gm_162 3), .int (gm_162 4), .ref (am 1), .ref (am 2), .ref (am 3), .int (gm_162 8), .int (gm_162 9), .int (gm_162 10), .int ((gm_162 11) + 0), .int ((gm_162 12) + 0), .int (gm_162 13), .int (gm_162 14), .int (gm_162 15), .int (gm_162 16), .int (gm_162 17), .int (gm_162 18), .int (gm_162 19), .int (gm_162 20), .ref (am 4), .int (gm_162 22), .int (gm_162 23), .ref (am 5), .ref (am 6), .int (gm_162 26)])), ((am 1), .inl (eC E 0, 32, .inl ks_163)), ((am 2), .inl (eC E 0, 32, .inl os_164)), ((am 3), .inl (eC E 0, 32, .inl ts_165)), ((am 4), .inl (eC E 0, 3, .inl iq_166)), ((am 5), .inl (eC E 0, 320, .inl mk_167)), ((am 6), .inl (eC E 0, 320, .inl me_168))] H := hP
        have hD : va_D A [((am 0), .inr (4, [.int (gm_162 0), .int (gm_162 1), .int (gm_162 2), .int (gm_162 3), .int (gm_162 4), .ref (am 1), .ref (am 2), .ref (am 3), .int (gm_162 8), .int (gm_162 9), .int (gm_162 10), .int ((gm_162 11) + 0), .int ((gm_162 12) + 0), .int (gm_162 13), .int (gm_162 14), .int (gm_162 15), .int (gm_162 16), .int (gm_162 17), .int (gm_162 18), .int (gm_162 19), .int (gm_162 20), .ref (am 4), .int (gm_162 22), .int (gm_162 23), .ref (am 5), .ref (am 6), .int (gm_162 26)])), ((am 1), .inl (eC E 0, 32, .inl ks_163)), ((am 2), .inl (eC E 0, 32, .inl os_164)), ((am 3), .inl (eC E 0, 32, .inl ts_165)), ((am 4), .inl (eC E 0, 3, .inl iq_166)), ((am 5), .inl (eC E 0, 320, .inl mk_167)), ((am 6), .inl (eC E 0, 320, .inl me_168))] := hD
        refine lv_iconst (v := 1) hx hb dX3_queues_165 (by decide) ?_
        have hP9 : va_P (eD E) vwCl (wM E am (upd (upd gm_162 11 ((gm_162 11) + 0)) 12 ((gm_162 12) + 0)) ks_163 os_164 ts_165 iq_166 mk_167 me_168) H := hP
        have hD9 : va_D A (wM E am (upd (upd gm_162 11 ((gm_162 11) + 0)) 12 ((gm_162 12) + 0)) ks_163 os_164 ts_165 iq_166 mk_167 me_168) := hD
        exact W.zret (v := 1) hx hb hr rfl (fun t ht hW => ⟨⟨1, ((upd (upd gm_162 11 ((gm_162 11) + 0)) 12 ((gm_162 12) + 0)), ks_163, os_164, ts_165, iq_166, mk_167, me_168), rfl, hw, ⟨by rw [ht]; exact hP9, hD9⟩⟩, hS.F ht⟩) hS.2.2 dX3_queues_166
    · have hw := hw.1 c_158
      refine lv_aload_n hx hb dX3_queues_64 rfl (lv_at hl 2 rfl) ?_
      refine lv_dup hx hb dX3_queues_65 rfl ?_
      refine va_get (D := eD E) (ci := 4) (v := .int (gm 3)) (C := RX3) (T := TX3) (N := 27) hx hb hta lay_X3 hown hKE.1 hP 0 rfl rfl 3 (by decide) (hta _ tw_557) (fun _ h9 => h9) rfl dX3_queues_66 ?_
      refine lv_iconst (v := 1) hx hb dX3_queues_69 (by decide) ?_
      refine lv_iadd hx hb dX3_queues_70 ?_
      refine va_put (D := eD E) (ci := 4) (v := .int ((gm 3) + 1)) (ty := .int) (C := RX3) (T := TX3) (N := 27) hx hb hta lay_X3 tyX3 tyX3_ok nmX3 hown hKE.1 hP hD hS 0 rfl rfl 3 (by decide) (hta _ tw_557) (fun _ h9 => h9) rfl (by decide +kernel) rfl rfl (Nat.le_of_ble_eq_true rfl) dX3_queues_71 (fun H locs hP hD hS => ?_)
      have hP : va_P (eD E) vwCl [((am 0), .inr (4, [.int (gm 0), .int (gm 1), .int (gm 2), .int ((gm 3) + 1), .int (gm 4), .ref (am 1), .ref (am 2), .ref (am 3), .int (gm 8), .int (gm 9), .int (gm 10), .int (gm 11), .int (gm 12), .int (gm 13), .int (gm 14), .int (gm 15), .int (gm 16), .int (gm 17), .int (gm 18), .int (gm 19), .int (gm 20), .ref (am 4), .int (gm 22), .int (gm 23), .ref (am 5), .ref (am 6), .int (gm 26)])), ((am 1), .inl (eC E 0, 32, .inl ks)), ((am 2), .inl (eC E 0, 32, .inl os)), ((am 3), .inl (eC E 0, 32, .inl ts)), ((am 4), .inl (eC E 0, 3, .inl iq)), ((am 5), .inl (eC E 0, 320, .inl mk)), ((am 6), .inl (eC E 0, 320, .inl me))] H := hP
      have hD : va_D A [((am 0), .inr (4, [.int (gm 0), .int (gm 1), .int (gm 2), .int ((gm 3) + 1), .int (gm 4), .ref (am 1), .ref (am 2), .ref (am 3), .int (gm 8), .int (gm 9), .int (gm 10), .int (gm 11), .int (gm 12), .int (gm 13), .int (gm 14), .int (gm 15), .int (gm 16), .int (gm 17), .int (gm 18), .int (gm 19), .int (gm 20), .ref (am 4), .int (gm 22), .int (gm 23), .ref (am 5), .ref (am 6), .int (gm 26)])), ((am 1), .inl (eC E 0, 32, .inl ks)), ((am 2), .inl (eC E 0, 32, .inl os)), ((am 3), .inl (eC E 0, 32, .inl ts)), ((am 4), .inl (eC E 0, 3, .inl iq)), ((am 5), .inl (eC E 0, 320, .inl mk)), ((am 6), .inl (eC E 0, 320, .inl me))] := hD
      refine lv_iconst (v := 0) hx hb dX3_queues_74 (by decide) ?_
      have hP9 : va_P (eD E) vwCl (wM E am (upd gm 3 ((gm 3) + 1)) ks os ts iq mk me) H := hP
      have hD9 : va_D A (wM E am (upd gm 3 ((gm 3) + 1)) ks os ts iq mk me) := hD
      exact W.zret (v := 0) hx hb hr rfl (fun t ht hW => ⟨⟨0, ((upd gm 3 ((gm 3) + 1)), ks, os, ts, iq, mk, me), rfl, hw, ⟨by rw [ht]; exact hP9, hD9⟩⟩, hS.F ht⟩) hS.2.2 dX3_queues_75
def wp_X3_repeats_L30 (E : EV) (post : (Nat → Int32) → (Nat → Int32) → (Nat → Int32) → (Nat → Int32) → (Nat → Int32) → (Nat → Int32) → (Nat → Int32) → Prop)   : Nat → (Nat → Int32) → (Nat → Int32) → (Nat → Int32) → (Nat → Int32) → (Nat → Int32) → (Nat → Int32) → (Nat → Int32) → Int32 → Int32 → Prop
  | 0, _, _, _, _, _, _, _, _, _ => False
  | n + 1, gm_L, ks_L, os_L, ts_L, iq_L, mk_L, me_L, x1, x2 => ((x1 ≤ x2 → post gm_L ks_L os_L ts_L iq_L mk_L me_L) ∧ (¬ (x1 ≤ x2) → (wp_X3_queues E (fun (r_173 : Int32) (gm_174 : Nat → Int32) (ks_175 : Nat → Int32) (os_176 : Nat → Int32) (ts_177 : Nat → Int32) (iq_178 : Nat → Int32) (mk_179 : Nat → Int32) (me_180 : Nat → Int32) => (wp_X3_repeats_L30 E post n gm_174 ks_175 os_176 ts_177 iq_178 mk_179 me_180 x1 (x2 + 1))) gm_L ks_L os_L ts_L iq_L mk_L me_L (gm_L 8) (gm_L 9) (gm_L 10))))
def wp_X3_repeats (E : EV) (post : (Nat → Int32) → (Nat → Int32) → (Nat → Int32) → (Nat → Int32) → (Nat → Int32) → (Nat → Int32) → (Nat → Int32) → Prop) (gm : Nat → Int32) (ks : Nat → Int32) (os : Nat → Int32) (ts : Nat → Int32) (iq : Nat → Int32) (mk : Nat → Int32) (me : Nat → Int32) (p0 : Int32) : Prop := (wp_X3_isIn E (fun r_169 : Int32 => ((r_169 = 0 → post (upd gm 3 ((gm 3) + 1)) ks os ts iq mk me) ∧ (¬ (r_169 = 0) → (((gm 8) = 0 → post (upd gm 3 ((gm 3) + 1)) ks os ts iq mk me) ∧ (¬ (gm 8) = 0 → (∃ n : Nat, wp_X3_repeats_L30 E post n gm ks os ts iq mk me p0 0)))))) p0 1 9)
set_option maxHeartbeats 4000000 in
set_option maxRecDepth 100000 in
theorem c_X3_repeats (E : EV) (l : Launch) (am : Nat → Nat) (gm : Nat → Int32) (ks : Nat → Int32) (os : Nat → Int32) (ts : Nat → Int32) (iq : Nat → Int32) (mk : Nat → Int32) (me : Nat → Int32) (p0 : Int32) (hz : Nat) (post : (Nat → Int32) → (Nat → Int32) → (Nat → Int32) → (Nat → Int32) → (Nat → Int32) → (Nat → Int32) → (Nat → Int32) → Prop) (hw : wp_X3_repeats E post gm ks os ts iq mk me p0) : Met l yX3_repeats (Cond.code yX3_repeats cX3_repeats 3 none :: ALLW) ({ frames := 4, cells := 0, slots := 0, locals := 91 } : Room) (va_Pc [.ref (am 0), .int p0] (preM E (wM E am gm ks os ts iq mk me) hz)) (va_Qv (fun (u : (Nat → Int32) × (Nat → Int32) × (Nat → Int32) × (Nat → Int32) × (Nat → Int32) × (Nat → Int32) × (Nat → Int32)) => post u.1 u.2.1 u.2.2.1 u.2.2.2.1 u.2.2.2.2.1 u.2.2.2.2.2.1 u.2.2.2.2.2.2) (fun (u : (Nat → Int32) × (Nat → Int32) × (Nat → Int32) × (Nat → Int32) × (Nat → Int32) × (Nat → Int32) × (Nat → Int32)) t => va_P (eD E) vwCl (wM E am u.1 u.2.1 u.2.2.1 u.2.2.2.1 u.2.2.2.2.1 u.2.2.2.2.2.1 u.2.2.2.2.2.2) t.heap ∧ va_D (va_A (wM E am gm ks os ts iq mk me) hz) (wM E am u.1 u.2.1 u.2.2.1 u.2.2.2.1 u.2.2.2.2.1 u.2.2.2.2.2.1 u.2.2.2.2.2.2)) (va_A (wM E am gm ks os ts iq mk me) hz)) 0 0 (va_A (wM E am gm ks os ts iq mk me) hz) := by
  refine Met.ofW (cc := cX3_repeats) (maxL := 3) (ret := none) (by decide) rfl ?_
  intro p e s m args below meth c s₁ B hml hv
  obtain ⟨rfl, hpre⟩ := hv
  have hx := B.exec
  have hb := B.bytes
  have hr := B.returns
  have hlocks := B.notSynchronized
  have hts := atoms_spec (ws := (Cond.code yX3_repeats cX3_repeats 3 none :: ALLW)) B.pre
  have hta : ∀ w ∈ ALLW, w.before ([.ref (am 0), .int p0] : List Value).toArray s = true := fun w h => hts w (List.mem_cons_of_mem _ h)
  have hown : s.vm.findClass RX3 = some m.cls := findClass_of_methodNamed B.named
  obtain ⟨hsz, hP, hKE, hD0, hZ⟩ := hpre
  subst hsz
  have hD := hD0.self (sz := s.heap.size)
  generalize hAe : va_A (wM E am gm ks os ts iq mk me) s.heap.size = A at hD hZ ⊢
  have hA : ∀ q : Nat, s.heap.size ≤ q → A q := fun q h => by rw [← hAe]; exact Or.inr h
  have hS : va_S A s.heap s.heap [] := va_S.rf
  have hP : va_P (eD E) vwCl [((am 0), .inr (4, [.int (gm 0), .int (gm 1), .int (gm 2), .int (gm 3), .int (gm 4), .ref (am 1), .ref (am 2), .ref (am 3), .int (gm 8), .int (gm 9), .int (gm 10), .int (gm 11), .int (gm 12), .int (gm 13), .int (gm 14), .int (gm 15), .int (gm 16), .int (gm 17), .int (gm 18), .int (gm 19), .int (gm 20), .ref (am 4), .int (gm 22), .int (gm 23), .ref (am 5), .ref (am 6), .int (gm 26)])), ((am 1), .inl (eC E 0, 32, .inl ks)), ((am 2), .inl (eC E 0, 32, .inl os)), ((am 3), .inl (eC E 0, 32, .inl ts)), ((am 4), .inl (eC E 0, 3, .inl iq)), ((am 5), .inl (eC E 0, 320, .inl mk)), ((am 6), .inl (eC E 0, 320, .inl me))] s.heap := hP
  have hD : va_D A [((am 0), .inr (4, [.int (gm 0), .int (gm 1), .int (gm 2), .int (gm 3), .int (gm 4), .ref (am 1), .ref (am 2), .ref (am 3), .int (gm 8), .int (gm 9), .int (gm 10), .int (gm 11), .int (gm 12), .int (gm 13), .int (gm 14), .int (gm 15), .int (gm 16), .int (gm 17), .int (gm 18), .int (gm 19), .int (gm 20), .ref (am 4), .int (gm 22), .int (gm 23), .ref (am 5), .ref (am 6), .int (gm 26)])), ((am 1), .inl (eC E 0, 32, .inl ks)), ((am 2), .inl (eC E 0, 32, .inl os)), ((am 3), .inl (eC E 0, 32, .inl ts)), ((am 4), .inl (eC E 0, 3, .inl iq)), ((am 5), .inl (eC E 0, 320, .inl mk)), ((am 6), .inl (eC E 0, 320, .inl me))] := hD
  have hl := lv_entry ([.ref (am 0), .int p0]) (n := 3) (Nat.le_of_ble_eq_true rfl)
  rw [lg_entry_eq]
  generalize (lg_sl ([.ref (am 0), .int p0]) ++ List.replicate (3 - (lg_sl ([.ref (am 0), .int p0])).length) Slot.unset).toArray = ls at hl ⊢
  have hl : lv_has ls 3 [(0, .ref (am 0)), (1, .int p0)] := hl
  have loop_30 : ∀ (n : Nat) (gm_L : Nat → Int32) (ks_L : Nat → Int32) (os_L : Nat → Int32) (ts_L : Nat → Int32) (iq_L : Nat → Int32) (mk_L : Nat → Int32) (me_L : Nat → Int32) (x1 : Int32) (x2 : Int32), wp_X3_repeats_L30 E post n gm_L ks_L os_L ts_L iq_L mk_L me_L x1 x2 → ∀ (H : Heap) (locs : List Loc), va_P (eD E) vwCl [((am 0), .inr (4, [.int (gm_L 0), .int (gm_L 1), .int (gm_L 2), .int (gm_L 3), .int (gm_L 4), .ref (am 1), .ref (am 2), .ref (am 3), .int (gm_L 8), .int (gm_L 9), .int (gm_L 10), .int (gm_L 11), .int (gm_L 12), .int (gm_L 13), .int (gm_L 14), .int (gm_L 15), .int (gm_L 16), .int (gm_L 17), .int (gm_L 18), .int (gm_L 19), .int (gm_L 20), .ref (am 4), .int (gm_L 22), .int (gm_L 23), .ref (am 5), .ref (am 6), .int (gm_L 26)])), ((am 1), .inl (eC E 0, 32, .inl ks_L)), ((am 2), .inl (eC E 0, 32, .inl os_L)), ((am 3), .inl (eC E 0, 32, .inl ts_L)), ((am 4), .inl (eC E 0, 3, .inl iq_L)), ((am 5), .inl (eC E 0, 320, .inl mk_L)), ((am 6), .inl (eC E 0, 320, .inl me_L))] H → va_D A [((am 0), .inr (4, [.int (gm_L 0), .int (gm_L 1), .int (gm_L 2), .int (gm_L 3), .int (gm_L 4), .ref (am 1), .ref (am 2), .ref (am 3), .int (gm_L 8), .int (gm_L 9), .int (gm_L 10), .int (gm_L 11), .int (gm_L 12), .int (gm_L 13), .int (gm_L 14), .int (gm_L 15), .int (gm_L 16), .int (gm_L 17), .int (gm_L 18), .int (gm_L 19), .int (gm_L 20), .ref (am 4), .int (gm_L 22), .int (gm_L 23), .ref (am 5), .ref (am 6), .int (gm_L 26)])), ((am 1), .inl (eC E 0, 32, .inl ks_L)), ((am 2), .inl (eC E 0, 32, .inl os_L)), ((am 3), .inl (eC E 0, 32, .inl ts_L)), ((am 4), .inl (eC E 0, 3, .inl iq_L)), ((am 5), .inl (eC E 0, 320, .inl mk_L)), ((am 6), .inl (eC E 0, 320, .inl me_L))] → va_S A s.heap H locs → ∀ (ls : Array Slot), lv_has ls 3 [(0, .ref (am 0)), (1, .int x1), (2, .int x2)] → W p l e (headSpec (Cond.code yX3_repeats cX3_repeats 3 none :: ALLW) ({ frames := 4, cells := 0, slots := 0, locals := 91 } : Room)).room s m ([.ref (am 0), .int p0] : List Value).toArray below meth c H locs 0 0 (MQ below (va_Qv (fun (u : (Nat → Int32) × (Nat → Int32) × (Nat → Int32) × (Nat → Int32) × (Nat → Int32) × (Nat → Int32) × (Nat → Int32)) => post u.1 u.2.1 u.2.2.1 u.2.2.2.1 u.2.2.2.2.1 u.2.2.2.2.2.1 u.2.2.2.2.2.2) (fun (u : (Nat → Int32) × (Nat → Int32) × (Nat → Int32) × (Nat → Int32) × (Nat → Int32) × (Nat → Int32) × (Nat → Int32)) t => va_P (eD E) vwCl (wM E am u.1 u.2.1 u.2.2.1 u.2.2.2.1 u.2.2.2.2.1 u.2.2.2.2.2.1 u.2.2.2.2.2.2) t.heap ∧ va_D A (wM E am u.1 u.2.1 u.2.2.1 u.2.2.2.1 u.2.2.2.2.1 u.2.2.2.2.2.1 u.2.2.2.2.2.2)) A) ([.ref (am 0), .int p0] : List Value).toArray s 0 0 A) (F0 m 30 ls []) := by
    intro n
    induction n with
    | zero => intro gm_L ks_L os_L ts_L iq_L mk_L me_L x1 x2 hw; exact hw.elim
    | succ n ih =>
      intro gm_L ks_L os_L ts_L iq_L mk_L me_L x1 x2 hw H locs hP hD hS ls hl
      unfold wp_X3_repeats_L30 at hw
      refine lv_iload_n hx hb dX3_repeats_30 rfl (lv_at hl 2 rfl) ?_
      refine lv_iload_n hx hb dX3_repeats_31 rfl (lv_at hl 1 rfl) ?_
      refine lv_icmp_ge (tgt := 58) hx hb dX3_repeats_32 (by decide) (fun c_172 => ?_) (fun c_172 => ?_)
      · have hw := hw.1 c_172
        have hP9 : va_P (eD E) vwCl (wM E am gm_L ks_L os_L ts_L iq_L mk_L me_L) H := hP
        have hD9 : va_D A (wM E am gm_L ks_L os_L ts_L iq_L mk_L me_L) := hD
        exact W.vret hx hb hr (fun t ht hW => ⟨⟨(gm_L, ks_L, os_L, ts_L, iq_L, mk_L, me_L), rfl, hw, ⟨by rw [ht]; exact hP9, hD9⟩⟩, hS.F ht⟩) hS.2.2 dX3_repeats_58
      · have hw := hw.2 c_172
        refine lv_aload_n hx hb dX3_repeats_35 rfl (lv_at hl 0 rfl) ?_
        refine lv_aload_n hx hb dX3_repeats_36 rfl (lv_at hl 0 rfl) ?_
        refine va_get (D := eD E) (ci := 4) (v := .int (gm_L 8)) (C := RX3) (T := TX3) (N := 27) hx hb hta lay_X3 hown hKE.1 hP 0 rfl rfl 8 (by decide) (hta _ tw_562) (fun _ h9 => h9) rfl dX3_repeats_37 ?_
        refine lv_aload_n hx hb dX3_repeats_40 rfl (lv_at hl 0 rfl) ?_
        refine va_get (D := eD E) (ci := 4) (v := .int (gm_L 9)) (C := RX3) (T := TX3) (N := 27) hx hb hta lay_X3 hown hKE.1 hP 0 rfl rfl 9 (by decide) (hta _ tw_563) (fun _ h9 => h9) rfl dX3_repeats_41 ?_
        refine lv_aload_n hx hb dX3_repeats_44 rfl (lv_at hl 0 rfl) ?_
        refine va_get (D := eD E) (ci := 4) (v := .int (gm_L 10)) (C := RX3) (T := TX3) (N := 27) hx hb hta lay_X3 hown hKE.1 hP 0 rfl rfl 10 (by decide) (hta _ tw_564) (fun _ h9 => h9) rfl dX3_repeats_45 ?_
        have hPc : va_P (eD E) vwCl (wM E am gm_L ks_L os_L ts_L iq_L mk_L me_L) H := hP
        have hDc : va_D A (wM E am gm_L ks_L os_L ts_L iq_L mk_L me_L) := hD
        have hFc : ∀ q, va_A (wM E am gm_L ks_L os_L ts_L iq_L mk_L me_L) H.size q → A q := frS hDc hS hA
        refine va_calli (va_runV (As := [.int (gm_L 8), .int (gm_L 9), .int (gm_L 10)]) (rest := []) ⟨hx, hb, hml, hown, hta⟩ (c_X3_queues E l am gm_L ks_L os_L ts_L iq_L mk_L me_L (gm_L 8) (gm_L 9) (gm_L 10) H.size _ hw) (pcV (n := 3) hta tw_662 tw_659 tw_6 tw_661 tp_35 rfl rfl hd_X3_queues ⟨Nat.le_of_ble_eq_true rfl, Nat.le_of_ble_eq_true rfl⟩) ⟨fbM, va_recv hKE.1 hP (ci := 4) (q0 := 0) rfl rfl, fun U hU hW => ⟨rfl, preM.mk hPc hKE hDc hZ hS hFc hU hW⟩⟩ rfl rfl hl.1 rfl (lv_room (Nat.le_of_ble_eq_true rfl)) dX3_repeats_48 ⟨Nat.le_of_ble_eq_true rfl, Nat.le_of_ble_eq_true rfl⟩) hS (fun q _ h => hFc q h) hFc (fun r_173 u t H locs ht hvm hw hB hz1 hk1 hS => ?_)
        obtain ⟨gm_174, ks_175, os_176, ts_177, iq_178, mk_179, me_180⟩ := u
        obtain ⟨hP1, hD1⟩ := hB
        rw [ht] at hP1
        try dsimp only at hw hP1 hD1
        have hP : va_P (eD E) vwCl [((am 0), .inr (4, [.int (gm_174 0), .int (gm_174 1), .int (gm_174 2), .int (gm_174 3), .int (gm_174 4), .ref (am 1), .ref (am 2), .ref (am 3), .int (gm_174 8), .int (gm_174 9), .int (gm_174 10), .int (gm_174 11), .int (gm_174 12), .int (gm_174 13), .int (gm_174 14), .int (gm_174 15), .int (gm_174 16), .int (gm_174 17), .int (gm_174 18), .int (gm_174 19), .int (gm_174 20), .ref (am 4), .int (gm_174 22), .int (gm_174 23), .ref (am 5), .ref (am 6), .int (gm_174 26)])), ((am 1), .inl (eC E 0, 32, .inl ks_175)), ((am 2), .inl (eC E 0, 32, .inl os_176)), ((am 3), .inl (eC E 0, 32, .inl ts_177)), ((am 4), .inl (eC E 0, 3, .inl iq_178)), ((am 5), .inl (eC E 0, 320, .inl mk_179)), ((am 6), .inl (eC E 0, 320, .inl me_180))] H := hP1
        have hD : va_D A [((am 0), .inr (4, [.int (gm_174 0), .int (gm_174 1), .int (gm_174 2), .int (gm_174 3), .int (gm_174 4), .ref (am 1), .ref (am 2), .ref (am 3), .int (gm_174 8), .int (gm_174 9), .int (gm_174 10), .int (gm_174 11), .int (gm_174 12), .int (gm_174 13), .int (gm_174 14), .int (gm_174 15), .int (gm_174 16), .int (gm_174 17), .int (gm_174 18), .int (gm_174 19), .int (gm_174 20), .ref (am 4), .int (gm_174 22), .int (gm_174 23), .ref (am 5), .ref (am 6), .int (gm_174 26)])), ((am 1), .inl (eC E 0, 32, .inl ks_175)), ((am 2), .inl (eC E 0, 32, .inl os_176)), ((am 3), .inl (eC E 0, 32, .inl ts_177)), ((am 4), .inl (eC E 0, 3, .inl iq_178)), ((am 5), .inl (eC E 0, 320, .inl mk_179)), ((am 6), .inl (eC E 0, 320, .inl me_180))] := hD1.weaken (fun _ q _ h => hFc q.1 h)
        refine lv_pop hx hb dX3_repeats_51 rfl ?_
        refine lv_iinc (v := (x2 + 1)) (lv' := [(2, .int (x2 + 1)), (0, .ref (am 0)), (1, .int x1)]) hx hb dX3_repeats_52 hl (k := 2) rfl rfl (by decide) rfl (fun ls hl => ?_)
        refine lv_goto (tgt := 30) hx hb dX3_repeats_55 (by decide) ?_
        exact ih gm_174 ks_175 os_176 ts_177 iq_178 mk_179 me_180 x1 (x2 + 1) hw _ _ hP hD hS ls (lv_sub hl [1, 2, 0] rfl)
  unfold wp_X3_repeats at hw
  refine lv_iload_n hx hb dX3_repeats_0 rfl (lv_at hl 1 rfl) ?_
  refine lv_iconst (v := 1) hx hb dX3_repeats_1 (by decide) ?_
  refine lv_bipush (v := 9) hx hb dX3_repeats_2 (by decide) ?_
  have hPc : va_P (eD E) vwCl [] s.heap := va_P_nil
  refine vp_callSi (va_Run.run (va_runS (As := [.int p0, .int 1, .int 9]) (rest := []) ⟨hx, hb, hml, hown, hta⟩ (c_X3_isIn E l p0 1 9 _ hw) (pcS (n := 3) hta tw_646 tw_644 tw_6 tw_645 rfl rfl hd_X3_isIn ⟨Nat.le_of_ble_eq_true rfl, Nat.le_of_ble_eq_true rfl⟩) ⟨fbR, fun U hU hW => ⟨rfl, preR.mk hPc hKE hU hW⟩⟩ rfl rfl hl.1 rfl (lv_room (Nat.le_of_ble_eq_true rfl)) dX3_repeats_4 ⟨Nat.le_of_ble_eq_true rfl, Nat.le_of_ble_eq_true rfl⟩)) (fun r_169 hw => ?_)
  refine lv_if_eq (tgt := 17) hx hb dX3_repeats_7 (by decide) (fun c_170 => ?_) (fun c_170 => ?_)
  · have hw := hw.1 c_170
    refine lv_aload_n hx hb dX3_repeats_17 rfl (lv_at hl 0 rfl) ?_
    refine lv_dup hx hb dX3_repeats_18 rfl ?_
    refine va_get (D := eD E) (ci := 4) (v := .int (gm 3)) (C := RX3) (T := TX3) (N := 27) hx hb hta lay_X3 hown hKE.1 hP 0 rfl rfl 3 (by decide) (hta _ tw_557) (fun _ h9 => h9) rfl dX3_repeats_19 ?_
    refine lv_iconst (v := 1) hx hb dX3_repeats_22 (by decide) ?_
    refine lv_iadd hx hb dX3_repeats_23 ?_
    refine va_put (D := eD E) (ci := 4) (v := .int ((gm 3) + 1)) (ty := .int) (C := RX3) (T := TX3) (N := 27) hx hb hta lay_X3 tyX3 tyX3_ok nmX3 hown hKE.1 hP hD hS 0 rfl rfl 3 (by decide) (hta _ tw_557) (fun _ h9 => h9) rfl (by decide +kernel) rfl rfl (Nat.le_of_ble_eq_true rfl) dX3_repeats_24 (fun H locs hP hD hS => ?_)
    have hP : va_P (eD E) vwCl [((am 0), .inr (4, [.int (gm 0), .int (gm 1), .int (gm 2), .int ((gm 3) + 1), .int (gm 4), .ref (am 1), .ref (am 2), .ref (am 3), .int (gm 8), .int (gm 9), .int (gm 10), .int (gm 11), .int (gm 12), .int (gm 13), .int (gm 14), .int (gm 15), .int (gm 16), .int (gm 17), .int (gm 18), .int (gm 19), .int (gm 20), .ref (am 4), .int (gm 22), .int (gm 23), .ref (am 5), .ref (am 6), .int (gm 26)])), ((am 1), .inl (eC E 0, 32, .inl ks)), ((am 2), .inl (eC E 0, 32, .inl os)), ((am 3), .inl (eC E 0, 32, .inl ts)), ((am 4), .inl (eC E 0, 3, .inl iq)), ((am 5), .inl (eC E 0, 320, .inl mk)), ((am 6), .inl (eC E 0, 320, .inl me))] H := hP
    have hD : va_D A [((am 0), .inr (4, [.int (gm 0), .int (gm 1), .int (gm 2), .int ((gm 3) + 1), .int (gm 4), .ref (am 1), .ref (am 2), .ref (am 3), .int (gm 8), .int (gm 9), .int (gm 10), .int (gm 11), .int (gm 12), .int (gm 13), .int (gm 14), .int (gm 15), .int (gm 16), .int (gm 17), .int (gm 18), .int (gm 19), .int (gm 20), .ref (am 4), .int (gm 22), .int (gm 23), .ref (am 5), .ref (am 6), .int (gm 26)])), ((am 1), .inl (eC E 0, 32, .inl ks)), ((am 2), .inl (eC E 0, 32, .inl os)), ((am 3), .inl (eC E 0, 32, .inl ts)), ((am 4), .inl (eC E 0, 3, .inl iq)), ((am 5), .inl (eC E 0, 320, .inl mk)), ((am 6), .inl (eC E 0, 320, .inl me))] := hD
    have hP9 : va_P (eD E) vwCl (wM E am (upd gm 3 ((gm 3) + 1)) ks os ts iq mk me) H := hP
    have hD9 : va_D A (wM E am (upd gm 3 ((gm 3) + 1)) ks os ts iq mk me) := hD
    exact W.vret hx hb hr (fun t ht hW => ⟨⟨((upd gm 3 ((gm 3) + 1)), ks, os, ts, iq, mk, me), rfl, hw, ⟨by rw [ht]; exact hP9, hD9⟩⟩, hS.F ht⟩) hS.2.2 dX3_repeats_27
  · have hw := hw.2 c_170
    refine lv_aload_n hx hb dX3_repeats_10 rfl (lv_at hl 0 rfl) ?_
    refine va_get (D := eD E) (ci := 4) (v := .int (gm 8)) (C := RX3) (T := TX3) (N := 27) hx hb hta lay_X3 hown hKE.1 hP 0 rfl rfl 8 (by decide) (hta _ tw_562) (fun _ h9 => h9) rfl dX3_repeats_11 ?_
    refine lv_if_ne (tgt := 28) hx hb dX3_repeats_14 (by decide) (fun c_171 => ?_) (fun c_171 => ?_)
    · have hw := hw.2 c_171
      refine lv_iconst (v := 0) hx hb dX3_repeats_28 (by decide) ?_
      refine lv_istore_n (lv' := [(2, .int 0), (0, .ref (am 0)), (1, .int p0)]) hx hb dX3_repeats_29 rfl hl (by decide) rfl (fun ls hl => ?_)
      obtain ⟨n_181, hw⟩ := hw
      exact loop_30 n_181 gm ks os ts iq mk me p0 0 hw _ _ hP hD hS ls (lv_sub hl [1, 2, 0] rfl)
    · have hw := hw.1 c_171
      refine lv_aload_n hx hb dX3_repeats_17 rfl (lv_at hl 0 rfl) ?_
      refine lv_dup hx hb dX3_repeats_18 rfl ?_
      refine va_get (D := eD E) (ci := 4) (v := .int (gm 3)) (C := RX3) (T := TX3) (N := 27) hx hb hta lay_X3 hown hKE.1 hP 0 rfl rfl 3 (by decide) (hta _ tw_557) (fun _ h9 => h9) rfl dX3_repeats_19 ?_
      refine lv_iconst (v := 1) hx hb dX3_repeats_22 (by decide) ?_
      refine lv_iadd hx hb dX3_repeats_23 ?_
      refine va_put (D := eD E) (ci := 4) (v := .int ((gm 3) + 1)) (ty := .int) (C := RX3) (T := TX3) (N := 27) hx hb hta lay_X3 tyX3 tyX3_ok nmX3 hown hKE.1 hP hD hS 0 rfl rfl 3 (by decide) (hta _ tw_557) (fun _ h9 => h9) rfl (by decide +kernel) rfl rfl (Nat.le_of_ble_eq_true rfl) dX3_repeats_24 (fun H locs hP hD hS => ?_)
      have hP : va_P (eD E) vwCl [((am 0), .inr (4, [.int (gm 0), .int (gm 1), .int (gm 2), .int ((gm 3) + 1), .int (gm 4), .ref (am 1), .ref (am 2), .ref (am 3), .int (gm 8), .int (gm 9), .int (gm 10), .int (gm 11), .int (gm 12), .int (gm 13), .int (gm 14), .int (gm 15), .int (gm 16), .int (gm 17), .int (gm 18), .int (gm 19), .int (gm 20), .ref (am 4), .int (gm 22), .int (gm 23), .ref (am 5), .ref (am 6), .int (gm 26)])), ((am 1), .inl (eC E 0, 32, .inl ks)), ((am 2), .inl (eC E 0, 32, .inl os)), ((am 3), .inl (eC E 0, 32, .inl ts)), ((am 4), .inl (eC E 0, 3, .inl iq)), ((am 5), .inl (eC E 0, 320, .inl mk)), ((am 6), .inl (eC E 0, 320, .inl me))] H := hP
      have hD : va_D A [((am 0), .inr (4, [.int (gm 0), .int (gm 1), .int (gm 2), .int ((gm 3) + 1), .int (gm 4), .ref (am 1), .ref (am 2), .ref (am 3), .int (gm 8), .int (gm 9), .int (gm 10), .int (gm 11), .int (gm 12), .int (gm 13), .int (gm 14), .int (gm 15), .int (gm 16), .int (gm 17), .int (gm 18), .int (gm 19), .int (gm 20), .ref (am 4), .int (gm 22), .int (gm 23), .ref (am 5), .ref (am 6), .int (gm 26)])), ((am 1), .inl (eC E 0, 32, .inl ks)), ((am 2), .inl (eC E 0, 32, .inl os)), ((am 3), .inl (eC E 0, 32, .inl ts)), ((am 4), .inl (eC E 0, 3, .inl iq)), ((am 5), .inl (eC E 0, 320, .inl mk)), ((am 6), .inl (eC E 0, 320, .inl me))] := hD
      have hP9 : va_P (eD E) vwCl (wM E am (upd gm 3 ((gm 3) + 1)) ks os ts iq mk me) H := hP
      have hD9 : va_D A (wM E am (upd gm 3 ((gm 3) + 1)) ks os ts iq mk me) := hD
      exact W.vret hx hb hr (fun t ht hW => ⟨⟨((upd gm 3 ((gm 3) + 1)), ks, os, ts, iq, mk, me), rfl, hw, ⟨by rw [ht]; exact hP9, hD9⟩⟩, hS.F ht⟩) hS.2.2 dX3_repeats_27
def wp_X3_signed (E : EV) (post : Int32 → Prop) (p0 : Int32) : Prop := ((p0 ≤ 127 → post p0) ∧ (¬ (p0 ≤ 127) → post (p0 - 256)))
set_option maxHeartbeats 4000000 in
set_option maxRecDepth 100000 in
theorem c_X3_signed (E : EV) (l : Launch) (p0 : Int32) (post : Int32 → Prop) (hw : wp_X3_signed E post p0) : Met l yX3_signed (Cond.code yX3_signed cX3_signed 1 (some .int) :: ALLW) ({ frames := 0, cells := 0, slots := 0, locals := 0 } : Room) (va_Pc [.int p0] (preR E ([]))) (vp_Si post) 0 0 (fun _ => False) := by
  refine Met.ofW (cc := cX3_signed) (maxL := 1) (ret := (some .int)) (by decide) rfl ?_
  intro p e s m args below meth c s₁ B hml hv
  obtain ⟨rfl, hpre⟩ := hv
  have hx := B.exec
  have hb := B.bytes
  have hr := B.returns
  have hlocks := B.notSynchronized
  have hts := atoms_spec (ws := (Cond.code yX3_signed cX3_signed 1 (some .int) :: ALLW)) B.pre
  have hta : ∀ w ∈ ALLW, w.before ([.int p0] : List Value).toArray s = true := fun w h => hts w (List.mem_cons_of_mem _ h)
  have hown : s.vm.findClass RX3 = some m.cls := findClass_of_methodNamed B.named
  obtain ⟨hP, hKE⟩ := hpre
  have hP : va_P (eD E) vwCl [] s.heap := hP
  have hl := lv_entry ([.int p0]) (n := 1) (Nat.le_of_ble_eq_true rfl)
  rw [lg_entry_eq]
  generalize (lg_sl ([.int p0]) ++ List.replicate (1 - (lg_sl ([.int p0])).length) Slot.unset).toArray = ls at hl ⊢
  have hl : lv_has ls 1 [(0, .int p0)] := hl
  unfold wp_X3_signed at hw
  refine lv_iload_n hx hb dX3_signed_0 rfl (lv_at hl 0 rfl) ?_
  refine lv_bipush (v := 127) hx hb dX3_signed_1 (by decide) ?_
  refine lv_icmp_le (tgt := 14) hx hb dX3_signed_3 (by decide) (fun c_182 => ?_) (fun c_182 => ?_)
  · have hw := hw.1 c_182
    refine lv_iload_n hx hb dX3_signed_14 rfl (lv_at hl 0 rfl) ?_
    exact W.iret (v := p0) hx hb hr (fun t ht hW => ⟨p0, rfl, hw, ht⟩) (fun q hq => nomatch hq) dX3_signed_15
  · have hw := hw.2 c_182
    refine lv_iload_n hx hb dX3_signed_6 rfl (lv_at hl 0 rfl) ?_
    refine lv_sipush (v := 256) hx hb dX3_signed_7 (by decide) ?_
    refine lv_isub hx hb dX3_signed_10 ?_
    refine lv_goto (tgt := 15) hx hb dX3_signed_11 (by decide) ?_
    exact W.iret (v := (p0 - 256)) hx hb hr (fun t ht hW => ⟨(p0 - 256), rfl, hw, ht⟩) (fun q hq => nomatch hq) dX3_signed_15
def wp_X3_isWhole (E : EV) (post : (Nat → Int32) → (Nat → Int32) → (Nat → Int32) → (Nat → Int32) → (Nat → Int32) → (Nat → Int32) → (Nat → Int32) → Prop) (gm : Nat → Int32) (ks : Nat → Int32) (os : Nat → Int32) (ts : Nat → Int32) (iq : Nat → Int32) (mk : Nat → Int32) (me : Nat → Int32) (p0 : Int32) : Prop := (((gm 1) = 4 → (wp_X3_repeats E (fun (gm_207 : Nat → Int32) (ks_208 : Nat → Int32) (os_209 : Nat → Int32) (ts_210 : Nat → Int32) (iq_211 : Nat → Int32) (mk_212 : Nat → Int32) (me_213 : Nat → Int32) => post (upd gm_207 0 0) ks_208 os_209 ts_210 iq_211 mk_212 me_213) gm ks os ts iq mk me p0)) ∧ (¬ (gm 1) = 4 → (((gm 1) = 3 → (wp_X3_queues E (fun (r_198 : Int32) (gm_199 : Nat → Int32) (ks_200 : Nat → Int32) (os_201 : Nat → Int32) (ts_202 : Nat → Int32) (iq_203 : Nat → Int32) (mk_204 : Nat → Int32) (me_205 : Nat → Int32) => post (upd gm_199 0 0) ks_200 os_201 ts_202 iq_203 mk_204 me_205) gm ks os ts iq mk me 3 p0 0)) ∧ (¬ (gm 1) = 3 → (wp_X3_signed E (fun r_185 : Int32 => (wp_X3_signed E (fun r_186 : Int32 => (wp_X3_queues E (fun (r_187 : Int32) (gm_188 : Nat → Int32) (ks_189 : Nat → Int32) (os_190 : Nat → Int32) (ts_191 : Nat → Int32) (iq_192 : Nat → Int32) (mk_193 : Nat → Int32) (me_194 : Nat → Int32) => ((r_187 = 0 → post (upd gm_188 0 0) ks_189 os_190 ts_191 iq_192 mk_193 me_194) ∧ (¬ (r_187 = 0) → (wp_X3_signed E (fun r_196 : Int32 => (wp_X3_signed E (fun r_197 : Int32 => post (upd (upd (upd (upd gm_188 0 0) 8 (gm_188 1)) 9 r_196) 10 r_197) ks_189 os_190 ts_191 iq_192 mk_193 me_194) p0)) (gm_188 2))))) gm ks os ts iq mk me (gm 1) r_185 r_186)) p0)) (gm 2))))))
set_option maxHeartbeats 4000000 in
set_option maxRecDepth 100000 in
theorem c_X3_isWhole (E : EV) (l : Launch) (am : Nat → Nat) (gm : Nat → Int32) (ks : Nat → Int32) (os : Nat → Int32) (ts : Nat → Int32) (iq : Nat → Int32) (mk : Nat → Int32) (me : Nat → Int32) (p0 : Int32) (hz : Nat) (post : (Nat → Int32) → (Nat → Int32) → (Nat → Int32) → (Nat → Int32) → (Nat → Int32) → (Nat → Int32) → (Nat → Int32) → Prop) (hw : wp_X3_isWhole E post gm ks os ts iq mk me p0) : Met l yX3_isWhole (Cond.code yX3_isWhole cX3_isWhole 2 none :: ALLW) ({ frames := 5, cells := 0, slots := 0, locals := 113 } : Room) (va_Pc [.ref (am 0), .int p0] (preM E (wM E am gm ks os ts iq mk me) hz)) (va_Qv (fun (u : (Nat → Int32) × (Nat → Int32) × (Nat → Int32) × (Nat → Int32) × (Nat → Int32) × (Nat → Int32) × (Nat → Int32)) => post u.1 u.2.1 u.2.2.1 u.2.2.2.1 u.2.2.2.2.1 u.2.2.2.2.2.1 u.2.2.2.2.2.2) (fun (u : (Nat → Int32) × (Nat → Int32) × (Nat → Int32) × (Nat → Int32) × (Nat → Int32) × (Nat → Int32) × (Nat → Int32)) t => va_P (eD E) vwCl (wM E am u.1 u.2.1 u.2.2.1 u.2.2.2.1 u.2.2.2.2.1 u.2.2.2.2.2.1 u.2.2.2.2.2.2) t.heap ∧ va_D (va_A (wM E am gm ks os ts iq mk me) hz) (wM E am u.1 u.2.1 u.2.2.1 u.2.2.2.1 u.2.2.2.2.1 u.2.2.2.2.2.1 u.2.2.2.2.2.2)) (va_A (wM E am gm ks os ts iq mk me) hz)) 0 0 (va_A (wM E am gm ks os ts iq mk me) hz) := by
  refine Met.ofW (cc := cX3_isWhole) (maxL := 2) (ret := none) (by decide) rfl ?_
  intro p e s m args below meth c s₁ B hml hv
  obtain ⟨rfl, hpre⟩ := hv
  have hx := B.exec
  have hb := B.bytes
  have hr := B.returns
  have hlocks := B.notSynchronized
  have hts := atoms_spec (ws := (Cond.code yX3_isWhole cX3_isWhole 2 none :: ALLW)) B.pre
  have hta : ∀ w ∈ ALLW, w.before ([.ref (am 0), .int p0] : List Value).toArray s = true := fun w h => hts w (List.mem_cons_of_mem _ h)
  have hown : s.vm.findClass RX3 = some m.cls := findClass_of_methodNamed B.named
  obtain ⟨hsz, hP, hKE, hD0, hZ⟩ := hpre
  subst hsz
  have hD := hD0.self (sz := s.heap.size)
  generalize hAe : va_A (wM E am gm ks os ts iq mk me) s.heap.size = A at hD hZ ⊢
  have hA : ∀ q : Nat, s.heap.size ≤ q → A q := fun q h => by rw [← hAe]; exact Or.inr h
  have hS : va_S A s.heap s.heap [] := va_S.rf
  have hP : va_P (eD E) vwCl [((am 0), .inr (4, [.int (gm 0), .int (gm 1), .int (gm 2), .int (gm 3), .int (gm 4), .ref (am 1), .ref (am 2), .ref (am 3), .int (gm 8), .int (gm 9), .int (gm 10), .int (gm 11), .int (gm 12), .int (gm 13), .int (gm 14), .int (gm 15), .int (gm 16), .int (gm 17), .int (gm 18), .int (gm 19), .int (gm 20), .ref (am 4), .int (gm 22), .int (gm 23), .ref (am 5), .ref (am 6), .int (gm 26)])), ((am 1), .inl (eC E 0, 32, .inl ks)), ((am 2), .inl (eC E 0, 32, .inl os)), ((am 3), .inl (eC E 0, 32, .inl ts)), ((am 4), .inl (eC E 0, 3, .inl iq)), ((am 5), .inl (eC E 0, 320, .inl mk)), ((am 6), .inl (eC E 0, 320, .inl me))] s.heap := hP
  have hD : va_D A [((am 0), .inr (4, [.int (gm 0), .int (gm 1), .int (gm 2), .int (gm 3), .int (gm 4), .ref (am 1), .ref (am 2), .ref (am 3), .int (gm 8), .int (gm 9), .int (gm 10), .int (gm 11), .int (gm 12), .int (gm 13), .int (gm 14), .int (gm 15), .int (gm 16), .int (gm 17), .int (gm 18), .int (gm 19), .int (gm 20), .ref (am 4), .int (gm 22), .int (gm 23), .ref (am 5), .ref (am 6), .int (gm 26)])), ((am 1), .inl (eC E 0, 32, .inl ks)), ((am 2), .inl (eC E 0, 32, .inl os)), ((am 3), .inl (eC E 0, 32, .inl ts)), ((am 4), .inl (eC E 0, 3, .inl iq)), ((am 5), .inl (eC E 0, 320, .inl mk)), ((am 6), .inl (eC E 0, 320, .inl me))] := hD
  have hl := lv_entry ([.ref (am 0), .int p0]) (n := 2) (Nat.le_of_ble_eq_true rfl)
  rw [lg_entry_eq]
  generalize (lg_sl ([.ref (am 0), .int p0]) ++ List.replicate (2 - (lg_sl ([.ref (am 0), .int p0])).length) Slot.unset).toArray = ls at hl ⊢
  have hl : lv_has ls 2 [(0, .ref (am 0)), (1, .int p0)] := hl
  unfold wp_X3_isWhole at hw
  refine lv_aload_n hx hb dX3_isWhole_0 rfl (lv_at hl 0 rfl) ?_
  refine va_get (D := eD E) (ci := 4) (v := .int (gm 1)) (C := RX3) (T := TX3) (N := 27) hx hb hta lay_X3 hown hKE.1 hP 0 rfl rfl 1 (by decide) (hta _ tw_555) (fun _ h9 => h9) rfl dX3_isWhole_1 ?_
  refine lv_iconst (v := 4) hx hb dX3_isWhole_4 (by decide) ?_
  refine lv_icmp_ne (tgt := 16) hx hb dX3_isWhole_5 (by decide) (fun c_183 => ?_) (fun c_183 => ?_)
  · have hw := hw.2 c_183
    refine lv_aload_n hx hb dX3_isWhole_16 rfl (lv_at hl 0 rfl) ?_
    refine va_get (D := eD E) (ci := 4) (v := .int (gm 1)) (C := RX3) (T := TX3) (N := 27) hx hb hta lay_X3 hown hKE.1 hP 0 rfl rfl 1 (by decide) (hta _ tw_555) (fun _ h9 => h9) rfl dX3_isWhole_17 ?_
    refine lv_iconst (v := 3) hx hb dX3_isWhole_20 (by decide) ?_
    refine lv_icmp_ne (tgt := 35) hx hb dX3_isWhole_21 (by decide) (fun c_184 => ?_) (fun c_184 => ?_)
    · have hw := hw.2 c_184
      refine lv_aload_n hx hb dX3_isWhole_35 rfl (lv_at hl 0 rfl) ?_
      refine lv_aload_n hx hb dX3_isWhole_36 rfl (lv_at hl 0 rfl) ?_
      refine va_get (D := eD E) (ci := 4) (v := .int (gm 1)) (C := RX3) (T := TX3) (N := 27) hx hb hta lay_X3 hown hKE.1 hP 0 rfl rfl 1 (by decide) (hta _ tw_555) (fun _ h9 => h9) rfl dX3_isWhole_37 ?_
      refine lv_aload_n hx hb dX3_isWhole_40 rfl (lv_at hl 0 rfl) ?_
      refine va_get (D := eD E) (ci := 4) (v := .int (gm 2)) (C := RX3) (T := TX3) (N := 27) hx hb hta lay_X3 hown hKE.1 hP 0 rfl rfl 2 (by decide) (hta _ tw_556) (fun _ h9 => h9) rfl dX3_isWhole_41 ?_
      have hPc : va_P (eD E) vwCl [] s.heap := va_P_nil
      refine vp_callSi (va_Run.run (va_runS (As := [.int (gm 2)]) (rest := [.int (gm 1), .ref (am 0)]) ⟨hx, hb, hml, hown, hta⟩ (c_X3_signed E l (gm 2) _ hw) (pcS (n := 1) hta tw_678 tw_676 tw_6 tw_677 rfl rfl hd_X3_signed ⟨Nat.le_of_ble_eq_true rfl, Nat.le_of_ble_eq_true rfl⟩) ⟨fbR, fun U hU hW => ⟨rfl, preR.mk hPc hKE hU hW⟩⟩ rfl rfl hl.1 rfl (lv_room (Nat.le_of_ble_eq_true rfl)) dX3_isWhole_44 ⟨Nat.le_of_ble_eq_true rfl, Nat.le_of_ble_eq_true rfl⟩)) (fun r_185 hw => ?_)
      refine lv_iload_n hx hb dX3_isWhole_47 rfl (lv_at hl 1 rfl) ?_
      have hPc : va_P (eD E) vwCl [] s.heap := va_P_nil
      refine vp_callSi (va_Run.run (va_runS (As := [.int p0]) (rest := [.int r_185, .int (gm 1), .ref (am 0)]) ⟨hx, hb, hml, hown, hta⟩ (c_X3_signed E l p0 _ hw) (pcS (n := 1) hta tw_678 tw_676 tw_6 tw_677 rfl rfl hd_X3_signed ⟨Nat.le_of_ble_eq_true rfl, Nat.le_of_ble_eq_true rfl⟩) ⟨fbR, fun U hU hW => ⟨rfl, preR.mk hPc hKE hU hW⟩⟩ rfl rfl hl.1 rfl (lv_room (Nat.le_of_ble_eq_true rfl)) dX3_isWhole_48 ⟨Nat.le_of_ble_eq_true rfl, Nat.le_of_ble_eq_true rfl⟩)) (fun r_186 hw => ?_)
      have hPc : va_P (eD E) vwCl (wM E am gm ks os ts iq mk me) s.heap := hP
      have hDc : va_D A (wM E am gm ks os ts iq mk me) := hD
      have hFc : ∀ q, va_A (wM E am gm ks os ts iq mk me) s.heap.size q → A q := frS hDc hS hA
      refine va_calli (va_runV (As := [.int (gm 1), .int r_185, .int r_186]) (rest := []) ⟨hx, hb, hml, hown, hta⟩ (c_X3_queues E l am gm ks os ts iq mk me (gm 1) r_185 r_186 s.heap.size _ hw) (pcV (n := 3) hta tw_662 tw_659 tw_6 tw_661 tp_35 rfl rfl hd_X3_queues ⟨Nat.le_of_ble_eq_true rfl, Nat.le_of_ble_eq_true rfl⟩) ⟨fbM, va_recv hKE.1 hP (ci := 4) (q0 := 0) rfl rfl, fun U hU hW => ⟨rfl, preM.mk hPc hKE hDc hZ hS hFc hU hW⟩⟩ rfl rfl hl.1 rfl (lv_room (Nat.le_of_ble_eq_true rfl)) dX3_isWhole_51 ⟨Nat.le_of_ble_eq_true rfl, Nat.le_of_ble_eq_true rfl⟩) hS (fun q _ h => hFc q h) hFc (fun r_187 u t H locs ht hvm hw hB hz1 hk1 hS => ?_)
      obtain ⟨gm_188, ks_189, os_190, ts_191, iq_192, mk_193, me_194⟩ := u
      obtain ⟨hP1, hD1⟩ := hB
      rw [ht] at hP1
      try dsimp only at hw hP1 hD1
      have hP : va_P (eD E) vwCl [((am 0), .inr (4, [.int (gm_188 0), .int (gm_188 1), .int (gm_188 2), .int (gm_188 3), .int (gm_188 4), .ref (am 1), .ref (am 2), .ref (am 3), .int (gm_188 8), .int (gm_188 9), .int (gm_188 10), .int (gm_188 11), .int (gm_188 12), .int (gm_188 13), .int (gm_188 14), .int (gm_188 15), .int (gm_188 16), .int (gm_188 17), .int (gm_188 18), .int (gm_188 19), .int (gm_188 20), .ref (am 4), .int (gm_188 22), .int (gm_188 23), .ref (am 5), .ref (am 6), .int (gm_188 26)])), ((am 1), .inl (eC E 0, 32, .inl ks_189)), ((am 2), .inl (eC E 0, 32, .inl os_190)), ((am 3), .inl (eC E 0, 32, .inl ts_191)), ((am 4), .inl (eC E 0, 3, .inl iq_192)), ((am 5), .inl (eC E 0, 320, .inl mk_193)), ((am 6), .inl (eC E 0, 320, .inl me_194))] H := hP1
      have hD : va_D A [((am 0), .inr (4, [.int (gm_188 0), .int (gm_188 1), .int (gm_188 2), .int (gm_188 3), .int (gm_188 4), .ref (am 1), .ref (am 2), .ref (am 3), .int (gm_188 8), .int (gm_188 9), .int (gm_188 10), .int (gm_188 11), .int (gm_188 12), .int (gm_188 13), .int (gm_188 14), .int (gm_188 15), .int (gm_188 16), .int (gm_188 17), .int (gm_188 18), .int (gm_188 19), .int (gm_188 20), .ref (am 4), .int (gm_188 22), .int (gm_188 23), .ref (am 5), .ref (am 6), .int (gm_188 26)])), ((am 1), .inl (eC E 0, 32, .inl ks_189)), ((am 2), .inl (eC E 0, 32, .inl os_190)), ((am 3), .inl (eC E 0, 32, .inl ts_191)), ((am 4), .inl (eC E 0, 3, .inl iq_192)), ((am 5), .inl (eC E 0, 320, .inl mk_193)), ((am 6), .inl (eC E 0, 320, .inl me_194))] := hD1.weaken (fun _ q _ h => hFc q.1 h)
      refine lv_if_eq (tgt := 84) hx hb dX3_isWhole_54 (by decide) (fun c_195 => ?_) (fun c_195 => ?_)
      · have hw := hw.1 c_195
        refine lv_aload_n hx hb dX3_isWhole_84 rfl (lv_at hl 0 rfl) ?_
        refine lv_iconst (v := 0) hx hb dX3_isWhole_85 (by decide) ?_
        refine va_put (D := eD E) (ci := 4) (v := .int 0) (ty := .int) (C := RX3) (T := TX3) (N := 27) hx hb hta lay_X3 tyX3 tyX3_ok nmX3 hown hKE.1 hP hD hS 0 rfl rfl 0 (by decide) (hta _ tw_554) (fun _ h9 => h9) rfl (by decide +kernel) rfl rfl (Nat.le_of_ble_eq_true rfl) dX3_isWhole_86 (fun H locs hP hD hS => ?_)
        have hP : va_P (eD E) vwCl [((am 0), .inr (4, [.int 0, .int (gm_188 1), .int (gm_188 2), .int (gm_188 3), .int (gm_188 4), .ref (am 1), .ref (am 2), .ref (am 3), .int (gm_188 8), .int (gm_188 9), .int (gm_188 10), .int (gm_188 11), .int (gm_188 12), .int (gm_188 13), .int (gm_188 14), .int (gm_188 15), .int (gm_188 16), .int (gm_188 17), .int (gm_188 18), .int (gm_188 19), .int (gm_188 20), .ref (am 4), .int (gm_188 22), .int (gm_188 23), .ref (am 5), .ref (am 6), .int (gm_188 26)])), ((am 1), .inl (eC E 0, 32, .inl ks_189)), ((am 2), .inl (eC E 0, 32, .inl os_190)), ((am 3), .inl (eC E 0, 32, .inl ts_191)), ((am 4), .inl (eC E 0, 3, .inl iq_192)), ((am 5), .inl (eC E 0, 320, .inl mk_193)), ((am 6), .inl (eC E 0, 320, .inl me_194))] H := hP
        have hD : va_D A [((am 0), .inr (4, [.int 0, .int (gm_188 1), .int (gm_188 2), .int (gm_188 3), .int (gm_188 4), .ref (am 1), .ref (am 2), .ref (am 3), .int (gm_188 8), .int (gm_188 9), .int (gm_188 10), .int (gm_188 11), .int (gm_188 12), .int (gm_188 13), .int (gm_188 14), .int (gm_188 15), .int (gm_188 16), .int (gm_188 17), .int (gm_188 18), .int (gm_188 19), .int (gm_188 20), .ref (am 4), .int (gm_188 22), .int (gm_188 23), .ref (am 5), .ref (am 6), .int (gm_188 26)])), ((am 1), .inl (eC E 0, 32, .inl ks_189)), ((am 2), .inl (eC E 0, 32, .inl os_190)), ((am 3), .inl (eC E 0, 32, .inl ts_191)), ((am 4), .inl (eC E 0, 3, .inl iq_192)), ((am 5), .inl (eC E 0, 320, .inl mk_193)), ((am 6), .inl (eC E 0, 320, .inl me_194))] := hD
        have hP9 : va_P (eD E) vwCl (wM E am (upd gm_188 0 0) ks_189 os_190 ts_191 iq_192 mk_193 me_194) H := hP
        have hD9 : va_D A (wM E am (upd gm_188 0 0) ks_189 os_190 ts_191 iq_192 mk_193 me_194) := hD
        exact W.vret hx hb hr (fun t ht hW => ⟨⟨((upd gm_188 0 0), ks_189, os_190, ts_191, iq_192, mk_193, me_194), rfl, hw, ⟨by rw [ht]; exact hP9, hD9⟩⟩, hS.F ht⟩) hS.2.2 dX3_isWhole_89
      · have hw := hw.2 c_195
        refine lv_aload_n hx hb dX3_isWhole_57 rfl (lv_at hl 0 rfl) ?_
        refine lv_aload_n hx hb dX3_isWhole_58 rfl (lv_at hl 0 rfl) ?_
        refine va_get (D := eD E) (ci := 4) (v := .int (gm_188 1)) (C := RX3) (T := TX3) (N := 27) hx hb hta lay_X3 hown hKE.1 hP 0 rfl rfl 1 (by decide) (hta _ tw_555) (fun _ h9 => h9) rfl dX3_isWhole_59 ?_
        refine va_put (D := eD E) (ci := 4) (v := .int (gm_188 1)) (ty := .int) (C := RX3) (T := TX3) (N := 27) hx hb hta lay_X3 tyX3 tyX3_ok nmX3 hown hKE.1 hP hD hS 0 rfl rfl 8 (by decide) (hta _ tw_562) (fun _ h9 => h9) rfl (by decide +kernel) rfl rfl (Nat.le_of_ble_eq_true rfl) dX3_isWhole_62 (fun H locs hP hD hS => ?_)
        have hP : va_P (eD E) vwCl [((am 0), .inr (4, [.int (gm_188 0), .int (gm_188 1), .int (gm_188 2), .int (gm_188 3), .int (gm_188 4), .ref (am 1), .ref (am 2), .ref (am 3), .int (gm_188 1), .int (gm_188 9), .int (gm_188 10), .int (gm_188 11), .int (gm_188 12), .int (gm_188 13), .int (gm_188 14), .int (gm_188 15), .int (gm_188 16), .int (gm_188 17), .int (gm_188 18), .int (gm_188 19), .int (gm_188 20), .ref (am 4), .int (gm_188 22), .int (gm_188 23), .ref (am 5), .ref (am 6), .int (gm_188 26)])), ((am 1), .inl (eC E 0, 32, .inl ks_189)), ((am 2), .inl (eC E 0, 32, .inl os_190)), ((am 3), .inl (eC E 0, 32, .inl ts_191)), ((am 4), .inl (eC E 0, 3, .inl iq_192)), ((am 5), .inl (eC E 0, 320, .inl mk_193)), ((am 6), .inl (eC E 0, 320, .inl me_194))] H := hP
        have hD : va_D A [((am 0), .inr (4, [.int (gm_188 0), .int (gm_188 1), .int (gm_188 2), .int (gm_188 3), .int (gm_188 4), .ref (am 1), .ref (am 2), .ref (am 3), .int (gm_188 1), .int (gm_188 9), .int (gm_188 10), .int (gm_188 11), .int (gm_188 12), .int (gm_188 13), .int (gm_188 14), .int (gm_188 15), .int (gm_188 16), .int (gm_188 17), .int (gm_188 18), .int (gm_188 19), .int (gm_188 20), .ref (am 4), .int (gm_188 22), .int (gm_188 23), .ref (am 5), .ref (am 6), .int (gm_188 26)])), ((am 1), .inl (eC E 0, 32, .inl ks_189)), ((am 2), .inl (eC E 0, 32, .inl os_190)), ((am 3), .inl (eC E 0, 32, .inl ts_191)), ((am 4), .inl (eC E 0, 3, .inl iq_192)), ((am 5), .inl (eC E 0, 320, .inl mk_193)), ((am 6), .inl (eC E 0, 320, .inl me_194))] := hD
        refine lv_aload_n hx hb dX3_isWhole_65 rfl (lv_at hl 0 rfl) ?_
        refine lv_aload_n hx hb dX3_isWhole_66 rfl (lv_at hl 0 rfl) ?_
        refine va_get (D := eD E) (ci := 4) (v := .int (gm_188 2)) (C := RX3) (T := TX3) (N := 27) hx hb hta lay_X3 hown hKE.1 hP 0 rfl rfl 2 (by decide) (hta _ tw_556) (fun _ h9 => h9) rfl dX3_isWhole_67 ?_
        have hPc : va_P (eD E) vwCl [] H := va_P_nil
        refine vp_callSi (va_Run.run (va_runS (As := [.int (gm_188 2)]) (rest := [.ref (am 0)]) ⟨hx, hb, hml, hown, hta⟩ (c_X3_signed E l (gm_188 2) _ hw) (pcS (n := 1) hta tw_678 tw_676 tw_6 tw_677 rfl rfl hd_X3_signed ⟨Nat.le_of_ble_eq_true rfl, Nat.le_of_ble_eq_true rfl⟩) ⟨fbR, fun U hU hW => ⟨rfl, preR.mk hPc hKE hU hW⟩⟩ rfl rfl hl.1 rfl (lv_room (Nat.le_of_ble_eq_true rfl)) dX3_isWhole_70 ⟨Nat.le_of_ble_eq_true rfl, Nat.le_of_ble_eq_true rfl⟩)) (fun r_196 hw => ?_)
        refine va_put (D := eD E) (ci := 4) (v := .int r_196) (ty := .int) (C := RX3) (T := TX3) (N := 27) hx hb hta lay_X3 tyX3 tyX3_ok nmX3 hown hKE.1 hP hD hS 0 rfl rfl 9 (by decide) (hta _ tw_563) (fun _ h9 => h9) rfl (by decide +kernel) rfl rfl (Nat.le_of_ble_eq_true rfl) dX3_isWhole_73 (fun H locs hP hD hS => ?_)
        have hP : va_P (eD E) vwCl [((am 0), .inr (4, [.int (gm_188 0), .int (gm_188 1), .int (gm_188 2), .int (gm_188 3), .int (gm_188 4), .ref (am 1), .ref (am 2), .ref (am 3), .int (gm_188 1), .int r_196, .int (gm_188 10), .int (gm_188 11), .int (gm_188 12), .int (gm_188 13), .int (gm_188 14), .int (gm_188 15), .int (gm_188 16), .int (gm_188 17), .int (gm_188 18), .int (gm_188 19), .int (gm_188 20), .ref (am 4), .int (gm_188 22), .int (gm_188 23), .ref (am 5), .ref (am 6), .int (gm_188 26)])), ((am 1), .inl (eC E 0, 32, .inl ks_189)), ((am 2), .inl (eC E 0, 32, .inl os_190)), ((am 3), .inl (eC E 0, 32, .inl ts_191)), ((am 4), .inl (eC E 0, 3, .inl iq_192)), ((am 5), .inl (eC E 0, 320, .inl mk_193)), ((am 6), .inl (eC E 0, 320, .inl me_194))] H := hP
        have hD : va_D A [((am 0), .inr (4, [.int (gm_188 0), .int (gm_188 1), .int (gm_188 2), .int (gm_188 3), .int (gm_188 4), .ref (am 1), .ref (am 2), .ref (am 3), .int (gm_188 1), .int r_196, .int (gm_188 10), .int (gm_188 11), .int (gm_188 12), .int (gm_188 13), .int (gm_188 14), .int (gm_188 15), .int (gm_188 16), .int (gm_188 17), .int (gm_188 18), .int (gm_188 19), .int (gm_188 20), .ref (am 4), .int (gm_188 22), .int (gm_188 23), .ref (am 5), .ref (am 6), .int (gm_188 26)])), ((am 1), .inl (eC E 0, 32, .inl ks_189)), ((am 2), .inl (eC E 0, 32, .inl os_190)), ((am 3), .inl (eC E 0, 32, .inl ts_191)), ((am 4), .inl (eC E 0, 3, .inl iq_192)), ((am 5), .inl (eC E 0, 320, .inl mk_193)), ((am 6), .inl (eC E 0, 320, .inl me_194))] := hD
        refine lv_aload_n hx hb dX3_isWhole_76 rfl (lv_at hl 0 rfl) ?_
        refine lv_iload_n hx hb dX3_isWhole_77 rfl (lv_at hl 1 rfl) ?_
        have hPc : va_P (eD E) vwCl [] H := va_P_nil
        refine vp_callSi (va_Run.run (va_runS (As := [.int p0]) (rest := [.ref (am 0)]) ⟨hx, hb, hml, hown, hta⟩ (c_X3_signed E l p0 _ hw) (pcS (n := 1) hta tw_678 tw_676 tw_6 tw_677 rfl rfl hd_X3_signed ⟨Nat.le_of_ble_eq_true rfl, Nat.le_of_ble_eq_true rfl⟩) ⟨fbR, fun U hU hW => ⟨rfl, preR.mk hPc hKE hU hW⟩⟩ rfl rfl hl.1 rfl (lv_room (Nat.le_of_ble_eq_true rfl)) dX3_isWhole_78 ⟨Nat.le_of_ble_eq_true rfl, Nat.le_of_ble_eq_true rfl⟩)) (fun r_197 hw => ?_)
        refine va_put (D := eD E) (ci := 4) (v := .int r_197) (ty := .int) (C := RX3) (T := TX3) (N := 27) hx hb hta lay_X3 tyX3 tyX3_ok nmX3 hown hKE.1 hP hD hS 0 rfl rfl 10 (by decide) (hta _ tw_564) (fun _ h9 => h9) rfl (by decide +kernel) rfl rfl (Nat.le_of_ble_eq_true rfl) dX3_isWhole_81 (fun H locs hP hD hS => ?_)
        have hP : va_P (eD E) vwCl [((am 0), .inr (4, [.int (gm_188 0), .int (gm_188 1), .int (gm_188 2), .int (gm_188 3), .int (gm_188 4), .ref (am 1), .ref (am 2), .ref (am 3), .int (gm_188 1), .int r_196, .int r_197, .int (gm_188 11), .int (gm_188 12), .int (gm_188 13), .int (gm_188 14), .int (gm_188 15), .int (gm_188 16), .int (gm_188 17), .int (gm_188 18), .int (gm_188 19), .int (gm_188 20), .ref (am 4), .int (gm_188 22), .int (gm_188 23), .ref (am 5), .ref (am 6), .int (gm_188 26)])), ((am 1), .inl (eC E 0, 32, .inl ks_189)), ((am 2), .inl (eC E 0, 32, .inl os_190)), ((am 3), .inl (eC E 0, 32, .inl ts_191)), ((am 4), .inl (eC E 0, 3, .inl iq_192)), ((am 5), .inl (eC E 0, 320, .inl mk_193)), ((am 6), .inl (eC E 0, 320, .inl me_194))] H := hP
        have hD : va_D A [((am 0), .inr (4, [.int (gm_188 0), .int (gm_188 1), .int (gm_188 2), .int (gm_188 3), .int (gm_188 4), .ref (am 1), .ref (am 2), .ref (am 3), .int (gm_188 1), .int r_196, .int r_197, .int (gm_188 11), .int (gm_188 12), .int (gm_188 13), .int (gm_188 14), .int (gm_188 15), .int (gm_188 16), .int (gm_188 17), .int (gm_188 18), .int (gm_188 19), .int (gm_188 20), .ref (am 4), .int (gm_188 22), .int (gm_188 23), .ref (am 5), .ref (am 6), .int (gm_188 26)])), ((am 1), .inl (eC E 0, 32, .inl ks_189)), ((am 2), .inl (eC E 0, 32, .inl os_190)), ((am 3), .inl (eC E 0, 32, .inl ts_191)), ((am 4), .inl (eC E 0, 3, .inl iq_192)), ((am 5), .inl (eC E 0, 320, .inl mk_193)), ((am 6), .inl (eC E 0, 320, .inl me_194))] := hD
        refine lv_aload_n hx hb dX3_isWhole_84 rfl (lv_at hl 0 rfl) ?_
        refine lv_iconst (v := 0) hx hb dX3_isWhole_85 (by decide) ?_
        refine va_put (D := eD E) (ci := 4) (v := .int 0) (ty := .int) (C := RX3) (T := TX3) (N := 27) hx hb hta lay_X3 tyX3 tyX3_ok nmX3 hown hKE.1 hP hD hS 0 rfl rfl 0 (by decide) (hta _ tw_554) (fun _ h9 => h9) rfl (by decide +kernel) rfl rfl (Nat.le_of_ble_eq_true rfl) dX3_isWhole_86 (fun H locs hP hD hS => ?_)
        have hP : va_P (eD E) vwCl [((am 0), .inr (4, [.int 0, .int (gm_188 1), .int (gm_188 2), .int (gm_188 3), .int (gm_188 4), .ref (am 1), .ref (am 2), .ref (am 3), .int (gm_188 1), .int r_196, .int r_197, .int (gm_188 11), .int (gm_188 12), .int (gm_188 13), .int (gm_188 14), .int (gm_188 15), .int (gm_188 16), .int (gm_188 17), .int (gm_188 18), .int (gm_188 19), .int (gm_188 20), .ref (am 4), .int (gm_188 22), .int (gm_188 23), .ref (am 5), .ref (am 6), .int (gm_188 26)])), ((am 1), .inl (eC E 0, 32, .inl ks_189)), ((am 2), .inl (eC E 0, 32, .inl os_190)), ((am 3), .inl (eC E 0, 32, .inl ts_191)), ((am 4), .inl (eC E 0, 3, .inl iq_192)), ((am 5), .inl (eC E 0, 320, .inl mk_193)), ((am 6), .inl (eC E 0, 320, .inl me_194))] H := hP
        have hD : va_D A [((am 0), .inr (4, [.int 0, .int (gm_188 1), .int (gm_188 2), .int (gm_188 3), .int (gm_188 4), .ref (am 1), .ref (am 2), .ref (am 3), .int (gm_188 1), .int r_196, .int r_197, .int (gm_188 11), .int (gm_188 12), .int (gm_188 13), .int (gm_188 14), .int (gm_188 15), .int (gm_188 16), .int (gm_188 17), .int (gm_188 18), .int (gm_188 19), .int (gm_188 20), .ref (am 4), .int (gm_188 22), .int (gm_188 23), .ref (am 5), .ref (am 6), .int (gm_188 26)])), ((am 1), .inl (eC E 0, 32, .inl ks_189)), ((am 2), .inl (eC E 0, 32, .inl os_190)), ((am 3), .inl (eC E 0, 32, .inl ts_191)), ((am 4), .inl (eC E 0, 3, .inl iq_192)), ((am 5), .inl (eC E 0, 320, .inl mk_193)), ((am 6), .inl (eC E 0, 320, .inl me_194))] := hD
        have hP9 : va_P (eD E) vwCl (wM E am (upd (upd (upd (upd gm_188 0 0) 8 (gm_188 1)) 9 r_196) 10 r_197) ks_189 os_190 ts_191 iq_192 mk_193 me_194) H := hP
        have hD9 : va_D A (wM E am (upd (upd (upd (upd gm_188 0 0) 8 (gm_188 1)) 9 r_196) 10 r_197) ks_189 os_190 ts_191 iq_192 mk_193 me_194) := hD
        exact W.vret hx hb hr (fun t ht hW => ⟨⟨((upd (upd (upd (upd gm_188 0 0) 8 (gm_188 1)) 9 r_196) 10 r_197), ks_189, os_190, ts_191, iq_192, mk_193, me_194), rfl, hw, ⟨by rw [ht]; exact hP9, hD9⟩⟩, hS.F ht⟩) hS.2.2 dX3_isWhole_89
    · have hw := hw.1 c_184
      refine lv_aload_n hx hb dX3_isWhole_24 rfl (lv_at hl 0 rfl) ?_
      refine lv_iconst (v := 3) hx hb dX3_isWhole_25 (by decide) ?_
      refine lv_iload_n hx hb dX3_isWhole_26 rfl (lv_at hl 1 rfl) ?_
      refine lv_iconst (v := 0) hx hb dX3_isWhole_27 (by decide) ?_
      have hPc : va_P (eD E) vwCl (wM E am gm ks os ts iq mk me) s.heap := hP
      have hDc : va_D A (wM E am gm ks os ts iq mk me) := hD
      have hFc : ∀ q, va_A (wM E am gm ks os ts iq mk me) s.heap.size q → A q := frS hDc hS hA
      refine va_calli (va_runV (As := [.int 3, .int p0, .int 0]) (rest := []) ⟨hx, hb, hml, hown, hta⟩ (c_X3_queues E l am gm ks os ts iq mk me 3 p0 0 s.heap.size _ hw) (pcV (n := 3) hta tw_662 tw_659 tw_6 tw_661 tp_35 rfl rfl hd_X3_queues ⟨Nat.le_of_ble_eq_true rfl, Nat.le_of_ble_eq_true rfl⟩) ⟨fbM, va_recv hKE.1 hP (ci := 4) (q0 := 0) rfl rfl, fun U hU hW => ⟨rfl, preM.mk hPc hKE hDc hZ hS hFc hU hW⟩⟩ rfl rfl hl.1 rfl (lv_room (Nat.le_of_ble_eq_true rfl)) dX3_isWhole_28 ⟨Nat.le_of_ble_eq_true rfl, Nat.le_of_ble_eq_true rfl⟩) hS (fun q _ h => hFc q h) hFc (fun r_198 u t H locs ht hvm hw hB hz1 hk1 hS => ?_)
      obtain ⟨gm_199, ks_200, os_201, ts_202, iq_203, mk_204, me_205⟩ := u
      obtain ⟨hP1, hD1⟩ := hB
      rw [ht] at hP1
      try dsimp only at hw hP1 hD1
      have hP : va_P (eD E) vwCl [((am 0), .inr (4, [.int (gm_199 0), .int (gm_199 1), .int (gm_199 2), .int (gm_199 3), .int (gm_199 4), .ref (am 1), .ref (am 2), .ref (am 3), .int (gm_199 8), .int (gm_199 9), .int (gm_199 10), .int (gm_199 11), .int (gm_199 12), .int (gm_199 13), .int (gm_199 14), .int (gm_199 15), .int (gm_199 16), .int (gm_199 17), .int (gm_199 18), .int (gm_199 19), .int (gm_199 20), .ref (am 4), .int (gm_199 22), .int (gm_199 23), .ref (am 5), .ref (am 6), .int (gm_199 26)])), ((am 1), .inl (eC E 0, 32, .inl ks_200)), ((am 2), .inl (eC E 0, 32, .inl os_201)), ((am 3), .inl (eC E 0, 32, .inl ts_202)), ((am 4), .inl (eC E 0, 3, .inl iq_203)), ((am 5), .inl (eC E 0, 320, .inl mk_204)), ((am 6), .inl (eC E 0, 320, .inl me_205))] H := hP1
      have hD : va_D A [((am 0), .inr (4, [.int (gm_199 0), .int (gm_199 1), .int (gm_199 2), .int (gm_199 3), .int (gm_199 4), .ref (am 1), .ref (am 2), .ref (am 3), .int (gm_199 8), .int (gm_199 9), .int (gm_199 10), .int (gm_199 11), .int (gm_199 12), .int (gm_199 13), .int (gm_199 14), .int (gm_199 15), .int (gm_199 16), .int (gm_199 17), .int (gm_199 18), .int (gm_199 19), .int (gm_199 20), .ref (am 4), .int (gm_199 22), .int (gm_199 23), .ref (am 5), .ref (am 6), .int (gm_199 26)])), ((am 1), .inl (eC E 0, 32, .inl ks_200)), ((am 2), .inl (eC E 0, 32, .inl os_201)), ((am 3), .inl (eC E 0, 32, .inl ts_202)), ((am 4), .inl (eC E 0, 3, .inl iq_203)), ((am 5), .inl (eC E 0, 320, .inl mk_204)), ((am 6), .inl (eC E 0, 320, .inl me_205))] := hD1.weaken (fun _ q _ h => hFc q.1 h)
      refine lv_pop hx hb dX3_isWhole_31 rfl ?_
      refine lv_goto (tgt := 84) hx hb dX3_isWhole_32 (by decide) ?_
      refine lv_aload_n hx hb dX3_isWhole_84 rfl (lv_at hl 0 rfl) ?_
      refine lv_iconst (v := 0) hx hb dX3_isWhole_85 (by decide) ?_
      refine va_put (D := eD E) (ci := 4) (v := .int 0) (ty := .int) (C := RX3) (T := TX3) (N := 27) hx hb hta lay_X3 tyX3 tyX3_ok nmX3 hown hKE.1 hP hD hS 0 rfl rfl 0 (by decide) (hta _ tw_554) (fun _ h9 => h9) rfl (by decide +kernel) rfl rfl (Nat.le_of_ble_eq_true rfl) dX3_isWhole_86 (fun H locs hP hD hS => ?_)
      have hP : va_P (eD E) vwCl [((am 0), .inr (4, [.int 0, .int (gm_199 1), .int (gm_199 2), .int (gm_199 3), .int (gm_199 4), .ref (am 1), .ref (am 2), .ref (am 3), .int (gm_199 8), .int (gm_199 9), .int (gm_199 10), .int (gm_199 11), .int (gm_199 12), .int (gm_199 13), .int (gm_199 14), .int (gm_199 15), .int (gm_199 16), .int (gm_199 17), .int (gm_199 18), .int (gm_199 19), .int (gm_199 20), .ref (am 4), .int (gm_199 22), .int (gm_199 23), .ref (am 5), .ref (am 6), .int (gm_199 26)])), ((am 1), .inl (eC E 0, 32, .inl ks_200)), ((am 2), .inl (eC E 0, 32, .inl os_201)), ((am 3), .inl (eC E 0, 32, .inl ts_202)), ((am 4), .inl (eC E 0, 3, .inl iq_203)), ((am 5), .inl (eC E 0, 320, .inl mk_204)), ((am 6), .inl (eC E 0, 320, .inl me_205))] H := hP
      have hD : va_D A [((am 0), .inr (4, [.int 0, .int (gm_199 1), .int (gm_199 2), .int (gm_199 3), .int (gm_199 4), .ref (am 1), .ref (am 2), .ref (am 3), .int (gm_199 8), .int (gm_199 9), .int (gm_199 10), .int (gm_199 11), .int (gm_199 12), .int (gm_199 13), .int (gm_199 14), .int (gm_199 15), .int (gm_199 16), .int (gm_199 17), .int (gm_199 18), .int (gm_199 19), .int (gm_199 20), .ref (am 4), .int (gm_199 22), .int (gm_199 23), .ref (am 5), .ref (am 6), .int (gm_199 26)])), ((am 1), .inl (eC E 0, 32, .inl ks_200)), ((am 2), .inl (eC E 0, 32, .inl os_201)), ((am 3), .inl (eC E 0, 32, .inl ts_202)), ((am 4), .inl (eC E 0, 3, .inl iq_203)), ((am 5), .inl (eC E 0, 320, .inl mk_204)), ((am 6), .inl (eC E 0, 320, .inl me_205))] := hD
      have hP9 : va_P (eD E) vwCl (wM E am (upd gm_199 0 0) ks_200 os_201 ts_202 iq_203 mk_204 me_205) H := hP
      have hD9 : va_D A (wM E am (upd gm_199 0 0) ks_200 os_201 ts_202 iq_203 mk_204 me_205) := hD
      exact W.vret hx hb hr (fun t ht hW => ⟨⟨((upd gm_199 0 0), ks_200, os_201, ts_202, iq_203, mk_204, me_205), rfl, hw, ⟨by rw [ht]; exact hP9, hD9⟩⟩, hS.F ht⟩) hS.2.2 dX3_isWhole_89
  · have hw := hw.1 c_183
    refine lv_aload_n hx hb dX3_isWhole_8 rfl (lv_at hl 0 rfl) ?_
    refine lv_iload_n hx hb dX3_isWhole_9 rfl (lv_at hl 1 rfl) ?_
    have hPc : va_P (eD E) vwCl (wM E am gm ks os ts iq mk me) s.heap := hP
    have hDc : va_D A (wM E am gm ks os ts iq mk me) := hD
    have hFc : ∀ q, va_A (wM E am gm ks os ts iq mk me) s.heap.size q → A q := frS hDc hS hA
    refine va_callv (va_runV (As := [.int p0]) (rest := []) ⟨hx, hb, hml, hown, hta⟩ (c_X3_repeats E l am gm ks os ts iq mk me p0 s.heap.size _ hw) (pcV (n := 1) hta tw_658 tw_655 tw_6 tw_657 tp_34 rfl rfl hd_X3_repeats ⟨Nat.le_of_ble_eq_true rfl, Nat.le_of_ble_eq_true rfl⟩) ⟨fbM, va_recv hKE.1 hP (ci := 4) (q0 := 0) rfl rfl, fun U hU hW => ⟨rfl, preM.mk hPc hKE hDc hZ hS hFc hU hW⟩⟩ rfl rfl hl.1 rfl (lv_room (Nat.le_of_ble_eq_true rfl)) dX3_isWhole_10 ⟨Nat.le_of_ble_eq_true rfl, Nat.le_of_ble_eq_true rfl⟩) hS (fun q _ h => hFc q h) hFc (fun u t H locs ht hvm hw hB hz1 hk1 hS => ?_)
    obtain ⟨gm_207, ks_208, os_209, ts_210, iq_211, mk_212, me_213⟩ := u
    obtain ⟨hP1, hD1⟩ := hB
    rw [ht] at hP1
    try dsimp only at hw hP1 hD1
    have hP : va_P (eD E) vwCl [((am 0), .inr (4, [.int (gm_207 0), .int (gm_207 1), .int (gm_207 2), .int (gm_207 3), .int (gm_207 4), .ref (am 1), .ref (am 2), .ref (am 3), .int (gm_207 8), .int (gm_207 9), .int (gm_207 10), .int (gm_207 11), .int (gm_207 12), .int (gm_207 13), .int (gm_207 14), .int (gm_207 15), .int (gm_207 16), .int (gm_207 17), .int (gm_207 18), .int (gm_207 19), .int (gm_207 20), .ref (am 4), .int (gm_207 22), .int (gm_207 23), .ref (am 5), .ref (am 6), .int (gm_207 26)])), ((am 1), .inl (eC E 0, 32, .inl ks_208)), ((am 2), .inl (eC E 0, 32, .inl os_209)), ((am 3), .inl (eC E 0, 32, .inl ts_210)), ((am 4), .inl (eC E 0, 3, .inl iq_211)), ((am 5), .inl (eC E 0, 320, .inl mk_212)), ((am 6), .inl (eC E 0, 320, .inl me_213))] H := hP1
    have hD : va_D A [((am 0), .inr (4, [.int (gm_207 0), .int (gm_207 1), .int (gm_207 2), .int (gm_207 3), .int (gm_207 4), .ref (am 1), .ref (am 2), .ref (am 3), .int (gm_207 8), .int (gm_207 9), .int (gm_207 10), .int (gm_207 11), .int (gm_207 12), .int (gm_207 13), .int (gm_207 14), .int (gm_207 15), .int (gm_207 16), .int (gm_207 17), .int (gm_207 18), .int (gm_207 19), .int (gm_207 20), .ref (am 4), .int (gm_207 22), .int (gm_207 23), .ref (am 5), .ref (am 6), .int (gm_207 26)])), ((am 1), .inl (eC E 0, 32, .inl ks_208)), ((am 2), .inl (eC E 0, 32, .inl os_209)), ((am 3), .inl (eC E 0, 32, .inl ts_210)), ((am 4), .inl (eC E 0, 3, .inl iq_211)), ((am 5), .inl (eC E 0, 320, .inl mk_212)), ((am 6), .inl (eC E 0, 320, .inl me_213))] := hD1.weaken (fun _ q _ h => hFc q.1 h)
    refine lv_goto (tgt := 84) hx hb dX3_isWhole_13 (by decide) ?_
    refine lv_aload_n hx hb dX3_isWhole_84 rfl (lv_at hl 0 rfl) ?_
    refine lv_iconst (v := 0) hx hb dX3_isWhole_85 (by decide) ?_
    refine va_put (D := eD E) (ci := 4) (v := .int 0) (ty := .int) (C := RX3) (T := TX3) (N := 27) hx hb hta lay_X3 tyX3 tyX3_ok nmX3 hown hKE.1 hP hD hS 0 rfl rfl 0 (by decide) (hta _ tw_554) (fun _ h9 => h9) rfl (by decide +kernel) rfl rfl (Nat.le_of_ble_eq_true rfl) dX3_isWhole_86 (fun H locs hP hD hS => ?_)
    have hP : va_P (eD E) vwCl [((am 0), .inr (4, [.int 0, .int (gm_207 1), .int (gm_207 2), .int (gm_207 3), .int (gm_207 4), .ref (am 1), .ref (am 2), .ref (am 3), .int (gm_207 8), .int (gm_207 9), .int (gm_207 10), .int (gm_207 11), .int (gm_207 12), .int (gm_207 13), .int (gm_207 14), .int (gm_207 15), .int (gm_207 16), .int (gm_207 17), .int (gm_207 18), .int (gm_207 19), .int (gm_207 20), .ref (am 4), .int (gm_207 22), .int (gm_207 23), .ref (am 5), .ref (am 6), .int (gm_207 26)])), ((am 1), .inl (eC E 0, 32, .inl ks_208)), ((am 2), .inl (eC E 0, 32, .inl os_209)), ((am 3), .inl (eC E 0, 32, .inl ts_210)), ((am 4), .inl (eC E 0, 3, .inl iq_211)), ((am 5), .inl (eC E 0, 320, .inl mk_212)), ((am 6), .inl (eC E 0, 320, .inl me_213))] H := hP
    have hD : va_D A [((am 0), .inr (4, [.int 0, .int (gm_207 1), .int (gm_207 2), .int (gm_207 3), .int (gm_207 4), .ref (am 1), .ref (am 2), .ref (am 3), .int (gm_207 8), .int (gm_207 9), .int (gm_207 10), .int (gm_207 11), .int (gm_207 12), .int (gm_207 13), .int (gm_207 14), .int (gm_207 15), .int (gm_207 16), .int (gm_207 17), .int (gm_207 18), .int (gm_207 19), .int (gm_207 20), .ref (am 4), .int (gm_207 22), .int (gm_207 23), .ref (am 5), .ref (am 6), .int (gm_207 26)])), ((am 1), .inl (eC E 0, 32, .inl ks_208)), ((am 2), .inl (eC E 0, 32, .inl os_209)), ((am 3), .inl (eC E 0, 32, .inl ts_210)), ((am 4), .inl (eC E 0, 3, .inl iq_211)), ((am 5), .inl (eC E 0, 320, .inl mk_212)), ((am 6), .inl (eC E 0, 320, .inl me_213))] := hD
    have hP9 : va_P (eD E) vwCl (wM E am (upd gm_207 0 0) ks_208 os_209 ts_210 iq_211 mk_212 me_213) H := hP
    have hD9 : va_D A (wM E am (upd gm_207 0 0) ks_208 os_209 ts_210 iq_211 mk_212 me_213) := hD
    exact W.vret hx hb hr (fun t ht hW => ⟨⟨((upd gm_207 0 0), ks_208, os_209, ts_210, iq_211, mk_212, me_213), rfl, hw, ⟨by rw [ht]; exact hP9, hD9⟩⟩, hS.F ht⟩) hS.2.2 dX3_isWhole_89
