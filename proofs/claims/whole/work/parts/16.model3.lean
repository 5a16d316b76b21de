def wp_X3_isPen (E : EV) (post : Int32 → Prop) (p0 : Int32) : Prop := (wp_X3_isIn E (fun r_437 : Int32 => (narrow .boolean (.int r_437) = .int r_437 ∧ post r_437)) p0 0 2)
set_option maxHeartbeats 4000000 in
set_option maxRecDepth 100000 in
theorem c_X3_isPen (E : EV) (l : Launch) (p0 : Int32) (post : Int32 → Prop) (hw : wp_X3_isPen E post p0) : Met l yX3_isPen (Cond.code yX3_isPen cX3_isPen 1 (some .boolean) :: ALLW) ({ frames := 1, cells := 0, slots := 0, locals := 22 } : Room) (va_Pc [.int p0] (preR E ([]))) (vp_Si post) 0 0 (fun _ => False) := by
  refine Met.ofW (cc := cX3_isPen) (maxL := 1) (ret := (some .boolean)) (by decide) rfl ?_
  intro p e s m args below meth c s₁ B hml hv
  obtain ⟨rfl, hpre⟩ := hv
  have hx := B.exec
  have hb := B.bytes
  have hr := B.returns
  have hlocks := B.notSynchronized
  have hts := atoms_spec (ws := (Cond.code yX3_isPen cX3_isPen 1 (some .boolean) :: ALLW)) B.pre
  have hta : ∀ w ∈ ALLW, w.before ([.int p0] : List Value).toArray s = true := fun w h => hts w (List.mem_cons_of_mem _ h)
  have hown : s.vm.findClass RX3 = some m.cls := findClass_of_methodNamed B.named
  obtain ⟨hP, hKE⟩ := hpre
  have hP : va_P (eD E) vwCl [] s.heap := hP
  have hl := lv_entry ([.int p0]) (n := 1) (Nat.le_of_ble_eq_true rfl)
  rw [lg_entry_eq]
  generalize (lg_sl ([.int p0]) ++ List.replicate (1 - (lg_sl ([.int p0])).length) Slot.unset).toArray = ls at hl ⊢
  have hl : lv_has ls 1 [(0, .int p0)] := hl
  unfold wp_X3_isPen at hw
  refine lv_iload_n hx hb dX3_isPen_0 rfl (lv_at hl 0 rfl) ?_
  refine lv_iconst (v := 0) hx hb dX3_isPen_1 (by decide) ?_
  refine lv_iconst (v := 2) hx hb dX3_isPen_2 (by decide) ?_
  have hPc : va_P (eD E) vwCl [] s.heap := va_P_nil
  refine vp_callSi (va_Run.run (va_runS (As := [.int p0, .int 0, .int 2]) (rest := []) ⟨hx, hb, hml, hown, hta⟩ (c_X3_isIn E l p0 0 2 _ hw) (pcS (n := 3) hta tw_646 tw_644 tw_6 tw_645 rfl rfl hd_X3_isIn ⟨Nat.le_of_ble_eq_true rfl, Nat.le_of_ble_eq_true rfl⟩) ⟨fbR, fun U hU hW => ⟨rfl, preR.mk hPc hKE hU hW⟩⟩ rfl rfl hl.1 rfl (lv_room (Nat.le_of_ble_eq_true rfl)) dX3_isPen_3 ⟨Nat.le_of_ble_eq_true rfl, Nat.le_of_ble_eq_true rfl⟩)) (fun r_437 hw => ?_)
  obtain ⟨hn_438, hw⟩ := hw
  exact W.zret (v := r_437) hx hb hr hn_438 (fun t ht hW => ⟨r_437, rfl, hw, ht⟩) (fun q hq => nomatch hq) dX3_isPen_6
def wp_X3_cut (E : EV) (post : Int32 → (Nat → Int32) → (Nat → Int32) → (Nat → Int32) → (Nat → Int32) → (Nat → Int32) → (Nat → Int32) → (Nat → Int32) → Prop) (gm : Nat → Int32) (ks : Nat → Int32) (os : Nat → Int32) (ts : Nat → Int32) (iq : Nat → Int32) (mk : Nat → Int32) (me : Nat → Int32) : Prop := (((gm 4) ≤ 0 → post ((gm 13) - (gm 13) / 10 * 10) (upd (upd (upd (upd (upd gm 0 0) 13 ((gm 13) - ((gm 13) - (gm 13) / 10 * 10))) 14 0) 19 0) 26 0) ks os ts iq mk me) ∧ (¬ (gm 4) ≤ 0 → (((ks (0 : Int32).toNatClampNeg) = 3 → post ((gm 13) - (gm 13) / 10 * 10) (upd (upd (upd (upd (upd gm 0 0) 13 ((gm 13) - ((gm 13) - (gm 13) / 10 * 10))) 14 0) 19 0) 26 0) ks os ts iq mk me) ∧ (¬ (ks (0 : Int32).toNatClampNeg) = 3 → (wp_X3_goesTo E (fun (gm_442 : Nat → Int32) (ks_443 : Nat → Int32) (os_444 : Nat → Int32) (ts_445 : Nat → Int32) (iq_446 : Nat → Int32) (mk_447 : Nat → Int32) (me_448 : Nat → Int32) => post ((gm 13) - (gm 13) / 10 * 10) (upd (upd (upd gm_442 0 0) 14 0) 19 0) ks_443 os_444 ts_445 iq_446 mk_447 me_448) (upd (upd gm 13 ((gm 13) - ((gm 13) - (gm 13) / 10 * 10))) 26 0) ks os ts iq mk me ((gm 13) - ((gm 13) - (gm 13) / 10 * 10)))))))
set_option maxHeartbeats 4000000 in
set_option maxRecDepth 100000 in
theorem c_X3_cut (E : EV) (l : Launch) (am : Nat → Nat) (gm : Nat → Int32) (ks : Nat → Int32) (os : Nat → Int32) (ts : Nat → Int32) (iq : Nat → Int32) (mk : Nat → Int32) (me : Nat → Int32) (hz : Nat) (post : Int32 → (Nat → Int32) → (Nat → Int32) → (Nat → Int32) → (Nat → Int32) → (Nat → Int32) → (Nat → Int32) → (Nat → Int32) → Prop) (hw : wp_X3_cut E post gm ks os ts iq mk me) : Met l yX3_cut (Cond.code yX3_cut cX3_cut 2 (some .int) :: ALLW) ({ frames := 3, cells := 0, slots := 0, locals := 63 } : Room) (va_Pc [.ref (am 0)] (preM E (wM E am gm ks os ts iq mk me) hz)) (va_Qi (fun (r : Int32) (u : (Nat → Int32) × (Nat → Int32) × (Nat → Int32) × (Nat → Int32) × (Nat → Int32) × (Nat → Int32) × (Nat → Int32)) => post r u.1 u.2.1 u.2.2.1 u.2.2.2.1 u.2.2.2.2.1 u.2.2.2.2.2.1 u.2.2.2.2.2.2) (fun (u : (Nat → Int32) × (Nat → Int32) × (Nat → Int32) × (Nat → Int32) × (Nat → Int32) × (Nat → Int32) × (Nat → Int32)) t => va_P (eD E) vwCl (wM E am u.1 u.2.1 u.2.2.1 u.2.2.2.1 u.2.2.2.2.1 u.2.2.2.2.2.1 u.2.2.2.2.2.2) t.heap ∧ va_D (va_A (wM E am gm ks os ts iq mk me) hz) (wM E am u.1 u.2.1 u.2.2.1 u.2.2.2.1 u.2.2.2.2.1 u.2.2.2.2.2.1 u.2.2.2.2.2.2)) (va_A (wM E am gm ks os ts iq mk me) hz)) 0 0 (va_A (wM E am gm ks os ts iq mk me) hz) := by
  refine Met.ofW (cc := cX3_cut) (maxL := 2) (ret := (some .int)) (by decide) rfl ?_
  intro p e s m args below meth c s₁ B hml hv
  obtain ⟨rfl, hpre⟩ := hv
  have hx := B.exec
  have hb := B.bytes
  have hr := B.returns
  have hlocks := B.notSynchronized
  have hts := atoms_spec (ws := (Cond.code yX3_cut cX3_cut 2 (some .int) :: ALLW)) B.pre
  have hta : ∀ w ∈ ALLW, w.before ([.ref (am 0)] : List Value).toArray s = true := fun w h => hts w (List.mem_cons_of_mem _ h)
  have hown : s.vm.findClass RX3 = some m.cls := findClass_of_methodNamed B.named
  obtain ⟨hsz, hP, hKE, hD0, hZ⟩ := hpre
  subst hsz
  have hD := hD0.self (sz := s.heap.size)
  generalize hAe : va_A (wM E am gm ks os ts iq mk me) s.heap.size = A at hD hZ ⊢
  have hA : ∀ q : Nat, s.heap.size ≤ q → A q := fun q h => by rw [← hAe]; exact Or.inr h
  have hS : va_S A s.heap s.heap [] := va_S.rf
  have hP : va_P (eD E) vwCl [((am 0), .inr (4, [.int (gm 0), .int (gm 1), .int (gm 2), .int (gm 3), .int (gm 4), .ref (am 1), .ref (am 2), .ref (am 3), .int (gm 8), .int (gm 9), .int (gm 10), .int (gm 11), .int (gm 12), .int (gm 13), .int (gm 14), .int (gm 15), .int (gm 16), .int (gm 17), .int (gm 18), .int (gm 19), .int (gm 20), .ref (am 4), .int (gm 22), .int (gm 23), .ref (am 5), .ref (am 6), .int (gm 26)])), ((am 1), .inl (eC E 0, 32, .inl ks)), ((am 2), .inl (eC E 0, 32, .inl os)), ((am 3), .inl (eC E 0, 32, .inl ts)), ((am 4), .inl (eC E 0, 3, .inl iq)), ((am 5), .inl (eC E 0, 320, .inl mk)), ((am 6), .inl (eC E 0, 320, .inl me))] s.heap := hP
  have hD : va_D A [((am 0), .inr (4, [.int (gm 0), .int (gm 1), .int (gm 2), .int (gm 3), .int (gm 4), .ref (am 1), .ref (am 2), .ref (am 3), .int (gm 8), .int (gm 9), .int (gm 10), .int (gm 11), .int (gm 12), .int (gm 13), .int (gm 14), .int (gm 15), .int (gm 16), .int (gm 17), .int (gm 18), .int (gm 19), .int (gm 20), .ref (am 4), .int (gm 22), .int (gm 23), .ref (am 5), .ref (am 6), .int (gm 26)])), ((am 1), .inl (eC E 0, 32, .inl ks)), ((am 2), .inl (eC E 0, 32, .inl os)), ((am 3), .inl (eC E 0, 32, .inl ts)), ((am 4), .inl (eC E 0, 3, .inl iq)), ((am 5), .inl (eC E 0, 320, .inl mk)), ((am 6), .inl (eC E 0, 320, .inl me))] := hD
  have hl := lv_entry ([.ref (am 0)]) (n := 2) (Nat.le_of_ble_eq_true rfl)
  rw [lg_entry_eq]
  generalize (lg_sl ([.ref (am 0)]) ++ List.replicate (2 - (lg_sl ([.ref (am 0)])).length) Slot.unset).toArray = ls at hl ⊢
  have hl : lv_has ls 2 [(0, .ref (am 0))] := hl
  unfold wp_X3_cut at hw
  refine lv_aload_n hx hb dX3_cut_0 rfl (lv_at hl 0 rfl) ?_
  refine lv_iconst (v := 0) hx hb dX3_cut_1 (by decide) ?_
  refine va_put (D := eD E) (ci := 4) (v := .int 0) (ty := .int) (C := RX3) (T := TX3) (N := 27) hx hb hta lay_X3 tyX3 tyX3_ok nmX3 hown hKE.1 hP hD hS 0 rfl rfl 26 (by decide) (hta _ tw_580) (fun _ h9 => h9) rfl (by decide +kernel) rfl rfl (Nat.le_of_ble_eq_true rfl) dX3_cut_2 (fun H locs hP hD hS => ?_)
  have hP : va_P (eD E) vwCl [((am 0), .inr (4, [.int (gm 0), .int (gm 1), .int (gm 2), .int (gm 3), .int (gm 4), .ref (am 1), .ref (am 2), .ref (am 3), .int (gm 8), .int (gm 9), .int (gm 10), .int (gm 11), .int (gm 12), .int (gm 13), .int (gm 14), .int (gm 15), .int (gm 16), .int (gm 17), .int (gm 18), .int (gm 19), .int (gm 20), .ref (am 4), .int (gm 22), .int (gm 23), .ref (am 5), .ref (am 6), .int 0])), ((am 1), .inl (eC E 0, 32, .inl ks)), ((am 2), .inl (eC E 0, 32, .inl os)), ((am 3), .inl (eC E 0, 32, .inl ts)), ((am 4), .inl (eC E 0, 3, .inl iq)), ((am 5), .inl (eC E 0, 320, .inl mk)), ((am 6), .inl (eC E 0, 320, .inl me))] H := hP
  have hD : va_D A [((am 0), .inr (4, [.int (gm 0), .int (gm 1), .int (gm 2), .int (gm 3), .int (gm 4), .ref (am 1), .ref (am 2), .ref (am 3), .int (gm 8), .int (gm 9), .int (gm 10), .int (gm 11), .int (gm 12), .int (gm 13), .int (gm 14), .int (gm 15), .int (gm 16), .int (gm 17), .int (gm 18), .int (gm 19), .int (gm 20), .ref (am 4), .int (gm 22), .int (gm 23), .ref (am 5), .ref (am 6), .int 0])), ((am 1), .inl (eC E 0, 32, .inl ks)), ((am 2), .inl (eC E 0, 32, .inl os)), ((am 3), .inl (eC E 0, 32, .inl ts)), ((am 4), .inl (eC E 0, 3, .inl iq)), ((am 5), .inl (eC E 0, 320, .inl mk)), ((am 6), .inl (eC E 0, 320, .inl me))] := hD
  refine lv_aload_n hx hb dX3_cut_5 rfl (lv_at hl 0 rfl) ?_
  refine va_get (D := eD E) (ci := 4) (v := .int (gm 13)) (C := RX3) (T := TX3) (N := 27) hx hb hta lay_X3 hown hKE.1 hP 0 rfl rfl 13 (by decide) (hta _ tw_567) (fun _ h9 => h9) rfl dX3_cut_6 ?_
  refine lv_bipush (v := 10) hx hb dX3_cut_9 (by decide) ?_
  refine lv_irem hx hb dX3_cut_11 (by decide) ?_
  refine lv_istore_n (lv' := [(1, .int ((gm 13) - (gm 13) / 10 * 10)), (0, .ref (am 0))]) hx hb dX3_cut_12 rfl hl (by decide) rfl (fun ls hl => ?_)
  refine lv_aload_n hx hb dX3_cut_13 rfl (lv_at hl 1 rfl) ?_
  refine lv_dup hx hb dX3_cut_14 rfl ?_
  refine va_get (D := eD E) (ci := 4) (v := .int (gm 13)) (C := RX3) (T := TX3) (N := 27) hx hb hta lay_X3 hown hKE.1 hP 0 rfl rfl 13 (by decide) (hta _ tw_567) (fun _ h9 => h9) rfl dX3_cut_15 ?_
  refine lv_iload_n hx hb dX3_cut_18 rfl (lv_at hl 0 rfl) ?_
  refine lv_isub hx hb dX3_cut_19 ?_
  refine va_put (D := eD E) (ci := 4) (v := .int ((gm 13) - ((gm 13) - (gm 13) / 10 * 10))) (ty := .int) (C := RX3) (T := TX3) (N := 27) hx hb hta lay_X3 tyX3 tyX3_ok nmX3 hown hKE.1 hP hD hS 0 rfl rfl 13 (by decide) (hta _ tw_567) (fun _ h9 => h9) rfl (by decide +kernel) rfl rfl (Nat.le_of_ble_eq_true rfl) dX3_cut_20 (fun H locs hP hD hS => ?_)
  have hP : va_P (eD E) vwCl [((am 0), .inr (4, [.int (gm 0), .int (gm 1), .int (gm 2), .int (gm 3), .int (gm 4), .ref (am 1), .ref (am 2), .ref (am 3), .int (gm 8), .int (gm 9), .int (gm 10), .int (gm 11), .int (gm 12), .int ((gm 13) - ((gm 13) - (gm 13) / 10 * 10)), .int (gm 14), .int (gm 15), .int (gm 16), .int (gm 17), .int (gm 18), .int (gm 19), .int (gm 20), .ref (am 4), .int (gm 22), .int (gm 23), .ref (am 5), .ref (am 6), .int 0])), ((am 1), .inl (eC E 0, 32, .inl ks)), ((am 2), .inl (eC E 0, 32, .inl os)), ((am 3), .inl (eC E 0, 32, .inl ts)), ((am 4), .inl (eC E 0, 3, .inl iq)), ((am 5), .inl (eC E 0, 320, .inl mk)), ((am 6), .inl (eC E 0, 320, .inl me))] H := hP
  have hD : va_D A [((am 0), .inr (4, [.int (gm 0), .int (gm 1), .int (gm 2), .int (gm 3), .int (gm 4), .ref (am 1), .ref (am 2), .ref (am 3), .int (gm 8), .int (gm 9), .int (gm 10), .int (gm 11), .int (gm 12), .int ((gm 13) - ((gm 13) - (gm 13) / 10 * 10)), .int (gm 14), .int (gm 15), .int (gm 16), .int (gm 17), .int (gm 18), .int (gm 19), .int (gm 20), .ref (am 4), .int (gm 22), .int (gm 23), .ref (am 5), .ref (am 6), .int 0])), ((am 1), .inl (eC E 0, 32, .inl ks)), ((am 2), .inl (eC E 0, 32, .inl os)), ((am 3), .inl (eC E 0, 32, .inl ts)), ((am 4), .inl (eC E 0, 3, .inl iq)), ((am 5), .inl (eC E 0, 320, .inl mk)), ((am 6), .inl (eC E 0, 320, .inl me))] := hD
  refine lv_aload_n hx hb dX3_cut_23 rfl (lv_at hl 1 rfl) ?_
  refine va_get (D := eD E) (ci := 4) (v := .int (gm 4)) (C := RX3) (T := TX3) (N := 27) hx hb hta lay_X3 hown hKE.1 hP 0 rfl rfl 4 (by decide) (hta _ tw_558) (fun _ h9 => h9) rfl dX3_cut_24 ?_
  refine lv_if_le (tgt := 48) hx hb dX3_cut_27 (by decide) (fun c_439 => ?_) (fun c_439 => ?_)
  · have hw := hw.1 c_439
    refine lv_aload_n hx hb dX3_cut_48 rfl (lv_at hl 1 rfl) ?_
    refine lv_iconst (v := 0) hx hb dX3_cut_49 (by decide) ?_
    refine va_put (D := eD E) (ci := 4) (v := .int 0) (ty := .int) (C := RX3) (T := TX3) (N := 27) hx hb hta lay_X3 tyX3 tyX3_ok nmX3 hown hKE.1 hP hD hS 0 rfl rfl 14 (by decide) (hta _ tw_568) (fun _ h9 => h9) rfl (by decide +kernel) rfl rfl (Nat.le_of_ble_eq_true rfl) dX3_cut_50 (fun H locs hP hD hS => ?_)
    have hP : va_P (eD E) vwCl [((am 0), .inr (4, [.int (gm 0), .int (gm 1), .int (gm 2), .int (gm 3), .int (gm 4), .ref (am 1), .ref (am 2), .ref (am 3), .int (gm 8), .int (gm 9), .int (gm 10), .int (gm 11), .int (gm 12), .int ((gm 13) - ((gm 13) - (gm 13) / 10 * 10)), .int 0, .int (gm 15), .int (gm 16), .int (gm 17), .int (gm 18), .int (gm 19), .int (gm 20), .ref (am 4), .int (gm 22), .int (gm 23), .ref (am 5), .ref (am 6), .int 0])), ((am 1), .inl (eC E 0, 32, .inl ks)), ((am 2), .inl (eC E 0, 32, .inl os)), ((am 3), .inl (eC E 0, 32, .inl ts)), ((am 4), .inl (eC E 0, 3, .inl iq)), ((am 5), .inl (eC E 0, 320, .inl mk)), ((am 6), .inl (eC E 0, 320, .inl me))] H := hP
    have hD : va_D A [((am 0), .inr (4, [.int (gm 0), .int (gm 1), .int (gm 2), .int (gm 3), .int (gm 4), .ref (am 1), .ref (am 2), .ref (am 3), .int (gm 8), .int (gm 9), .int (gm 10), .int (gm 11), .int (gm 12), .int ((gm 13) - ((gm 13) - (gm 13) / 10 * 10)), .int 0, .int (gm 15), .int (gm 16), .int (gm 17), .int (gm 18), .int (gm 19), .int (gm 20), .ref (am 4), .int (gm 22), .int (gm 23), .ref (am 5), .ref (am 6), .int 0])), ((am 1), .inl (eC E 0, 32, .inl ks)), ((am 2), .inl (eC E 0, 32, .inl os)), ((am 3), .inl (eC E 0, 32, .inl ts)), ((am 4), .inl (eC E 0, 3, .inl iq)), ((am 5), .inl (eC E 0, 320, .inl mk)), ((am 6), .inl (eC E 0, 320, .inl me))] := hD
    refine lv_aload_n hx hb dX3_cut_53 rfl (lv_at hl 1 rfl) ?_
    refine lv_iconst (v := 0) hx hb dX3_cut_54 (by decide) ?_
    refine va_put (D := eD E) (ci := 4) (v := .int 0) (ty := .boolean) (C := RX3) (T := TX3) (N := 27) hx hb hta lay_X3 tyX3 tyX3_ok nmX3 hown hKE.1 hP hD hS 0 rfl rfl 19 (by decide) (hta _ tw_573) (fun _ h9 => h9) rfl (by decide +kernel) rfl rfl (Nat.le_of_ble_eq_true rfl) dX3_cut_55 (fun H locs hP hD hS => ?_)
    have hP : va_P (eD E) vwCl [((am 0), .inr (4, [.int (gm 0), .int (gm 1), .int (gm 2), .int (gm 3), .int (gm 4), .ref (am 1), .ref (am 2), .ref (am 3), .int (gm 8), .int (gm 9), .int (gm 10), .int (gm 11), .int (gm 12), .int ((gm 13) - ((gm 13) - (gm 13) / 10 * 10)), .int 0, .int (gm 15), .int (gm 16), .int (gm 17), .int (gm 18), .int 0, .int (gm 20), .ref (am 4), .int (gm 22), .int (gm 23), .ref (am 5), .ref (am 6), .int 0])), ((am 1), .inl (eC E 0, 32, .inl ks)), ((am 2), .inl (eC E 0, 32, .inl os)), ((am 3), .inl (eC E 0, 32, .inl ts)), ((am 4), .inl (eC E 0, 3, .inl iq)), ((am 5), .inl (eC E 0, 320, .inl mk)), ((am 6), .inl (eC E 0, 320, .inl me))] H := hP
    have hD : va_D A [((am 0), .inr (4, [.int (gm 0), .int (gm 1), .int (gm 2), .int (gm 3), .int (gm 4), .ref (am 1), .ref (am 2), .ref (am 3), .int (gm 8), .int (gm 9), .int (gm 10), .int (gm 11), .int (gm 12), .int ((gm 13) - ((gm 13) - (gm 13) / 10 * 10)), .int 0, .int (gm 15), .int (gm 16), .int (gm 17), .int (gm 18), .int 0, .int (gm 20), .ref (am 4), .int (gm 22), .int (gm 23), .ref (am 5), .ref (am 6), .int 0])), ((am 1), .inl (eC E 0, 32, .inl ks)), ((am 2), .inl (eC E 0, 32, .inl os)), ((am 3), .inl (eC E 0, 32, .inl ts)), ((am 4), .inl (eC E 0, 3, .inl iq)), ((am 5), .inl (eC E 0, 320, .inl mk)), ((am 6), .inl (eC E 0, 320, .inl me))] := hD
    refine lv_aload_n hx hb dX3_cut_58 rfl (lv_at hl 1 rfl) ?_
    refine lv_iconst (v := 0) hx hb dX3_cut_59 (by decide) ?_
    refine va_put (D := eD E) (ci := 4) (v := .int 0) (ty := .int) (C := RX3) (T := TX3) (N := 27) hx hb hta lay_X3 tyX3 tyX3_ok nmX3 hown hKE.1 hP hD hS 0 rfl rfl 0 (by decide) (hta _ tw_554) (fun _ h9 => h9) rfl (by decide +kernel) rfl rfl (Nat.le_of_ble_eq_true rfl) dX3_cut_60 (fun H locs hP hD hS => ?_)
    have hP : va_P (eD E) vwCl [((am 0), .inr (4, [.int 0, .int (gm 1), .int (gm 2), .int (gm 3), .int (gm 4), .ref (am 1), .ref (am 2), .ref (am 3), .int (gm 8), .int (gm 9), .int (gm 10), .int (gm 11), .int (gm 12), .int ((gm 13) - ((gm 13) - (gm 13) / 10 * 10)), .int 0, .int (gm 15), .int (gm 16), .int (gm 17), .int (gm 18), .int 0, .int (gm 20), .ref (am 4), .int (gm 22), .int (gm 23), .ref (am 5), .ref (am 6), .int 0])), ((am 1), .inl (eC E 0, 32, .inl ks)), ((am 2), .inl (eC E 0, 32, .inl os)), ((am 3), .inl (eC E 0, 32, .inl ts)), ((am 4), .inl (eC E 0, 3, .inl iq)), ((am 5), .inl (eC E 0, 320, .inl mk)), ((am 6), .inl (eC E 0, 320, .inl me))] H := hP
    have hD : va_D A [((am 0), .inr (4, [.int 0, .int (gm 1), .int (gm 2), .int (gm 3), .int (gm 4), .ref (am 1), .ref (am 2), .ref (am 3), .int (gm 8), .int (gm 9), .int (gm 10), .int (gm 11), .int (gm 12), .int ((gm 13) - ((gm 13) - (gm 13) / 10 * 10)), .int 0, .int (gm 15), .int (gm 16), .int (gm 17), .int (gm 18), .int 0, .int (gm 20), .ref (am 4), .int (gm 22), .int (gm 23), .ref (am 5), .ref (am 6), .int 0])), ((am 1), .inl (eC E 0, 32, .inl ks)), ((am 2), .inl (eC E 0, 32, .inl os)), ((am 3), .inl (eC E 0, 32, .inl ts)), ((am 4), .inl (eC E 0, 3, .inl iq)), ((am 5), .inl (eC E 0, 320, .inl mk)), ((am 6), .inl (eC E 0, 320, .inl me))] := hD
    refine lv_iload_n hx hb dX3_cut_63 rfl (lv_at hl 0 rfl) ?_
    have hP9 : va_P (eD E) vwCl (wM E am (upd (upd (upd (upd (upd gm 0 0) 13 ((gm 13) - ((gm 13) - (gm 13) / 10 * 10))) 14 0) 19 0) 26 0) ks os ts iq mk me) H := hP
    have hD9 : va_D A (wM E am (upd (upd (upd (upd (upd gm 0 0) 13 ((gm 13) - ((gm 13) - (gm 13) / 10 * 10))) 14 0) 19 0) 26 0) ks os ts iq mk me) := hD
    exact W.iret (v := ((gm 13) - (gm 13) / 10 * 10)) hx hb hr (fun t ht hW => ⟨⟨((gm 13) - (gm 13) / 10 * 10), ((upd (upd (upd (upd (upd gm 0 0) 13 ((gm 13) - ((gm 13) - (gm 13) / 10 * 10))) 14 0) 19 0) 26 0), ks, os, ts, iq, mk, me), rfl, hw, ⟨by rw [ht]; exact hP9, hD9⟩⟩, hS.F ht⟩) hS.2.2 dX3_cut_64
  · have hw := hw.2 c_439
    refine lv_aload_n hx hb dX3_cut_30 rfl (lv_at hl 1 rfl) ?_
    refine va_get (D := eD E) (ci := 4) (v := .ref (am 1)) (C := RX3) (T := TX3) (N := 27) hx hb hta lay_X3 hown hKE.1 hP 0 rfl rfl 5 (by decide) (hta _ tw_559) (fun _ h9 => h9) rfl dX3_cut_31 ?_
    refine lv_iconst (v := 0) hx hb dX3_cut_34 (by decide) ?_
    refine va_iald hx hb hKE.1 hP 1 0 rfl rfl (show vp_in 0 32 from by unfold vp_in; decide) dX3_cut_35 ?_
    refine lv_iconst (v := 3) hx hb dX3_cut_36 (by decide) ?_
    refine lv_icmp_eq (tgt := 48) hx hb dX3_cut_37 (by decide) (fun c_440 => ?_) (fun c_440 => ?_)
    · have hw := hw.1 c_440
      refine lv_aload_n hx hb dX3_cut_48 rfl (lv_at hl 1 rfl) ?_
      refine lv_iconst (v := 0) hx hb dX3_cut_49 (by decide) ?_
      refine va_put (D := eD E) (ci := 4) (v := .int 0) (ty := .int) (C := RX3) (T := TX3) (N := 27) hx hb hta lay_X3 tyX3 tyX3_ok nmX3 hown hKE.1 hP hD hS 0 rfl rfl 14 (by decide) (hta _ tw_568) (fun _ h9 => h9) rfl (by decide +kernel) rfl rfl (Nat.le_of_ble_eq_true rfl) dX3_cut_50 (fun H locs hP hD hS => ?_)
      have hP : va_P (eD E) vwCl [((am 0), .inr (4, [.int (gm 0), .int (gm 1), .int (gm 2), .int (gm 3), .int (gm 4), .ref (am 1), .ref (am 2), .ref (am 3), .int (gm 8), .int (gm 9), .int (gm 10), .int (gm 11), .int (gm 12), .int ((gm 13) - ((gm 13) - (gm 13) / 10 * 10)), .int 0, .int (gm 15), .int (gm 16), .int (gm 17), .int (gm 18), .int (gm 19), .int (gm 20), .ref (am 4), .int (gm 22), .int (gm 23), .ref (am 5), .ref (am 6), .int 0])), ((am 1), .inl (eC E 0, 32, .inl ks)), ((am 2), .inl (eC E 0, 32, .inl os)), ((am 3), .inl (eC E 0, 32, .inl ts)), ((am 4), .inl (eC E 0, 3, .inl iq)), ((am 5), .inl (eC E 0, 320, .inl mk)), ((am 6), .inl (eC E 0, 320, .inl me))] H := hP
      have hD : va_D A [((am 0), .inr (4, [.int (gm 0), .int (gm 1), .int (gm 2), .int (gm 3), .int (gm 4), .ref (am 1), .ref (am 2), .ref (am 3), .int (gm 8), .int (gm 9), .int (gm 10), .int (gm 11), .int (gm 12), .int ((gm 13) - ((gm 13) - (gm 13) / 10 * 10)), .int 0, .int (gm 15), .int (gm 16), .int (gm 17), .int (gm 18), .int (gm 19), .int (gm 20), .ref (am 4), .int (gm 22), .int (gm 23), .ref (am 5), .ref (am 6), .int 0])), ((am 1), .inl (eC E 0, 32, .inl ks)), ((am 2), .inl (eC E 0, 32, .inl os)), ((am 3), .inl (eC E 0, 32, .inl ts)), ((am 4), .inl (eC E 0, 3, .inl iq)), ((am 5), .inl (eC E 0, 320, .inl mk)), ((am 6), .inl (eC E 0, 320, .inl me))] := hD
      refine lv_aload_n hx hb dX3_cut_53 rfl (lv_at hl 1 rfl) ?_
      refine lv_iconst (v := 0) hx hb dX3_cut_54 (by decide) ?_
      refine va_put (D := eD E) (ci := 4) (v := .int 0) (ty := .boolean) (C := RX3) (T := TX3) (N := 27) hx hb hta lay_X3 tyX3 tyX3_ok nmX3 hown hKE.1 hP hD hS 0 rfl rfl 19 (by decide) (hta _ tw_573) (fun _ h9 => h9) rfl (by decide +kernel) rfl rfl (Nat.le_of_ble_eq_true rfl) dX3_cut_55 (fun H locs hP hD hS => ?_)
      have hP : va_P (eD E) vwCl [((am 0), .inr (4, [.int (gm 0), .int (gm 1), .int (gm 2), .int (gm 3), .int (gm 4), .ref (am 1), .ref (am 2), .ref (am 3), .int (gm 8), .int (gm 9), .int (gm 10), .int (gm 11), .int (gm 12), .int ((gm 13) - ((gm 13) - (gm 13) / 10 * 10)), .int 0, .int (gm 15), .int (gm 16), .int (gm 17), .int (gm 18), .int 0, .int (gm 20), .ref (am 4), .int (gm 22), .int (gm 23), .ref (am 5), .ref (am 6), .int 0])), ((am 1), .inl (eC E 0, 32, .inl ks)), ((am 2), .inl (eC E 0, 32, .inl os)), ((am 3), .inl (eC E 0, 32, .inl ts)), ((am 4), .inl (eC E 0, 3, .inl iq)), ((am 5), .inl (eC E 0, 320, .inl mk)), ((am 6), .inl (eC E 0, 320, .inl me))] H := hP
      have hD : va_D A [((am 0), .inr (4, [.int (gm 0), .int (gm 1), .int (gm 2), .int (gm 3), .int (gm 4), .ref (am 1), .ref (am 2), .ref (am 3), .int (gm 8), .int (gm 9), .int (gm 10), .int (gm 11), .int (gm 12), .int ((gm 13) - ((gm 13) - (gm 13) / 10 * 10)), .int 0, .int (gm 15), .int (gm 16), .int (gm 17), .int (gm 18), .int 0, .int (gm 20), .ref (am 4), .int (gm 22), .int (gm 23), .ref (am 5), .ref (am 6), .int 0])), ((am 1), .inl (eC E 0, 32, .inl ks)), ((am 2), .inl (eC E 0, 32, .inl os)), ((am 3), .inl (eC E 0, 32, .inl ts)), ((am 4), .inl (eC E 0, 3, .inl iq)), ((am 5), .inl (eC E 0, 320, .inl mk)), ((am 6), .inl (eC E 0, 320, .inl me))] := hD
      refine lv_aload_n hx hb dX3_cut_58 rfl (lv_at hl 1 rfl) ?_
      refine lv_iconst (v := 0) hx hb dX3_cut_59 (by decide) ?_
      refine va_put (D := eD E) (ci := 4) (v := .int 0) (ty := .int) (C := RX3) (T := TX3) (N := 27) hx hb hta lay_X3 tyX3 tyX3_ok nmX3 hown hKE.1 hP hD hS 0 rfl rfl 0 (by decide) (hta _ tw_554) (fun _ h9 => h9) rfl (by decide +kernel) rfl rfl (Nat.le_of_ble_eq_true rfl) dX3_cut_60 (fun H locs hP hD hS => ?_)
      have hP : va_P (eD E) vwCl [((am 0), .inr (4, [.int 0, .int (gm 1), .int (gm 2), .int (gm 3), .int (gm 4), .ref (am 1), .ref (am 2), .ref (am 3), .int (gm 8), .int (gm 9), .int (gm 10), .int (gm 11), .int (gm 12), .int ((gm 13) - ((gm 13) - (gm 13) / 10 * 10)), .int 0, .int (gm 15), .int (gm 16), .int (gm 17), .int (gm 18), .int 0, .int (gm 20), .ref (am 4), .int (gm 22), .int (gm 23), .ref (am 5), .ref (am 6), .int 0])), ((am 1), .inl (eC E 0, 32, .inl ks)), ((am 2), .inl (eC E 0, 32, .inl os)), ((am 3), .inl (eC E 0, 32, .inl ts)), ((am 4), .inl (eC E 0, 3, .inl iq)), ((am 5), .inl (eC E 0, 320, .inl mk)), ((am 6), .inl (eC E 0, 320, .inl me))] H := hP
      have hD : va_D A [((am 0), .inr (4, [.int 0, .int (gm 1), .int (gm 2), .int (gm 3), .int (gm 4), .ref (am 1), .ref (am 2), .ref (am 3), .int (gm 8), .int (gm 9), .int (gm 10), .int (gm 11), .int (gm 12), .int ((gm 13) - ((gm 13) - (gm 13) / 10 * 10)), .int 0, .int (gm 15), .int (gm 16), .int (gm 17), .int (gm 18), .int 0, .int (gm 20), .ref (am 4), .int (gm 22), .int (gm 23), .ref (am 5), .ref (am 6), .int 0])), ((am 1), .inl (eC E 0, 32, .inl ks)), ((am 2), .inl (eC E 0, 32, .inl os)), ((am 3), .inl (eC E 0, 32, .inl ts)), ((am 4), .inl (eC E 0, 3, .inl iq)), ((am 5), .inl (eC E 0, 320, .inl mk)), ((am 6), .inl (eC E 0, 320, .inl me))] := hD
      refine lv_iload_n hx hb dX3_cut_63 rfl (lv_at hl 0 rfl) ?_
      have hP9 : va_P (eD E) vwCl (wM E am (upd (upd (upd (upd (upd gm 0 0) 13 ((gm 13) - ((gm 13) - (gm 13) / 10 * 10))) 14 0) 19 0) 26 0) ks os ts iq mk me) H := hP
      have hD9 : va_D A (wM E am (upd (upd (upd (upd (upd gm 0 0) 13 ((gm 13) - ((gm 13) - (gm 13) / 10 * 10))) 14 0) 19 0) 26 0) ks os ts iq mk me) := hD
      exact W.iret (v := ((gm 13) - (gm 13) / 10 * 10)) hx hb hr (fun t ht hW => ⟨⟨((gm 13) - (gm 13) / 10 * 10), ((upd (upd (upd (upd (upd gm 0 0) 13 ((gm 13) - ((gm 13) - (gm 13) / 10 * 10))) 14 0) 19 0) 26 0), ks, os, ts, iq, mk, me), rfl, hw, ⟨by rw [ht]; exact hP9, hD9⟩⟩, hS.F ht⟩) hS.2.2 dX3_cut_64
    · have hw := hw.2 c_440
      refine lv_aload_n hx hb dX3_cut_40 rfl (lv_at hl 1 rfl) ?_
      refine lv_aload_n hx hb dX3_cut_41 rfl (lv_at hl 1 rfl) ?_
      refine va_get (D := eD E) (ci := 4) (v := .int ((gm 13) - ((gm 13) - (gm 13) / 10 * 10))) (C := RX3) (T := TX3) (N := 27) hx hb hta lay_X3 hown hKE.1 hP 0 rfl rfl 13 (by decide) (hta _ tw_567) (fun _ h9 => h9) rfl dX3_cut_42 ?_
      have hPc : va_P (eD E) vwCl (wM E am (upd (upd gm 13 ((gm 13) - ((gm 13) - (gm 13) / 10 * 10))) 26 0) ks os ts iq mk me) H := hP
      have hDc : va_D A (wM E am (upd (upd gm 13 ((gm 13) - ((gm 13) - (gm 13) / 10 * 10))) 26 0) ks os ts iq mk me) := hD
      have hFc : ∀ q, va_A (wM E am (upd (upd gm 13 ((gm 13) - ((gm 13) - (gm 13) / 10 * 10))) 26 0) ks os ts iq mk me) H.size q → A q := frS hDc hS hA
      refine va_callv (va_runV (As := [.int ((gm 13) - ((gm 13) - (gm 13) / 10 * 10))]) (rest := []) ⟨hx, hb, hml, hown, hta⟩ (c_X3_goesTo E l am (upd (upd gm 13 ((gm 13) - ((gm 13) - (gm 13) / 10 * 10))) 26 0) ks os ts iq mk me ((gm 13) - ((gm 13) - (gm 13) / 10 * 10)) H.size _ hw) (pcV (n := 1) hta tw_726 tw_723 tw_6 tw_725 tp_44 rfl rfl hd_X3_goesTo ⟨Nat.le_of_ble_eq_true rfl, Nat.le_of_ble_eq_true rfl⟩) ⟨fbM, va_recv hKE.1 hP (ci := 4) (q0 := 0) rfl rfl, fun U hU hW => ⟨rfl, preM.mk hPc hKE hDc hZ hS hFc hU hW⟩⟩ rfl rfl hl.1 rfl (lv_room (Nat.le_of_ble_eq_true rfl)) dX3_cut_45 ⟨Nat.le_of_ble_eq_true rfl, Nat.le_of_ble_eq_true rfl⟩) hS (fun q _ h => hFc q h) hFc (fun u t H locs ht hvm hw hB hz1 hk1 hS => ?_)
      obtain ⟨gm_442, ks_443, os_444, ts_445, iq_446, mk_447, me_448⟩ := u
      obtain ⟨hP1, hD1⟩ := hB
      rw [ht] at hP1
      try dsimp only at hw hP1 hD1
      have hP : va_P (eD E) vwCl [((am 0), .inr (4, [.int (gm_442 0), .int (gm_442 1), .int (gm_442 2), .int (gm_442 3), .int (gm_442 4), .ref (am 1), .ref (am 2), .ref (am 3), .int (gm_442 8), .int (gm_442 9), .int (gm_442 10), .int (gm_442 11), .int (gm_442 12), .int (gm_442 13), .int (gm_442 14), .int (gm_442 15), .int (gm_442 16), .int (gm_442 17), .int (gm_442 18), .int (gm_442 19), .int (gm_442 20), .ref (am 4), .int (gm_442 22), .int (gm_442 23), .ref (am 5), .ref (am 6), .int (gm_442 26)])), ((am 1), .inl (eC E 0, 32, .inl ks_443)), ((am 2), .inl (eC E 0, 32, .inl os_444)), ((am 3), .inl (eC E 0, 32, .inl ts_445)), ((am 4), .inl (eC E 0, 3, .inl iq_446)), ((am 5), .inl (eC E 0, 320, .inl mk_447)), ((am 6), .inl (eC E 0, 320, .inl me_448))] H := hP1
      have hD : va_D A [((am 0), .inr (4, [.int (gm_442 0), .int (gm_442 1), .int (gm_442 2), .int (gm_442 3), .int (gm_442 4), .ref (am 1), .ref (am 2), .ref (am 3), .int (gm_442 8), .int (gm_442 9), .int (gm_442 10), .int (gm_442 11), .int (gm_442 12), .int (gm_442 13), .int (gm_442 14), .int (gm_442 15), .int (gm_442 16), .int (gm_442 17), .int (gm_442 18), .int (gm_442 19), .int (gm_442 20), .ref (am 4), .int (gm_442 22), .int (gm_442 23), .ref (am 5), .ref (am 6), .int (gm_442 26)])), ((am 1), .inl (eC E 0, 32, .inl ks_443)), ((am 2), .inl (eC E 0, 32, .inl os_444)), ((am 3), .inl (eC E 0, 32, .inl ts_445)), ((am 4), .inl (eC E 0, 3, .inl iq_446)), ((am 5), .inl (eC E 0, 320, .inl mk_447)), ((am 6), .inl (eC E 0, 320, .inl me_448))] := hD1.weaken (fun _ q _ h => hFc q.1 h)
      refine lv_aload_n hx hb dX3_cut_48 rfl (lv_at hl 1 rfl) ?_
      refine lv_iconst (v := 0) hx hb dX3_cut_49 (by decide) ?_
      refine va_put (D := eD E) (ci := 4) (v := .int 0) (ty := .int) (C := RX3) (T := TX3) (N := 27) hx hb hta lay_X3 tyX3 tyX3_ok nmX3 hown hKE.1 hP hD hS 0 rfl rfl 14 (by decide) (hta _ tw_568) (fun _ h9 => h9) rfl (by decide +kernel) rfl rfl (Nat.le_of_ble_eq_true rfl) dX3_cut_50 (fun H locs hP hD hS => ?_)
      have hP : va_P (eD E) vwCl [((am 0), .inr (4, [.int (gm_442 0), .int (gm_442 1), .int (gm_442 2), .int (gm_442 3), .int (gm_442 4), .ref (am 1), .ref (am 2), .ref (am 3), .int (gm_442 8), .int (gm_442 9), .int (gm_442 10), .int (gm_442 11), .int (gm_442 12), .int (gm_442 13), .int 0, .int (gm_442 15), .int (gm_442 16), .int (gm_442 17), .int (gm_442 18), .int (gm_442 19), .int (gm_442 20), .ref (am 4), .int (gm_442 22), .int (gm_442 23), .ref (am 5), .ref (am 6), .int (gm_442 26)])), ((am 1), .inl (eC E 0, 32, .inl ks_443)), ((am 2), .inl (eC E 0, 32, .inl os_444)), ((am 3), .inl (eC E 0, 32, .inl ts_445)), ((am 4), .inl (eC E 0, 3, .inl iq_446)), ((am 5), .inl (eC E 0, 320, .inl mk_447)), ((am 6), .inl (eC E 0, 320, .inl me_448))] H := hP
      have hD : va_D A [((am 0), .inr (4, [.int (gm_442 0), .int (gm_442 1), .int (gm_442 2), .int (gm_442 3), .int (gm_442 4), .ref (am 1), .ref (am 2), .ref (am 3), .int (gm_442 8), .int (gm_442 9), .int (gm_442 10), .int (gm_442 11), .int (gm_442 12), .int (gm_442 13), .int 0, .int (gm_442 15), .int (gm_442 16), .int (gm_442 17), .int (gm_442 18), .int (gm_442 19), .int (gm_442 20), .ref (am 4), .int (gm_442 22), .int (gm_442 23), .ref (am 5), .ref (am 6), .int (gm_442 26)])), ((am 1), .inl (eC E 0, 32, .inl ks_443)), ((am 2), .inl (eC E 0, 32, .inl os_444)), ((am 3), .inl (eC E 0, 32, .inl ts_445)), ((am 4), .inl (eC E 0, 3, .inl iq_446)), ((am 5), .inl (eC E 0, 320, .inl mk_447)), ((am 6), .inl (eC E 0, 320, .inl me_448))] := hD
      refine lv_aload_n hx hb dX3_cut_53 rfl (lv_at hl 1 rfl) ?_
      refine lv_iconst (v := 0) hx hb dX3_cut_54 (by decide) ?_
      refine va_put (D := eD E) (ci := 4) (v := .int 0) (ty := .boolean) (C := RX3) (T := TX3) (N := 27) hx hb hta lay_X3 tyX3 tyX3_ok nmX3 hown hKE.1 hP hD hS 0 rfl rfl 19 (by decide) (hta _ tw_573) (fun _ h9 => h9) rfl (by decide +kernel) rfl rfl (Nat.le_of_ble_eq_true rfl) dX3_cut_55 (fun H locs hP hD hS => ?_)
      have hP : va_P (eD E) vwCl [((am 0), .inr (4, [.int (gm_442 0), .int (gm_442 1), .int (gm_442 2), .int (gm_442 3), .int (gm_442 4), .ref (am 1), .ref (am 2), .ref (am 3), .int (gm_442 8), .int (gm_442 9), .int (gm_442 10), .int (gm_442 11), .int (gm_442 12), .int (gm_442 13), .int 0, .int (gm_442 15), .int (gm_442 16), .int (gm_442 17), .int (gm_442 18), .int 0, .int (gm_442 20), .ref (am 4), .int (gm_442 22), .int (gm_442 23), .ref (am 5), .ref (am 6), .int (gm_442 26)])), ((am 1), .inl (eC E 0, 32, .inl ks_443)), ((am 2), .inl (eC E 0, 32, .inl os_444)), ((am 3), .inl (eC E 0, 32, .inl ts_445)), ((am 4), .inl (eC E 0, 3, .inl iq_446)), ((am 5), .inl (eC E 0, 320, .inl mk_447)), ((am 6), .inl (eC E 0, 320, .inl me_448))] H := hP
      have hD : va_D A [((am 0), .inr (4, [.int (gm_442 0), .int (gm_442 1), .int (gm_442 2), .int (gm_442 3), .int (gm_442 4), .ref (am 1), .ref (am 2), .ref (am 3), .int (gm_442 8), .int (gm_442 9), .int (gm_442 10), .int (gm_442 11), .int (gm_442 12), .int (gm_442 13), .int 0, .int (gm_442 15), .int (gm_442 16), .int (gm_442 17), .int (gm_442 18), .int 0, .int (gm_442 20), .ref (am 4), .int (gm_442 22), .int (gm_442 23), .ref (am 5), .ref (am 6), .int (gm_442 26)])), ((am 1), .inl (eC E 0, 32, .inl ks_443)), ((am 2), .inl (eC E 0, 32, .inl os_444)), ((am 3), .inl (eC E 0, 32, .inl ts_445)), ((am 4), .inl (eC E 0, 3, .inl iq_446)), ((am 5), .inl (eC E 0, 320, .inl mk_447)), ((am 6), .inl (eC E 0, 320, .inl me_448))] := hD
      refine lv_aload_n hx hb dX3_cut_58 rfl (lv_at hl 1 rfl) ?_
      refine lv_iconst (v := 0) hx hb dX3_cut_59 (by decide) ?_
      refine va_put (D := eD E) (ci := 4) (v := .int 0) (ty := .int) (C := RX3) (T := TX3) (N := 27) hx hb hta lay_X3 tyX3 tyX3_ok nmX3 hown hKE.1 hP hD hS 0 rfl rfl 0 (by decide) (hta _ tw_554) (fun _ h9 => h9) rfl (by decide +kernel) rfl rfl (Nat.le_of_ble_eq_true rfl) dX3_cut_60 (fun H locs hP hD hS => ?_)
      have hP : va_P (eD E) vwCl [((am 0), .inr (4, [.int 0, .int (gm_442 1), .int (gm_442 2), .int (gm_442 3), .int (gm_442 4), .ref (am 1), .ref (am 2), .ref (am 3), .int (gm_442 8), .int (gm_442 9), .int (gm_442 10), .int (gm_442 11), .int (gm_442 12), .int (gm_442 13), .int 0, .int (gm_442 15), .int (gm_442 16), .int (gm_442 17), .int (gm_442 18), .int 0, .int (gm_442 20), .ref (am 4), .int (gm_442 22), .int (gm_442 23), .ref (am 5), .ref (am 6), .int (gm_442 26)])), ((am 1), .inl (eC E 0, 32, .inl ks_443)), ((am 2), .inl (eC E 0, 32, .inl os_444)), ((am 3), .inl (eC E 0, 32, .inl ts_445)), ((am 4), .inl (eC E 0, 3, .inl iq_446)), ((am 5), .inl (eC E 0, 320, .inl mk_447)), ((am 6), .inl (eC E 0, 320, .inl me_448))] H := hP
      have hD : va_D A [((am 0), .inr (4, [.int 0, .int (gm_442 1), .int (gm_442 2), .int (gm_442 3), .int (gm_442 4), .ref (am 1), .ref (am 2), .ref (am 3), .int (gm_442 8), .int (gm_442 9), .int (gm_442 10), .int (gm_442 11), .int (gm_442 12), .int (gm_442 13), .int 0, .int (gm_442 15), .int (gm_442 16), .int (gm_442 17), .int (gm_442 18), .int 0, .int (gm_442 20), .ref (am 4), .int (gm_442 22), .int (gm_442 23), .ref (am 5), .ref (am 6), .int (gm_442 26)])), ((am 1), .inl (eC E 0, 32, .inl ks_443)), ((am 2), .inl (eC E 0, 32, .inl os_444)), ((am 3), .inl (eC E 0, 32, .inl ts_445)), ((am 4), .inl (eC E 0, 3, .inl iq_446)), ((am 5), .inl (eC E 0, 320, .inl mk_447)), ((am 6), .inl (eC E 0, 320, .inl me_448))] := hD
      refine lv_iload_n hx hb dX3_cut_63 rfl (lv_at hl 0 rfl) ?_
      have hP9 : va_P (eD E) vwCl (wM E am (upd (upd (upd gm_442 0 0) 14 0) 19 0) ks_443 os_444 ts_445 iq_446 mk_447 me_448) H := hP
      have hD9 : va_D A (wM E am (upd (upd (upd gm_442 0 0) 14 0) 19 0) ks_443 os_444 ts_445 iq_446 mk_447 me_448) := hD
      exact W.iret (v := ((gm 13) - (gm 13) / 10 * 10)) hx hb hr (fun t ht hW => ⟨⟨((gm 13) - (gm 13) / 10 * 10), ((upd (upd (upd gm_442 0 0) 14 0) 19 0), ks_443, os_444, ts_445, iq_446, mk_447, me_448), rfl, hw, ⟨by rw [ht]; exact hP9, hD9⟩⟩, hS.F ht⟩) hS.2.2 dX3_cut_64
def wp_X3_refill (E : EV) (post : Int32 → (Nat → Int32) → (Nat → Int32) → (Nat → Int32) → (Nat → Int32) → (Nat → Int32) → (Nat → Int32) → (Nat → Int32) → Prop) (gm : Nat → Int32) (ks : Nat → Int32) (os : Nat → Int32) (ts : Nat → Int32) (iq : Nat → Int32) (mk : Nat → Int32) (me : Nat → Int32) (p0 : Int32) : Prop := (wp_X3_isPen E (fun r_449 : Int32 => ((r_449 = 0 → (wp_X3_goes E (fun (r_451 : Int32) (gm_452 : Nat → Int32) (ks_453 : Nat → Int32) (os_454 : Nat → Int32) (ts_455 : Nat → Int32) (iq_456 : Nat → Int32) (mk_457 : Nat → Int32) (me_458 : Nat → Int32) => ((r_451 = 0 → post 0 gm_452 ks_453 os_454 ts_455 iq_456 mk_457 me_458) ∧ (¬ (r_451 = 0) → (vp_in p0 3 ∧ post (iq_456 p0.toNatClampNeg) gm_452 ks_453 os_454 ts_455 (upd iq_456 p0.toNatClampNeg 500) mk_457 me_458)))) gm ks os ts iq mk me 1)) ∧ (¬ (r_449 = 0) → (wp_X3_goes E (fun (r_461 : Int32) (gm_462 : Nat → Int32) (ks_463 : Nat → Int32) (os_464 : Nat → Int32) (ts_465 : Nat → Int32) (iq_466 : Nat → Int32) (mk_467 : Nat → Int32) (me_468 : Nat → Int32) => ((r_461 = 0 → post 0 gm_462 ks_463 os_464 ts_465 iq_466 mk_467 me_468) ∧ (¬ (r_461 = 0) → (vp_in p0 3 ∧ post (iq_466 p0.toNatClampNeg) gm_462 ks_463 os_464 ts_465 (upd iq_466 p0.toNatClampNeg 500) mk_467 me_468)))) gm ks os ts iq mk me 0)))) p0)
set_option maxHeartbeats 4000000 in
set_option maxRecDepth 100000 in
theorem c_X3_refill (E : EV) (l : Launch) (am : Nat → Nat) (gm : Nat → Int32) (ks : Nat → Int32) (os : Nat → Int32) (ts : Nat → Int32) (iq : Nat → Int32) (mk : Nat → Int32) (me : Nat → Int32) (p0 : Int32) (hz : Nat) (post : Int32 → (Nat → Int32) → (Nat → Int32) → (Nat → Int32) → (Nat → Int32) → (Nat → Int32) → (Nat → Int32) → (Nat → Int32) → Prop) (hw : wp_X3_refill E post gm ks os ts iq mk me p0) : Met l yX3_refill (Cond.code yX3_refill cX3_refill 3 (some .int) :: ALLW) ({ frames := 2, cells := 0, slots := 0, locals := 42 } : Room) (va_Pc [.ref (am 0), .int p0] (preM E (wM E am gm ks os ts iq mk me) hz)) (va_Qi (fun (r : Int32) (u : (Nat → Int32) × (Nat → Int32) × (Nat → Int32) × (Nat → Int32) × (Nat → Int32) × (Nat → Int32) × (Nat → Int32)) => post r u.1 u.2.1 u.2.2.1 u.2.2.2.1 u.2.2.2.2.1 u.2.2.2.2.2.1 u.2.2.2.2.2.2) (fun (u : (Nat → Int32) × (Nat → Int32) × (Nat → Int32) × (Nat → Int32) × (Nat → Int32) × (Nat → Int32) × (Nat → Int32)) t => va_P (eD E) vwCl (wM E am u.1 u.2.1 u.2.2.1 u.2.2.2.1 u.2.2.2.2.1 u.2.2.2.2.2.1 u.2.2.2.2.2.2) t.heap ∧ va_D (va_A (wM E am gm ks os ts iq mk me) hz) (wM E am u.1 u.2.1 u.2.2.1 u.2.2.2.1 u.2.2.2.2.1 u.2.2.2.2.2.1 u.2.2.2.2.2.2)) (va_A (wM E am gm ks os ts iq mk me) hz)) 0 0 (va_A (wM E am gm ks os ts iq mk me) hz) := by
  refine Met.ofW (cc := cX3_refill) (maxL := 3) (ret := (some .int)) (by decide) rfl ?_
  intro p e s m args below meth c s₁ B hml hv
  obtain ⟨rfl, hpre⟩ := hv
  have hx := B.exec
  have hb := B.bytes
  have hr := B.returns
  have hlocks := B.notSynchronized
  have hts := atoms_spec (ws := (Cond.code yX3_refill cX3_refill 3 (some .int) :: ALLW)) B.pre
  have hta : ∀ w ∈ ALLW, w.before ([.ref (am 0), .int p0] : List Value).toArray s = true := fun w h => hts w (List.mem_cons_of_mem _ h)
  have hown : s.vm.findClass RX3 = some m.cls := findClass_of_methodNamed B.named
  obtain ⟨hsz, hP, hKE, hD0, hZ⟩ := hpre
  subst hsz
  have hD := hD0.self (sz := s.heap.size)
  generalize hAe : va_A (wM E am gm ks os ts iq mk me) s.heap.size = A at hD hZ ⊢
  have hA : ∀ q : Nat, s.heap.size ≤ q → A q := fun q h => by rw [← hAe]; exact Or.inr h
  have hS : va_S A s.heap s.heap [] := va_S.rf
  have hP : va_P (eD E) vwCl [((am 0), .inr (4, [.int (gm 0), .int (gm 1), .int (gm 2), .int (gm 3), .int (gm 4), .ref (am 1), .ref (am 2), .ref (am 3), .int (gm 8), .int (gm 9), .int (gm 10), .int (gm 11), .int (gm 12), .int (gm 13), .int (gm 14), .int (gm 15), .int (gm 16), .int (gm 17), .int (gm 18), .int (gm 19), .int (gm 20), .ref (am 4), .int (gm 22), .int (gm 23), .ref (am 5), .ref (am 6), .int (gm 26)])), ((am 1), .inl (eC E 0, 32, .inl ks)), ((am 2), .inl (eC E 0, 32, .inl os)), ((am 3), .inl (eC E 0, 32, .inl ts)), ((am 4), .inl (eC E 0, 3, .inl iq)), ((am 5), .inl (eC E 0, 320, .inl mk)), ((am 6), .inl (eC E 0, 320, .inl me))] s.heap := hP
  have hD : va_D A [((am 0), .inr (4, [.int (gm 0), .int (gm 1), .int (gm 2), .int (gm 3), .int (gm 4), .ref (am 1), .ref (am 2), .ref (am 3), .int (gm 8), .int (gm 9), .int (gm 10), .int (gm 11), .int (gm 12), .int (gm 13), .int (gm 14), .int (gm 15), .int (gm 16), .int (gm 17), .int (gm 18), .int (gm 19), .int (gm 20), .ref (am 4), .int (gm 22), .int (gm 23), .ref (am 5), .ref (am 6), .int (gm 26)])), ((am 1), .inl (eC E 0, 32, .inl ks)), ((am 2), .inl (eC E 0, 32, .inl os)), ((am 3), .inl (eC E 0, 32, .inl ts)), ((am 4), .inl (eC E 0, 3, .inl iq)), ((am 5), .inl (eC E 0, 320, .inl mk)), ((am 6), .inl (eC E 0, 320, .inl me))] := hD
  have hl := lv_entry ([.ref (am 0), .int p0]) (n := 3) (Nat.le_of_ble_eq_true rfl)
  rw [lg_entry_eq]
  generalize (lg_sl ([.ref (am 0), .int p0]) ++ List.replicate (3 - (lg_sl ([.ref (am 0), .int p0])).length) Slot.unset).toArray = ls at hl ⊢
  have hl : lv_has ls 3 [(0, .ref (am 0)), (1, .int p0)] := hl
  unfold wp_X3_refill at hw
  refine lv_aload_n hx hb dX3_refill_0 rfl (lv_at hl 0 rfl) ?_
  refine lv_iload_n hx hb dX3_refill_1 rfl (lv_at hl 1 rfl) ?_
  have hPc : va_P (eD E) vwCl [] s.heap := va_P_nil
  refine vp_callSi (va_Run.run (va_runS (As := [.int p0]) (rest := [.ref (am 0)]) ⟨hx, hb, hml, hown, hta⟩ (c_X3_isPen E l p0 _ hw) (pcS (n := 1) hta tw_737 tw_735 tw_6 tw_736 rfl rfl hd_X3_isPen ⟨Nat.le_of_ble_eq_true rfl, Nat.le_of_ble_eq_true rfl⟩) ⟨fbR, fun U hU hW => ⟨rfl, preR.mk hPc hKE hU hW⟩⟩ rfl rfl hl.1 rfl (lv_room (Nat.le_of_ble_eq_true rfl)) dX3_refill_2 ⟨Nat.le_of_ble_eq_true rfl, Nat.le_of_ble_eq_true rfl⟩)) (fun r_449 hw => ?_)
  refine lv_if_eq (tgt := 12) hx hb dX3_refill_5 (by decide) (fun c_450 => ?_) (fun c_450 => ?_)
  · have hw := hw.1 c_450
    refine lv_iconst (v := 1) hx hb dX3_refill_12 (by decide) ?_
    have hPc : va_P (eD E) vwCl (wM E am gm ks os ts iq mk me) s.heap := hP
    have hDc : va_D A (wM E am gm ks os ts iq mk me) := hD
    have hFc : ∀ q, va_A (wM E am gm ks os ts iq mk me) s.heap.size q → A q := frS hDc hS hA
    refine va_calli (va_runV (As := [.int 1]) (rest := []) ⟨hx, hb, hml, hown, hta⟩ (c_X3_goes E l am gm ks os ts iq mk me 1 s.heap.size _ hw) (pcV (n := 1) hta tw_650 tw_647 tw_6 tw_649 tp_32 rfl rfl hd_X3_goes ⟨Nat.le_of_ble_eq_true rfl, Nat.le_of_ble_eq_true rfl⟩) ⟨fbM, va_recv hKE.1 hP (ci := 4) (q0 := 0) rfl rfl, fun U hU hW => ⟨rfl, preM.mk hPc hKE hDc hZ hS hFc hU hW⟩⟩ rfl rfl hl.1 rfl (lv_room (Nat.le_of_ble_eq_true rfl)) dX3_refill_13 ⟨Nat.le_of_ble_eq_true rfl, Nat.le_of_ble_eq_true rfl⟩) hS (fun q _ h => hFc q h) hFc (fun r_451 u t H locs ht hvm hw hB hz1 hk1 hS => ?_)
    obtain ⟨gm_452, ks_453, os_454, ts_455, iq_456, mk_457, me_458⟩ := u
    obtain ⟨hP1, hD1⟩ := hB
    rw [ht] at hP1
    try dsimp only at hw hP1 hD1
    have hP : va_P (eD E) vwCl [((am 0), .inr (4, [.int (gm_452 0), .int (gm_452 1), .int (gm_452 2), .int (gm_452 3), .int (gm_452 4), .ref (am 1), .ref (am 2), .ref (am 3), .int (gm_452 8), .int (gm_452 9), .int (gm_452 10), .int (gm_452 11), .int (gm_452 12), .int (gm_452 13), .int (gm_452 14), .int (gm_452 15), .int (gm_452 16), .int (gm_452 17), .int (gm_452 18), .int (gm_452 19), .int (gm_452 20), .ref (am 4), .int (gm_452 22), .int (gm_452 23), .ref (am 5), .ref (am 6), .int (gm_452 26)])), ((am 1), .inl (eC E 0, 32, .inl ks_453)), ((am 2), .inl (eC E 0, 32, .inl os_454)), ((am 3), .inl (eC E 0, 32, .inl ts_455)), ((am 4), .inl (eC E 0, 3, .inl iq_456)), ((am 5), .inl (eC E 0, 320, .inl mk_457)), ((am 6), .inl (eC E 0, 320, .inl me_458))] H := hP1
    have hD : va_D A [((am 0), .inr (4, [.int (gm_452 0), .int (gm_452 1), .int (gm_452 2), .int (gm_452 3), .int (gm_452 4), .ref (am 1), .ref (am 2), .ref (am 3), .int (gm_452 8), .int (gm_452 9), .int (gm_452 10), .int (gm_452 11), .int (gm_452 12), .int (gm_452 13), .int (gm_452 14), .int (gm_452 15), .int (gm_452 16), .int (gm_452 17), .int (gm_452 18), .int (gm_452 19), .int (gm_452 20), .ref (am 4), .int (gm_452 22), .int (gm_452 23), .ref (am 5), .ref (am 6), .int (gm_452 26)])), ((am 1), .inl (eC E 0, 32, .inl ks_453)), ((am 2), .inl (eC E 0, 32, .inl os_454)), ((am 3), .inl (eC E 0, 32, .inl ts_455)), ((am 4), .inl (eC E 0, 3, .inl iq_456)), ((am 5), .inl (eC E 0, 320, .inl mk_457)), ((am 6), .inl (eC E 0, 320, .inl me_458))] := hD1.weaken (fun _ q _ h => hFc q.1 h)
    refine lv_if_ne (tgt := 21) hx hb dX3_refill_16 (by decide) (fun c_459 => ?_) (fun c_459 => ?_)
    · have hw := hw.2 c_459
      refine lv_aload_n hx hb dX3_refill_21 rfl (lv_at hl 0 rfl) ?_
      refine va_get (D := eD E) (ci := 4) (v := .ref (am 4)) (C := RX3) (T := TX3) (N := 27) hx hb hta lay_X3 hown hKE.1 hP 0 rfl rfl 21 (by decide) (hta _ tw_575) (fun _ h9 => h9) rfl dX3_refill_22 ?_
      refine lv_iload_n hx hb dX3_refill_25 rfl (lv_at hl 1 rfl) ?_
      obtain ⟨hi_460, hw⟩ := hw
      refine va_iald hx hb hKE.1 hP 4 0 rfl rfl hi_460 dX3_refill_26 ?_
      refine lv_istore_n (lv' := [(2, .int (iq_456 p0.toNatClampNeg)), (0, .ref (am 0)), (1, .int p0)]) hx hb dX3_refill_27 rfl hl (by decide) rfl (fun ls hl => ?_)
      refine lv_aload_n hx hb dX3_refill_28 rfl (lv_at hl 1 rfl) ?_
      refine va_get (D := eD E) (ci := 4) (v := .ref (am 4)) (C := RX3) (T := TX3) (N := 27) hx hb hta lay_X3 hown hKE.1 hP 0 rfl rfl 21 (by decide) (hta _ tw_575) (fun _ h9 => h9) rfl dX3_refill_29 ?_
      refine lv_iload_n hx hb dX3_refill_32 rfl (lv_at hl 2 rfl) ?_
      refine lv_sipush (v := 500) hx hb dX3_refill_33 (by decide) ?_
      refine va_iast hx hb hKE.1 hP hD hS 4 0 rfl rfl hi_460 dX3_refill_36 (fun H locs hP hD hS => ?_)
      have hP : va_P (eD E) vwCl [((am 0), .inr (4, [.int (gm_452 0), .int (gm_452 1), .int (gm_452 2), .int (gm_452 3), .int (gm_452 4), .ref (am 1), .ref (am 2), .ref (am 3), .int (gm_452 8), .int (gm_452 9), .int (gm_452 10), .int (gm_452 11), .int (gm_452 12), .int (gm_452 13), .int (gm_452 14), .int (gm_452 15), .int (gm_452 16), .int (gm_452 17), .int (gm_452 18), .int (gm_452 19), .int (gm_452 20), .ref (am 4), .int (gm_452 22), .int (gm_452 23), .ref (am 5), .ref (am 6), .int (gm_452 26)])), ((am 1), .inl (eC E 0, 32, .inl ks_453)), ((am 2), .inl (eC E 0, 32, .inl os_454)), ((am 3), .inl (eC E 0, 32, .inl ts_455)), ((am 4), .inl (eC E 0, 3, .inl (upd iq_456 p0.toNatClampNeg 500))), ((am 5), .inl (eC E 0, 320, .inl mk_457)), ((am 6), .inl (eC E 0, 320, .inl me_458))] H := hP
      have hD : va_D A [((am 0), .inr (4, [.int (gm_452 0), .int (gm_452 1), .int (gm_452 2), .int (gm_452 3), .int (gm_452 4), .ref (am 1), .ref (am 2), .ref (am 3), .int (gm_452 8), .int (gm_452 9), .int (gm_452 10), .int (gm_452 11), .int (gm_452 12), .int (gm_452 13), .int (gm_452 14), .int (gm_452 15), .int (gm_452 16), .int (gm_452 17), .int (gm_452 18), .int (gm_452 19), .int (gm_452 20), .ref (am 4), .int (gm_452 22), .int (gm_452 23), .ref (am 5), .ref (am 6), .int (gm_452 26)])), ((am 1), .inl (eC E 0, 32, .inl ks_453)), ((am 2), .inl (eC E 0, 32, .inl os_454)), ((am 3), .inl (eC E 0, 32, .inl ts_455)), ((am 4), .inl (eC E 0, 3, .inl (upd iq_456 p0.toNatClampNeg 500))), ((am 5), .inl (eC E 0, 320, .inl mk_457)), ((am 6), .inl (eC E 0, 320, .inl me_458))] := hD
      refine lv_iload_n hx hb dX3_refill_37 rfl (lv_at hl 0 rfl) ?_
      have hP9 : va_P (eD E) vwCl (wM E am gm_452 ks_453 os_454 ts_455 (upd iq_456 p0.toNatClampNeg 500) mk_457 me_458) H := hP
      have hD9 : va_D A (wM E am gm_452 ks_453 os_454 ts_455 (upd iq_456 p0.toNatClampNeg 500) mk_457 me_458) := hD
      exact W.iret (v := (iq_456 p0.toNatClampNeg)) hx hb hr (fun t ht hW => ⟨⟨(iq_456 p0.toNatClampNeg), (gm_452, ks_453, os_454, ts_455, (upd iq_456 p0.toNatClampNeg 500), mk_457, me_458), rfl, hw, ⟨by rw [ht]; exact hP9, hD9⟩⟩, hS.F ht⟩) hS.2.2 dX3_refill_38
    · have hw := hw.1 c_459
      refine lv_iconst (v := 0) hx hb dX3_refill_19 (by decide) ?_
      have hP9 : va_P (eD E) vwCl (wM E am gm_452 ks_453 os_454 ts_455 iq_456 mk_457 me_458) H := hP
      have hD9 : va_D A (wM E am gm_452 ks_453 os_454 ts_455 iq_456 mk_457 me_458) := hD
      exact W.iret (v := 0) hx hb hr (fun t ht hW => ⟨⟨0, (gm_452, ks_453, os_454, ts_455, iq_456, mk_457, me_458), rfl, hw, ⟨by rw [ht]; exact hP9, hD9⟩⟩, hS.F ht⟩) hS.2.2 dX3_refill_20
  · have hw := hw.2 c_450
    refine lv_iconst (v := 0) hx hb dX3_refill_8 (by decide) ?_
    refine lv_goto (tgt := 13) hx hb dX3_refill_9 (by decide) ?_
    have hPc : va_P (eD E) vwCl (wM E am gm ks os ts iq mk me) s.heap := hP
    have hDc : va_D A (wM E am gm ks os ts iq mk me) := hD
    have hFc : ∀ q, va_A (wM E am gm ks os ts iq mk me) s.heap.size q → A q := frS hDc hS hA
    refine va_calli (va_runV (As := [.int 0]) (rest := []) ⟨hx, hb, hml, hown, hta⟩ (c_X3_goes E l am gm ks os ts iq mk me 0 s.heap.size _ hw) (pcV (n := 1) hta tw_650 tw_647 tw_6 tw_649 tp_32 rfl rfl hd_X3_goes ⟨Nat.le_of_ble_eq_true rfl, Nat.le_of_ble_eq_true rfl⟩) ⟨fbM, va_recv hKE.1 hP (ci := 4) (q0 := 0) rfl rfl, fun U hU hW => ⟨rfl, preM.mk hPc hKE hDc hZ hS hFc hU hW⟩⟩ rfl rfl hl.1 rfl (lv_room (Nat.le_of_ble_eq_true rfl)) dX3_refill_13 ⟨Nat.le_of_ble_eq_true rfl, Nat.le_of_ble_eq_true rfl⟩) hS (fun q _ h => hFc q h) hFc (fun r_461 u t H locs ht hvm hw hB hz1 hk1 hS => ?_)
    obtain ⟨gm_462, ks_463, os_464, ts_465, iq_466, mk_467, me_468⟩ := u
    obtain ⟨hP1, hD1⟩ := hB
    rw [ht] at hP1
    try dsimp only at hw hP1 hD1
    have hP : va_P (eD E) vwCl [((am 0), .inr (4, [.int (gm_462 0), .int (gm_462 1), .int (gm_462 2), .int (gm_462 3), .int (gm_462 4), .ref (am 1), .ref (am 2), .ref (am 3), .int (gm_462 8), .int (gm_462 9), .int (gm_462 10), .int (gm_462 11), .int (gm_462 12), .int (gm_462 13), .int (gm_462 14), .int (gm_462 15), .int (gm_462 16), .int (gm_462 17), .int (gm_462 18), .int (gm_462 19), .int (gm_462 20), .ref (am 4), .int (gm_462 22), .int (gm_462 23), .ref (am 5), .ref (am 6), .int (gm_462 26)])), ((am 1), .inl (eC E 0, 32, .inl ks_463)), ((am 2), .inl (eC E 0, 32, .inl os_464)), ((am 3), .inl (eC E 0, 32, .inl ts_465)), ((am 4), .inl (eC E 0, 3, .inl iq_466)), ((am 5), .inl (eC E 0, 320, .inl mk_467)), ((am 6), .inl (eC E 0, 320, .inl me_468))] H := hP1
    have hD : va_D A [((am 0), .inr (4, [.int (gm_462 0), .int (gm_462 1), .int (gm_462 2), .int (gm_462 3), .int (gm_462 4), .ref (am 1), .ref (am 2), .ref (am 3), .int (gm_462 8), .int (gm_462 9), .int (gm_462 10), .int (gm_462 11), .int (gm_462 12), .int (gm_462 13), .int (gm_462 14), .int (gm_462 15), .int (gm_462 16), .int (gm_462 17), .int (gm_462 18), .int (gm_462 19), .int (gm_462 20), .ref (am 4), .int (gm_462 22), .int (gm_462 23), .ref (am 5), .ref (am 6), .int (gm_462 26)])), ((am 1), .inl (eC E 0, 32, .inl ks_463)), ((am 2), .inl (eC E 0, 32, .inl os_464)), ((am 3), .inl (eC E 0, 32, .inl ts_465)), ((am 4), .inl (eC E 0, 3, .inl iq_466)), ((am 5), .inl (eC E 0, 320, .inl mk_467)), ((am 6), .inl (eC E 0, 320, .inl me_468))] := hD1.weaken (fun _ q _ h => hFc q.1 h)
    refine lv_if_ne (tgt := 21) hx hb dX3_refill_16 (by decide) (fun c_469 => ?_) (fun c_469 => ?_)
    · have hw := hw.2 c_469
      refine lv_aload_n hx hb dX3_refill_21 rfl (lv_at hl 0 rfl) ?_
      refine va_get (D := eD E) (ci := 4) (v := .ref (am 4)) (C := RX3) (T := TX3) (N := 27) hx hb hta lay_X3 hown hKE.1 hP 0 rfl rfl 21 (by decide) (hta _ tw_575) (fun _ h9 => h9) rfl dX3_refill_22 ?_
      refine lv_iload_n hx hb dX3_refill_25 rfl (lv_at hl 1 rfl) ?_
      obtain ⟨hi_470, hw⟩ := hw
      refine va_iald hx hb hKE.1 hP 4 0 rfl rfl hi_470 dX3_refill_26 ?_
      refine lv_istore_n (lv' := [(2, .int (iq_466 p0.toNatClampNeg)), (0, .ref (am 0)), (1, .int p0)]) hx hb dX3_refill_27 rfl hl (by decide) rfl (fun ls hl => ?_)
      refine lv_aload_n hx hb dX3_refill_28 rfl (lv_at hl 1 rfl) ?_
      refine va_get (D := eD E) (ci := 4) (v := .ref (am 4)) (C := RX3) (T := TX3) (N := 27) hx hb hta lay_X3 hown hKE.1 hP 0 rfl rfl 21 (by decide) (hta _ tw_575) (fun _ h9 => h9) rfl dX3_refill_29 ?_
      refine lv_iload_n hx hb dX3_refill_32 rfl (lv_at hl 2 rfl) ?_
      refine lv_sipush (v := 500) hx hb dX3_refill_33 (by decide) ?_
      refine va_iast hx hb hKE.1 hP hD hS 4 0 rfl rfl hi_470 dX3_refill_36 (fun H locs hP hD hS => ?_)
      have hP : va_P (eD E) vwCl [((am 0), .inr (4, [.int (gm_462 0), .int (gm_462 1), .int (gm_462 2), .int (gm_462 3), .int (gm_462 4), .ref (am 1), .ref (am 2), .ref (am 3), .int (gm_462 8), .int (gm_462 9), .int (gm_462 10), .int (gm_462 11), .int (gm_462 12), .int (gm_462 13), .int (gm_462 14), .int (gm_462 15), .int (gm_462 16), .int (gm_462 17), .int (gm_462 18), .int (gm_462 19), .int (gm_462 20), .ref (am 4), .int (gm_462 22), .int (gm_462 23), .ref (am 5), .ref (am 6), .int (gm_462 26)])), ((am 1), .inl (eC E 0, 32, .inl ks_463)), ((am 2), .inl (eC E 0, 32, .inl os_464)), ((am 3), .inl (eC E 0, 32, .inl ts_465)), ((am 4), .inl (eC E 0, 3, .inl (upd iq_466 p0.toNatClampNeg 500))), ((am 5), .inl (eC E 0, 320, .inl mk_467)), ((am 6), .inl (eC E 0, 320, .inl me_468))] H := hP
      have hD : va_D A [((am 0), .inr (4, [.int (gm_462 0), .int (gm_462 1), .int (gm_462 2), .int (gm_462 3), .int (gm_462 4), .ref (am 1), .ref (am 2), .ref (am 3), .int (gm_462 8), .int (gm_462 9), .int (gm_462 10), .int (gm_462 11), .int (gm_462 12), .int (gm_462 13), .int (gm_462 14), .int (gm_462 15), .int (gm_462 16), .int (gm_462 17), .int (gm_462 18), .int (gm_462 19), .int (gm_462 20), .ref (am 4), .int (gm_462 22), .int (gm_462 23), .ref (am 5), .ref (am 6), .int (gm_462 26)])), ((am 1), .inl (eC E 0, 32, .inl ks_463)), ((am 2), .inl (eC E 0, 32, .inl os_464)), ((am 3), .inl (eC E 0, 32, .inl ts_465)), ((am 4), .inl (eC E 0, 3, .inl (upd iq_466 p0.toNatClampNeg 500))), ((am 5), .inl (eC E 0, 320, .inl mk_467)), ((am 6), .inl (eC E 0, 320, .inl me_468))] := hD
      refine lv_iload_n hx hb dX3_refill_37 rfl (lv_at hl 0 rfl) ?_
      have hP9 : va_P (eD E) vwCl (wM E am gm_462 ks_463 os_464 ts_465 (upd iq_466 p0.toNatClampNeg 500) mk_467 me_468) H := hP
      have hD9 : va_D A (wM E am gm_462 ks_463 os_464 ts_465 (upd iq_466 p0.toNatClampNeg 500) mk_467 me_468) := hD
      exact W.iret (v := (iq_466 p0.toNatClampNeg)) hx hb hr (fun t ht hW => ⟨⟨(iq_466 p0.toNatClampNeg), (gm_462, ks_463, os_464, ts_465, (upd iq_466 p0.toNatClampNeg 500), mk_467, me_468), rfl, hw, ⟨by rw [ht]; exact hP9, hD9⟩⟩, hS.F ht⟩) hS.2.2 dX3_refill_38
    · have hw := hw.1 c_469
      refine lv_iconst (v := 0) hx hb dX3_refill_19 (by decide) ?_
      have hP9 : va_P (eD E) vwCl (wM E am gm_462 ks_463 os_464 ts_465 iq_466 mk_467 me_468) H := hP
      have hD9 : va_D A (wM E am gm_462 ks_463 os_464 ts_465 iq_466 mk_467 me_468) := hD
      exact W.iret (v := 0) hx hb hr (fun t ht hW => ⟨⟨0, (gm_462, ks_463, os_464, ts_465, iq_466, mk_467, me_468), rfl, hw, ⟨by rw [ht]; exact hP9, hD9⟩⟩, hS.F ht⟩) hS.2.2 dX3_refill_20
def wp_X3_pour (E : EV) (post : Int32 → (Nat → Int32) → (Nat → Int32) → (Nat → Int32) → (Nat → Int32) → (Nat → Int32) → (Nat → Int32) → (Nat → Int32) → Prop) (gm : Nat → Int32) (ks : Nat → Int32) (os : Nat → Int32) (ts : Nat → Int32) (iq : Nat → Int32) (mk : Nat → Int32) (me : Nat → Int32) (p0 : Int32) (p1 : Int32) : Prop := (wp_X3_isPen E (fun r_471 : Int32 => ((r_471 = 0 → (wp_X3_goes E (fun (r_497 : Int32) (gm_498 : Nat → Int32) (ks_499 : Nat → Int32) (os_500 : Nat → Int32) (ts_501 : Nat → Int32) (iq_502 : Nat → Int32) (mk_503 : Nat → Int32) (me_504 : Nat → Int32) => ((r_497 = 0 → post 0 gm_498 ks_499 os_500 ts_501 iq_502 mk_503 me_504) ∧ (¬ (r_497 = 0) → (vp_in p0 3 ∧ ((p1 ≤ (iq_502 p0.toNatClampNeg) → post ((upd iq_502 p0.toNatClampNeg ((iq_502 p0.toNatClampNeg) - p1)) p0.toNatClampNeg) gm_498 ks_499 os_500 ts_501 (upd iq_502 p0.toNatClampNeg ((iq_502 p0.toNatClampNeg) - p1)) mk_503 me_504) ∧ (¬ (p1 ≤ (iq_502 p0.toNatClampNeg)) → post ((upd iq_502 p0.toNatClampNeg 0) p0.toNatClampNeg) gm_498 ks_499 os_500 ts_501 (upd iq_502 p0.toNatClampNeg 0) mk_503 me_504)))))) gm ks os ts iq mk me 1)) ∧ (¬ (r_471 = 0) → (wp_X3_isIn E (fun r_473 : Int32 => ((r_473 = 0 → (wp_X3_goes E (fun (r_475 : Int32) (gm_476 : Nat → Int32) (ks_477 : Nat → Int32) (os_478 : Nat → Int32) (ts_479 : Nat → Int32) (iq_480 : Nat → Int32) (mk_481 : Nat → Int32) (me_482 : Nat → Int32) => ((r_475 = 0 → post 0 gm_476 ks_477 os_478 ts_479 iq_480 mk_481 me_482) ∧ (¬ (r_475 = 0) → (vp_in p0 3 ∧ ((p1 ≤ (iq_480 p0.toNatClampNeg) → post ((upd iq_480 p0.toNatClampNeg ((iq_480 p0.toNatClampNeg) - p1)) p0.toNatClampNeg) gm_476 ks_477 os_478 ts_479 (upd iq_480 p0.toNatClampNeg ((iq_480 p0.toNatClampNeg) - p1)) mk_481 me_482) ∧ (¬ (p1 ≤ (iq_480 p0.toNatClampNeg)) → post ((upd iq_480 p0.toNatClampNeg 0) p0.toNatClampNeg) gm_476 ks_477 os_478 ts_479 (upd iq_480 p0.toNatClampNeg 0) mk_481 me_482)))))) gm ks os ts iq mk me 2)) ∧ (¬ (r_473 = 0) → (wp_X3_goes E (fun (r_486 : Int32) (gm_487 : Nat → Int32) (ks_488 : Nat → Int32) (os_489 : Nat → Int32) (ts_490 : Nat → Int32) (iq_491 : Nat → Int32) (mk_492 : Nat → Int32) (me_493 : Nat → Int32) => ((r_486 = 0 → post 0 gm_487 ks_488 os_489 ts_490 iq_491 mk_492 me_493) ∧ (¬ (r_486 = 0) → (vp_in p0 3 ∧ ((p1 ≤ (iq_491 p0.toNatClampNeg) → post ((upd iq_491 p0.toNatClampNeg ((iq_491 p0.toNatClampNeg) - p1)) p0.toNatClampNeg) gm_487 ks_488 os_489 ts_490 (upd iq_491 p0.toNatClampNeg ((iq_491 p0.toNatClampNeg) - p1)) mk_492 me_493) ∧ (¬ (p1 ≤ (iq_491 p0.toNatClampNeg)) → post ((upd iq_491 p0.toNatClampNeg 0) p0.toNatClampNeg) gm_487 ks_488 os_489 ts_490 (upd iq_491 p0.toNatClampNeg 0) mk_492 me_493)))))) gm ks os ts iq mk me 0)))) p1 1 500)))) p0)
set_option maxHeartbeats 4000000 in
set_option maxRecDepth 100000 in
theorem c_X3_pour (E : EV) (l : Launch) (am : Nat → Nat) (gm : Nat → Int32) (ks : Nat → Int32) (os : Nat → Int32) (ts : Nat → Int32) (iq : Nat → Int32) (mk : Nat → Int32) (me : Nat → Int32) (p0 : Int32) (p1 : Int32) (hz : Nat) (post : Int32 → (Nat → Int32) → (Nat → Int32) → (Nat → Int32) → (Nat → Int32) → (Nat → Int32) → (Nat → Int32) → (Nat → Int32) → Prop) (hw : wp_X3_pour E post gm ks os ts iq mk me p0 p1) : Met l yX3_pour (Cond.code yX3_pour cX3_pour 3 (some .int) :: ALLW) ({ frames := 2, cells := 0, slots := 0, locals := 42 } : Room) (va_Pc [.ref (am 0), .int p0, .int p1] (preM E (wM E am gm ks os ts iq mk me) hz)) (va_Qi (fun (r : Int32) (u : (Nat → Int32) × (Nat → Int32) × (Nat → Int32) × (Nat → Int32) × (Nat → Int32) × (Nat → Int32) × (Nat → Int32)) => post r u.1 u.2.1 u.2.2.1 u.2.2.2.1 u.2.2.2.2.1 u.2.2.2.2.2.1 u.2.2.2.2.2.2) (fun (u : (Nat → Int32) × (Nat → Int32) × (Nat → Int32) × (Nat → Int32) × (Nat → Int32) × (Nat → Int32) × (Nat → Int32)) t => va_P (eD E) vwCl (wM E am u.1 u.2.1 u.2.2.1 u.2.2.2.1 u.2.2.2.2.1 u.2.2.2.2.2.1 u.2.2.2.2.2.2) t.heap ∧ va_D (va_A (wM E am gm ks os ts iq mk me) hz) (wM E am u.1 u.2.1 u.2.2.1 u.2.2.2.1 u.2.2.2.2.1 u.2.2.2.2.2.1 u.2.2.2.2.2.2)) (va_A (wM E am gm ks os ts iq mk me) hz)) 0 0 (va_A (wM E am gm ks os ts iq mk me) hz) := by
  refine Met.ofW (cc := cX3_pour) (maxL := 3) (ret := (some .int)) (by decide) rfl ?_
  intro p e s m args below meth c s₁ B hml hv
  obtain ⟨rfl, hpre⟩ := hv
  have hx := B.exec
  have hb := B.bytes
  have hr := B.returns
  have hlocks := B.notSynchronized
  have hts := atoms_spec (ws := (Cond.code yX3_pour cX3_pour 3 (some .int) :: ALLW)) B.pre
  have hta : ∀ w ∈ ALLW, w.before ([.ref (am 0), .int p0, .int p1] : List Value).toArray s = true := fun w h => hts w (List.mem_cons_of_mem _ h)
  have hown : s.vm.findClass RX3 = some m.cls := findClass_of_methodNamed B.named
  obtain ⟨hsz, hP, hKE, hD0, hZ⟩ := hpre
  subst hsz
  have hD := hD0.self (sz := s.heap.size)
  generalize hAe : va_A (wM E am gm ks os ts iq mk me) s.heap.size = A at hD hZ ⊢
  have hA : ∀ q : Nat, s.heap.size ≤ q → A q := fun q h => by rw [← hAe]; exact Or.inr h
  have hS : va_S A s.heap s.heap [] := va_S.rf
  have hP : va_P (eD E) vwCl [((am 0), .inr (4, [.int (gm 0), .int (gm 1), .int (gm 2), .int (gm 3), .int (gm 4), .ref (am 1), .ref (am 2), .ref (am 3), .int (gm 8), .int (gm 9), .int (gm 10), .int (gm 11), .int (gm 12), .int (gm 13), .int (gm 14), .int (gm 15), .int (gm 16), .int (gm 17), .int (gm 18), .int (gm 19), .int (gm 20), .ref (am 4), .int (gm 22), .int (gm 23), .ref (am 5), .ref (am 6), .int (gm 26)])), ((am 1), .inl (eC E 0, 32, .inl ks)), ((am 2), .inl (eC E 0, 32, .inl os)), ((am 3), .inl (eC E 0, 32, .inl ts)), ((am 4), .inl (eC E 0, 3, .inl iq)), ((am 5), .inl (eC E 0, 320, .inl mk)), ((am 6), .inl (eC E 0, 320, .inl me))] s.heap := hP
  have hD : va_D A [((am 0), .inr (4, [.int (gm 0), .int (gm 1), .int (gm 2), .int (gm 3), .int (gm 4), .ref (am 1), .ref (am 2), .ref (am 3), .int (gm 8), .int (gm 9), .int (gm 10), .int (gm 11), .int (gm 12), .int (gm 13), .int (gm 14), .int (gm 15), .int (gm 16), .int (gm 17), .int (gm 18), .int (gm 19), .int (gm 20), .ref (am 4), .int (gm 22), .int (gm 23), .ref (am 5), .ref (am 6), .int (gm 26)])), ((am 1), .inl (eC E 0, 32, .inl ks)), ((am 2), .inl (eC E 0, 32, .inl os)), ((am 3), .inl (eC E 0, 32, .inl ts)), ((am 4), .inl (eC E 0, 3, .inl iq)), ((am 5), .inl (eC E 0, 320, .inl mk)), ((am 6), .inl (eC E 0, 320, .inl me))] := hD
  have hl := lv_entry ([.ref (am 0), .int p0, .int p1]) (n := 3) (Nat.le_of_ble_eq_true rfl)
  rw [lg_entry_eq]
  generalize (lg_sl ([.ref (am 0), .int p0, .int p1]) ++ List.replicate (3 - (lg_sl ([.ref (am 0), .int p0, .int p1])).length) Slot.unset).toArray = ls at hl ⊢
  have hl : lv_has ls 3 [(0, .ref (am 0)), (1, .int p0), (2, .int p1)] := hl
  unfold wp_X3_pour at hw
  refine lv_aload_n hx hb dX3_pour_0 rfl (lv_at hl 0 rfl) ?_
  refine lv_iload_n hx hb dX3_pour_1 rfl (lv_at hl 1 rfl) ?_
  have hPc : va_P (eD E) vwCl [] s.heap := va_P_nil
  refine vp_callSi (va_Run.run (va_runS (As := [.int p0]) (rest := [.ref (am 0)]) ⟨hx, hb, hml, hown, hta⟩ (c_X3_isPen E l p0 _ hw) (pcS (n := 1) hta tw_737 tw_735 tw_6 tw_736 rfl rfl hd_X3_isPen ⟨Nat.le_of_ble_eq_true rfl, Nat.le_of_ble_eq_true rfl⟩) ⟨fbR, fun U hU hW => ⟨rfl, preR.mk hPc hKE hU hW⟩⟩ rfl rfl hl.1 rfl (lv_room (Nat.le_of_ble_eq_true rfl)) dX3_pour_2 ⟨Nat.le_of_ble_eq_true rfl, Nat.le_of_ble_eq_true rfl⟩)) (fun r_471 hw => ?_)
  refine lv_if_ne (tgt := 12) hx hb dX3_pour_5 (by decide) (fun c_472 => ?_) (fun c_472 => ?_)
  · have hw := hw.2 c_472
    refine lv_iload_n hx hb dX3_pour_12 rfl (lv_at hl 2 rfl) ?_
    refine lv_iconst (v := 1) hx hb dX3_pour_13 (by decide) ?_
    refine lv_sipush (v := 500) hx hb dX3_pour_14 (by decide) ?_
    have hPc : va_P (eD E) vwCl [] s.heap := va_P_nil
    refine vp_callSi (va_Run.run (va_runS (As := [.int p1, .int 1, .int 500]) (rest := [.ref (am 0)]) ⟨hx, hb, hml, hown, hta⟩ (c_X3_isIn E l p1 1 500 _ hw) (pcS (n := 3) hta tw_646 tw_644 tw_6 tw_645 rfl rfl hd_X3_isIn ⟨Nat.le_of_ble_eq_true rfl, Nat.le_of_ble_eq_true rfl⟩) ⟨fbR, fun U hU hW => ⟨rfl, preR.mk hPc hKE hU hW⟩⟩ rfl rfl hl.1 rfl (lv_room (Nat.le_of_ble_eq_true rfl)) dX3_pour_17 ⟨Nat.le_of_ble_eq_true rfl, Nat.le_of_ble_eq_true rfl⟩)) (fun r_473 hw => ?_)
    refine lv_if_eq (tgt := 27) hx hb dX3_pour_20 (by decide) (fun c_474 => ?_) (fun c_474 => ?_)
    · have hw := hw.1 c_474
      refine lv_iconst (v := 2) hx hb dX3_pour_27 (by decide) ?_
      have hPc : va_P (eD E) vwCl (wM E am gm ks os ts iq mk me) s.heap := hP
      have hDc : va_D A (wM E am gm ks os ts iq mk me) := hD
      have hFc : ∀ q, va_A (wM E am gm ks os ts iq mk me) s.heap.size q → A q := frS hDc hS hA
      refine va_calli (va_runV (As := [.int 2]) (rest := []) ⟨hx, hb, hml, hown, hta⟩ (c_X3_goes E l am gm ks os ts iq mk me 2 s.heap.size _ hw) (pcV (n := 1) hta tw_650 tw_647 tw_6 tw_649 tp_32 rfl rfl hd_X3_goes ⟨Nat.le_of_ble_eq_true rfl, Nat.le_of_ble_eq_true rfl⟩) ⟨fbM, va_recv hKE.1 hP (ci := 4) (q0 := 0) rfl rfl, fun U hU hW => ⟨rfl, preM.mk hPc hKE hDc hZ hS hFc hU hW⟩⟩ rfl rfl hl.1 rfl (lv_room (Nat.le_of_ble_eq_true rfl)) dX3_pour_28 ⟨Nat.le_of_ble_eq_true rfl, Nat.le_of_ble_eq_true rfl⟩) hS (fun q _ h => hFc q h) hFc (fun r_475 u t H locs ht hvm hw hB hz1 hk1 hS => ?_)
      obtain ⟨gm_476, ks_477, os_478, ts_479, iq_480, mk_481, me_482⟩ := u
      obtain ⟨hP1, hD1⟩ := hB
      rw [ht] at hP1
      try dsimp only at hw hP1 hD1
      have hP : va_P (eD E) vwCl [((am 0), .inr (4, [.int (gm_476 0), .int (gm_476 1), .int (gm_476 2), .int (gm_476 3), .int (gm_476 4), .ref (am 1), .ref (am 2), .ref (am 3), .int (gm_476 8), .int (gm_476 9), .int (gm_476 10), .int (gm_476 11), .int (gm_476 12), .int (gm_476 13), .int (gm_476 14), .int (gm_476 15), .int (gm_476 16), .int (gm_476 17), .int (gm_476 18), .int (gm_476 19), .int (gm_476 20), .ref (am 4), .int (gm_476 22), .int (gm_476 23), .ref (am 5), .ref (am 6), .int (gm_476 26)])), ((am 1), .inl (eC E 0, 32, .inl ks_477)), ((am 2), .inl (eC E 0, 32, .inl os_478)), ((am 3), .inl (eC E 0, 32, .inl ts_479)), ((am 4), .inl (eC E 0, 3, .inl iq_480)), ((am 5), .inl (eC E 0, 320, .inl mk_481)), ((am 6), .inl (eC E 0, 320, .inl me_482))] H := hP1
      have hD : va_D A [((am 0), .inr (4, [.int (gm_476 0), .int (gm_476 1), .int (gm_476 2), .int (gm_476 3), .int (gm_476 4), .ref (am 1), .ref (am 2), .ref (am 3), .int (gm_476 8), .int (gm_476 9), .int (gm_476 10), .int (gm_476 11), .int (gm_476 12), .int (gm_476 13), .int (gm_476 14), .int (gm_476 15), .int (gm_476 16), .int (gm_476 17), .int (gm_476 18), .int (gm_476 19), .int (gm_476 20), .ref (am 4), .int (gm_476 22), .int (gm_476 23), .ref (am 5), .ref (am 6), .int (gm_476 26)])), ((am 1), .inl (eC E 0, 32, .inl ks_477)), ((am 2), .inl (eC E 0, 32, .inl os_478)), ((am 3), .inl (eC E 0, 32, .inl ts_479)), ((am 4), .inl (eC E 0, 3, .inl iq_480)), ((am 5), .inl (eC E 0, 320, .inl mk_481)), ((am 6), .inl (eC E 0, 320, .inl me_482))] := hD1.weaken (fun _ q _ h => hFc q.1 h)
      refine lv_if_ne (tgt := 36) hx hb dX3_pour_31 (by decide) (fun c_483 => ?_) (fun c_483 => ?_)
      · have hw := hw.2 c_483
        refine lv_aload_n hx hb dX3_pour_36 rfl (lv_at hl 0 rfl) ?_
        refine va_get (D := eD E) (ci := 4) (v := .ref (am 4)) (C := RX3) (T := TX3) (N := 27) hx hb hta lay_X3 hown hKE.1 hP 0 rfl rfl 21 (by decide) (hta _ tw_575) (fun _ h9 => h9) rfl dX3_pour_37 ?_
        refine lv_iload_n hx hb dX3_pour_40 rfl (lv_at hl 1 rfl) ?_
        refine lv_aload_n hx hb dX3_pour_41 rfl (lv_at hl 0 rfl) ?_
        refine va_get (D := eD E) (ci := 4) (v := .ref (am 4)) (C := RX3) (T := TX3) (N := 27) hx hb hta lay_X3 hown hKE.1 hP 0 rfl rfl 21 (by decide) (hta _ tw_575) (fun _ h9 => h9) rfl dX3_pour_42 ?_
        refine lv_iload_n hx hb dX3_pour_45 rfl (lv_at hl 1 rfl) ?_
        obtain ⟨hi_484, hw⟩ := hw
        refine va_iald hx hb hKE.1 hP 4 0 rfl rfl hi_484 dX3_pour_46 ?_
        refine lv_iload_n hx hb dX3_pour_47 rfl (lv_at hl 2 rfl) ?_
        refine lv_icmp_ge (tgt := 55) hx hb dX3_pour_48 (by decide) (fun c_485 => ?_) (fun c_485 => ?_)
        · have hw := hw.1 c_485
          refine lv_aload_n hx hb dX3_pour_55 rfl (lv_at hl 0 rfl) ?_
          refine va_get (D := eD E) (ci := 4) (v := .ref (am 4)) (C := RX3) (T := TX3) (N := 27) hx hb hta lay_X3 hown hKE.1 hP 0 rfl rfl 21 (by decide) (hta _ tw_575) (fun _ h9 => h9) rfl dX3_pour_56 ?_
          refine lv_iload_n hx hb dX3_pour_59 rfl (lv_at hl 1 rfl) ?_
          refine va_iald hx hb hKE.1 hP 4 0 rfl rfl hi_484 dX3_pour_60 ?_
          refine lv_iload_n hx hb dX3_pour_61 rfl (lv_at hl 2 rfl) ?_
          refine lv_isub hx hb dX3_pour_62 ?_
          refine va_iast hx hb hKE.1 hP hD hS 4 0 rfl rfl hi_484 dX3_pour_63 (fun H locs hP hD hS => ?_)
          have hP : va_P (eD E) vwCl [((am 0), .inr (4, [.int (gm_476 0), .int (gm_476 1), .int (gm_476 2), .int (gm_476 3), .int (gm_476 4), .ref (am 1), .ref (am 2), .ref (am 3), .int (gm_476 8), .int (gm_476 9), .int (gm_476 10), .int (gm_476 11), .int (gm_476 12), .int (gm_476 13), .int (gm_476 14), .int (gm_476 15), .int (gm_476 16), .int (gm_476 17), .int (gm_476 18), .int (gm_476 19), .int (gm_476 20), .ref (am 4), .int (gm_476 22), .int (gm_476 23), .ref (am 5), .ref (am 6), .int (gm_476 26)])), ((am 1), .inl (eC E 0, 32, .inl ks_477)), ((am 2), .inl (eC E 0, 32, .inl os_478)), ((am 3), .inl (eC E 0, 32, .inl ts_479)), ((am 4), .inl (eC E 0, 3, .inl (upd iq_480 p0.toNatClampNeg ((iq_480 p0.toNatClampNeg) - p1)))), ((am 5), .inl (eC E 0, 320, .inl mk_481)), ((am 6), .inl (eC E 0, 320, .inl me_482))] H := hP
          have hD : va_D A [((am 0), .inr (4, [.int (gm_476 0), .int (gm_476 1), .int (gm_476 2), .int (gm_476 3), .int (gm_476 4), .ref (am 1), .ref (am 2), .ref (am 3), .int (gm_476 8), .int (gm_476 9), .int (gm_476 10), .int (gm_476 11), .int (gm_476 12), .int (gm_476 13), .int (gm_476 14), .int (gm_476 15), .int (gm_476 16), .int (gm_476 17), .int (gm_476 18), .int (gm_476 19), .int (gm_476 20), .ref (am 4), .int (gm_476 22), .int (gm_476 23), .ref (am 5), .ref (am 6), .int (gm_476 26)])), ((am 1), .inl (eC E 0, 32, .inl ks_477)), ((am 2), .inl (eC E 0, 32, .inl os_478)), ((am 3), .inl (eC E 0, 32, .inl ts_479)), ((am 4), .inl (eC E 0, 3, .inl (upd iq_480 p0.toNatClampNeg ((iq_480 p0.toNatClampNeg) - p1)))), ((am 5), .inl (eC E 0, 320, .inl mk_481)), ((am 6), .inl (eC E 0, 320, .inl me_482))] := hD
          refine lv_aload_n hx hb dX3_pour_64 rfl (lv_at hl 0 rfl) ?_
          refine va_get (D := eD E) (ci := 4) (v := .ref (am 4)) (C := RX3) (T := TX3) (N := 27) hx hb hta lay_X3 hown hKE.1 hP 0 rfl rfl 21 (by decide) (hta _ tw_575) (fun _ h9 => h9) rfl dX3_pour_65 ?_
          refine lv_iload_n hx hb dX3_pour_68 rfl (lv_at hl 1 rfl) ?_
          refine va_iald hx hb hKE.1 hP 4 0 rfl rfl hi_484 dX3_pour_69 ?_
          have hP9 : va_P (eD E) vwCl (wM E am gm_476 ks_477 os_478 ts_479 (upd iq_480 p0.toNatClampNeg ((iq_480 p0.toNatClampNeg) - p1)) mk_481 me_482) H := hP
          have hD9 : va_D A (wM E am gm_476 ks_477 os_478 ts_479 (upd iq_480 p0.toNatClampNeg ((iq_480 p0.toNatClampNeg) - p1)) mk_481 me_482) := hD
          exact W.iret (v := ((upd iq_480 p0.toNatClampNeg ((iq_480 p0.toNatClampNeg) - p1)) p0.toNatClampNeg)) hx hb hr (fun t ht hW => ⟨⟨((upd iq_480 p0.toNatClampNeg ((iq_480 p0.toNatClampNeg) - p1)) p0.toNatClampNeg), (gm_476, ks_477, os_478, ts_479, (upd iq_480 p0.toNatClampNeg ((iq_480 p0.toNatClampNeg) - p1)), mk_481, me_482), rfl, hw, ⟨by rw [ht]; exact hP9, hD9⟩⟩, hS.F ht⟩) hS.2.2 dX3_pour_70
        · have hw := hw.2 c_485
          refine lv_iconst (v := 0) hx hb dX3_pour_51 (by decide) ?_
          refine lv_goto (tgt := 63) hx hb dX3_pour_52 (by decide) ?_
          refine va_iast hx hb hKE.1 hP hD hS 4 0 rfl rfl hi_484 dX3_pour_63 (fun H locs hP hD hS => ?_)
          have hP : va_P (eD E) vwCl [((am 0), .inr (4, [.int (gm_476 0), .int (gm_476 1), .int (gm_476 2), .int (gm_476 3), .int (gm_476 4), .ref (am 1), .ref (am 2), .ref (am 3), .int (gm_476 8), .int (gm_476 9), .int (gm_476 10), .int (gm_476 11), .int (gm_476 12), .int (gm_476 13), .int (gm_476 14), .int (gm_476 15), .int (gm_476 16), .int (gm_476 17), .int (gm_476 18), .int (gm_476 19), .int (gm_476 20), .ref (am 4), .int (gm_476 22), .int (gm_476 23), .ref (am 5), .ref (am 6), .int (gm_476 26)])), ((am 1), .inl (eC E 0, 32, .inl ks_477)), ((am 2), .inl (eC E 0, 32, .inl os_478)), ((am 3), .inl (eC E 0, 32, .inl ts_479)), ((am 4), .inl (eC E 0, 3, .inl (upd iq_480 p0.toNatClampNeg 0))), ((am 5), .inl (eC E 0, 320, .inl mk_481)), ((am 6), .inl (eC E 0, 320, .inl me_482))] H := hP
          have hD : va_D A [((am 0), .inr (4, [.int (gm_476 0), .int (gm_476 1), .int (gm_476 2), .int (gm_476 3), .int (gm_476 4), .ref (am 1), .ref (am 2), .ref (am 3), .int (gm_476 8), .int (gm_476 9), .int (gm_476 10), .int (gm_476 11), .int (gm_476 12), .int (gm_476 13), .int (gm_476 14), .int (gm_476 15), .int (gm_476 16), .int (gm_476 17), .int (gm_476 18), .int (gm_476 19), .int (gm_476 20), .ref (am 4), .int (gm_476 22), .int (gm_476 23), .ref (am 5), .ref (am 6), .int (gm_476 26)])), ((am 1), .inl (eC E 0, 32, .inl ks_477)), ((am 2), .inl (eC E 0, 32, .inl os_478)), ((am 3), .inl (eC E 0, 32, .inl ts_479)), ((am 4), .inl (eC E 0, 3, .inl (upd iq_480 p0.toNatClampNeg 0))), ((am 5), .inl (eC E 0, 320, .inl mk_481)), ((am 6), .inl (eC E 0, 320, .inl me_482))] := hD
          refine lv_aload_n hx hb dX3_pour_64 rfl (lv_at hl 0 rfl) ?_
          refine va_get (D := eD E) (ci := 4) (v := .ref (am 4)) (C := RX3) (T := TX3) (N := 27) hx hb hta lay_X3 hown hKE.1 hP 0 rfl rfl 21 (by decide) (hta _ tw_575) (fun _ h9 => h9) rfl dX3_pour_65 ?_
          refine lv_iload_n hx hb dX3_pour_68 rfl (lv_at hl 1 rfl) ?_
          refine va_iald hx hb hKE.1 hP 4 0 rfl rfl hi_484 dX3_pour_69 ?_
          have hP9 : va_P (eD E) vwCl (wM E am gm_476 ks_477 os_478 ts_479 (upd iq_480 p0.toNatClampNeg 0) mk_481 me_482) H := hP
          have hD9 : va_D A (wM E am gm_476 ks_477 os_478 ts_479 (upd iq_480 p0.toNatClampNeg 0) mk_481 me_482) := hD
          exact W.iret (v := ((upd iq_480 p0.toNatClampNeg 0) p0.toNatClampNeg)) hx hb hr (fun t ht hW => ⟨⟨((upd iq_480 p0.toNatClampNeg 0) p0.toNatClampNeg), (gm_476, ks_477, os_478, ts_479, (upd iq_480 p0.toNatClampNeg 0), mk_481, me_482), rfl, hw, ⟨by rw [ht]; exact hP9, hD9⟩⟩, hS.F ht⟩) hS.2.2 dX3_pour_70
      · have hw := hw.1 c_483
        refine lv_iconst (v := 0) hx hb dX3_pour_34 (by decide) ?_
        have hP9 : va_P (eD E) vwCl (wM E am gm_476 ks_477 os_478 ts_479 iq_480 mk_481 me_482) H := hP
        have hD9 : va_D A (wM E am gm_476 ks_477 os_478 ts_479 iq_480 mk_481 me_482) := hD
        exact W.iret (v := 0) hx hb hr (fun t ht hW => ⟨⟨0, (gm_476, ks_477, os_478, ts_479, iq_480, mk_481, me_482), rfl, hw, ⟨by rw [ht]; exact hP9, hD9⟩⟩, hS.F ht⟩) hS.2.2 dX3_pour_35
    · have hw := hw.2 c_474
      refine lv_iconst (v := 0) hx hb dX3_pour_23 (by decide) ?_
      refine lv_goto (tgt := 28) hx hb dX3_pour_24 (by decide) ?_
      have hPc : va_P (eD E) vwCl (wM E am gm ks os ts iq mk me) s.heap := hP
      have hDc : va_D A (wM E am gm ks os ts iq mk me) := hD
      have hFc : ∀ q, va_A (wM E am gm ks os ts iq mk me) s.heap.size q → A q := frS hDc hS hA
      refine va_calli (va_runV (As := [.int 0]) (rest := []) ⟨hx, hb, hml, hown, hta⟩ (c_X3_goes E l am gm ks os ts iq mk me 0 s.heap.size _ hw) (pcV (n := 1) hta tw_650 tw_647 tw_6 tw_649 tp_32 rfl rfl hd_X3_goes ⟨Nat.le_of_ble_eq_true rfl, Nat.le_of_ble_eq_true rfl⟩) ⟨fbM, va_recv hKE.1 hP (ci := 4) (q0 := 0) rfl rfl, fun U hU hW => ⟨rfl, preM.mk hPc hKE hDc hZ hS hFc hU hW⟩⟩ rfl rfl hl.1 rfl (lv_room (Nat.le_of_ble_eq_true rfl)) dX3_pour_28 ⟨Nat.le_of_ble_eq_true rfl, Nat.le_of_ble_eq_true rfl⟩) hS (fun q _ h => hFc q h) hFc (fun r_486 u t H locs ht hvm hw hB hz1 hk1 hS => ?_)
      obtain ⟨gm_487, ks_488, os_489, ts_490, iq_491, mk_492, me_493⟩ := u
      obtain ⟨hP1, hD1⟩ := hB
      rw [ht] at hP1
      try dsimp only at hw hP1 hD1
      have hP : va_P (eD E) vwCl [((am 0), .inr (4, [.int (gm_487 0), .int (gm_487 1), .int (gm_487 2), .int (gm_487 3), .int (gm_487 4), .ref (am 1), .ref (am 2), .ref (am 3), .int (gm_487 8), .int (gm_487 9), .int (gm_487 10), .int (gm_487 11), .int (gm_487 12), .int (gm_487 13), .int (gm_487 14), .int (gm_487 15), .int (gm_487 16), .int (gm_487 17), .int (gm_487 18), .int (gm_487 19), .int (gm_487 20), .ref (am 4), .int (gm_487 22), .int (gm_487 23), .ref (am 5), .ref (am 6), .int (gm_487 26)])), ((am 1), .inl (eC E 0, 32, .inl ks_488)), ((am 2), .inl (eC E 0, 32, .inl os_489)), ((am 3), .inl (eC E 0, 32, .inl ts_490)), ((am 4), .inl (eC E 0, 3, .inl iq_491)), ((am 5), .inl (eC E 0, 320, .inl mk_492)), ((am 6), .inl (eC E 0, 320, .inl me_493))] H := hP1
      have hD : va_D A [((am 0), .inr (4, [.int (gm_487 0), .int (gm_487 1), .int (gm_487 2), .int (gm_487 3), .int (gm_487 4), .ref (am 1), .ref (am 2), .ref (am 3), .int (gm_487 8), .int (gm_487 9), .int (gm_487 10), .int (gm_487 11), .int (gm_487 12), .int (gm_487 13), .int (gm_487 14), .int (gm_487 15), .int (gm_487 16), .int (gm_487 17), .int (gm_487 18), .int (gm_487 19), .int (gm_487 20), .ref (am 4), .int (gm_487 22), .int (gm_487 23), .ref (am 5), .ref (am 6), .int (gm_487 26)])), ((am 1), .inl (eC E 0, 32, .inl ks_488)), ((am 2), .inl (eC E 0, 32, .inl os_489)), ((am 3), .inl (eC E 0, 32, .inl ts_490)), ((am 4), .inl (eC E 0, 3, .inl iq_491)), ((am 5), .inl (eC E 0, 320, .inl mk_492)), ((am 6), .inl (eC E 0, 320, .inl me_493))] := hD1.weaken (fun _ q _ h => hFc q.1 h)
      refine lv_if_ne (tgt := 36) hx hb dX3_pour_31 (by decide) (fun c_494 => ?_) (fun c_494 => ?_)
      · have hw := hw.2 c_494
        refine lv_aload_n hx hb dX3_pour_36 rfl (lv_at hl 0 rfl) ?_
        refine va_get (D := eD E) (ci := 4) (v := .ref (am 4)) (C := RX3) (T := TX3) (N := 27) hx hb hta lay_X3 hown hKE.1 hP 0 rfl rfl 21 (by decide) (hta _ tw_575) (fun _ h9 => h9) rfl dX3_pour_37 ?_
        refine lv_iload_n hx hb dX3_pour_40 rfl (lv_at hl 1 rfl) ?_
        refine lv_aload_n hx hb dX3_pour_41 rfl (lv_at hl 0 rfl) ?_
        refine va_get (D := eD E) (ci := 4) (v := .ref (am 4)) (C := RX3) (T := TX3) (N := 27) hx hb hta lay_X3 hown hKE.1 hP 0 rfl rfl 21 (by decide) (hta _ tw_575) (fun _ h9 => h9) rfl dX3_pour_42 ?_
        refine lv_iload_n hx hb dX3_pour_45 rfl (lv_at hl 1 rfl) ?_
        obtain ⟨hi_495, hw⟩ := hw
        refine va_iald hx hb hKE.1 hP 4 0 rfl rfl hi_495 dX3_pour_46 ?_
        refine lv_iload_n hx hb dX3_pour_47 rfl (lv_at hl 2 rfl) ?_
        refine lv_icmp_ge (tgt := 55) hx hb dX3_pour_48 (by decide) (fun c_496 => ?_) (fun c_496 => ?_)
        · have hw := hw.1 c_496
          refine lv_aload_n hx hb dX3_pour_55 rfl (lv_at hl 0 rfl) ?_
          refine va_get (D := eD E) (ci := 4) (v := .ref (am 4)) (C := RX3) (T := TX3) (N := 27) hx hb hta lay_X3 hown hKE.1 hP 0 rfl rfl 21 (by decide) (hta _ tw_575) (fun _ h9 => h9) rfl dX3_pour_56 ?_
          refine lv_iload_n hx hb dX3_pour_59 rfl (lv_at hl 1 rfl) ?_
          refine va_iald hx hb hKE.1 hP 4 0 rfl rfl hi_495 dX3_pour_60 ?_
          refine lv_iload_n hx hb dX3_pour_61 rfl (lv_at hl 2 rfl) ?_
          refine lv_isub hx hb dX3_pour_62 ?_
          refine va_iast hx hb hKE.1 hP hD hS 4 0 rfl rfl hi_495 dX3_pour_63 (fun H locs hP hD hS => ?_)
          have hP : va_P (eD E) vwCl [((am 0), .inr (4, [.int (gm_487 0), .int (gm_487 1), .int (gm_487 2), .int (gm_487 3), .int (gm_487 4), .ref (am 1), .ref (am 2), .ref (am 3), .int (gm_487 8), .int (gm_487 9), .int (gm_487 10), .int (gm_487 11), .int (gm_487 12), .int (gm_487 13), .int (gm_487 14), .int (gm_487 15), .int (gm_487 16), .int (gm_487 17), .int (gm_487 18), .int (gm_487 19), .int (gm_487 20), .ref (am 4), .int (gm_487 22), .int (gm_487 23), .ref (am 5), .ref (am 6), .int (gm_487 26)])), ((am 1), .inl (eC E 0, 32, .inl ks_488)), ((am 2), .inl (eC E 0, 32, .inl os_489)), ((am 3), .inl (eC E 0, 32, .inl ts_490)), ((am 4), .inl (eC E 0, 3, .inl (upd iq_491 p0.toNatClampNeg ((iq_491 p0.toNatClampNeg) - p1)))), ((am 5), .inl (eC E 0, 320, .inl mk_492)), ((am 6), .inl (eC E 0, 320, .inl me_493))] H := hP
          have hD : va_D A [((am 0), .inr (4, [.int (gm_487 0), .int (gm_487 1), .int (gm_487 2), .int (gm_487 3), .int (gm_487 4), .ref (am 1), .ref (am 2), .ref (am 3), .int (gm_487 8), .int (gm_487 9), .int (gm_487 10), .int (gm_487 11), .int (gm_487 12), .int (gm_487 13), .int (gm_487 14), .int (gm_487 15), .int (gm_487 16), .int (gm_487 17), .int (gm_487 18), .int (gm_487 19), .int (gm_487 20), .ref (am 4), .int (gm_487 22), .int (gm_487 23), .ref (am 5), .ref (am 6), .int (gm_487 26)])), ((am 1), .inl (eC E 0, 32, .inl ks_488)), ((am 2), .inl (eC E 0, 32, .inl os_489)), ((am 3), .inl (eC E 0, 32, .inl ts_490)), ((am 4), .inl (eC E 0, 3, .inl (upd iq_491 p0.toNatClampNeg ((iq_491 p0.toNatClampNeg) - p1)))), ((am 5), .inl (eC E 0, 320, .inl mk_492)), ((am 6), .inl (eC E 0, 320, .inl me_493))] := hD
          refine lv_aload_n hx hb dX3_pour_64 rfl (lv_at hl 0 rfl) ?_
          refine va_get (D := eD E) (ci := 4) (v := .ref (am 4)) (C := RX3) (T := TX3) (N := 27) hx hb hta lay_X3 hown hKE.1 hP 0 rfl rfl 21 (by decide) (hta _ tw_575) (fun _ h9 => h9) rfl dX3_pour_65 ?_
          refine lv_iload_n hx hb dX3_pour_68 rfl (lv_at hl 1 rfl) ?_
          refine va_iald hx hb hKE.1 hP 4 0 rfl rfl hi_495 dX3_pour_69 ?_
          have hP9 : va_P (eD E) vwCl (wM E am gm_487 ks_488 os_489 ts_490 (upd iq_491 p0.toNatClampNeg ((iq_491 p0.toNatClampNeg) - p1)) mk_492 me_493) H := hP
          have hD9 : va_D A (wM E am gm_487 ks_488 os_489 ts_490 (upd iq_491 p0.toNatClampNeg ((iq_491 p0.toNatClampNeg) - p1)) mk_492 me_493) := hD
          exact W.iret (v := ((upd iq_491 p0.toNatClampNeg ((iq_491 p0.toNatClampNeg) - p1)) p0.toNatClampNeg)) hx hb hr (fun t ht hW => ⟨⟨((upd iq_491 p0.toNatClampNeg ((iq_491 p0.toNatClampNeg) - p1)) p0.toNatClampNeg), (gm_487, ks_488, os_489, ts_490, (upd iq_491 p0.toNatClampNeg ((iq_491 p0.toNatClampNeg) - p1)), mk_492, me_493), rfl, hw, ⟨by rw [ht]; exact hP9, hD9⟩⟩, hS.F ht⟩) hS.2.2 dX3_pour_70
        · have hw := hw.2 c_496
          refine lv_iconst (v := 0) hx hb dX3_pour_51 (by decide) ?_
          refine lv_goto (tgt := 63) hx hb dX3_pour_52 (by decide) ?_
          refine va_iast hx hb hKE.1 hP hD hS 4 0 rfl rfl hi_495 dX3_pour_63 (fun H locs hP hD hS => ?_)
          have hP : va_P (eD E) vwCl [((am 0), .inr (4, [.int (gm_487 0), .int (gm_487 1), .int (gm_487 2), .int (gm_487 3), .int (gm_487 4), .ref (am 1), .ref (am 2), .ref (am 3), .int (gm_487 8), .int (gm_487 9), .int (gm_487 10), .int (gm_487 11), .int (gm_487 12), .int (gm_487 13), .int (gm_487 14), .int (gm_487 15), .int (gm_487 16), .int (gm_487 17), .int (gm_487 18), .int (gm_487 19), .int (gm_487 20), .ref (am 4), .int (gm_487 22), .int (gm_487 23), .ref (am 5), .ref (am 6), .int (gm_487 26)])), ((am 1), .inl (eC E 0, 32, .inl ks_488)), ((am 2), .inl (eC E 0, 32, .inl os_489)), ((am 3), .inl (eC E 0, 32, .inl ts_490)), ((am 4), .inl (eC E 0, 3, .inl (upd iq_491 p0.toNatClampNeg 0))), ((am 5), .inl (eC E 0, 320, .inl mk_492)), ((am 6), .inl (eC E 0, 320, .inl me_493))] H := hP
          have hD : va_D A [((am 0), .inr (4, [.int (gm_487 0), .int (gm_487 1), .int (gm_487 2), .int (gm_487 3), .int (gm_487 4), .ref (am 1), .ref (am 2), .ref (am 3), .int (gm_487 8), .int (gm_487 9), .int (gm_487 10), .int (gm_487 11), .int (gm_487 12), .int (gm_487 13), .int (gm_487 14), .int (gm_487 15), .int (gm_487 16), .int (gm_487 17), .int (gm_487 18), .int (gm_487 19), .int (gm_487 20), .ref (am 4), .int (gm_487 22), .int (gm_487 23), .ref (am 5), .ref (am 6), .int (gm_487 26)])), ((am 1), .inl (eC E 0, 32, .inl ks_488)), ((am 2), .inl (eC E 0, 32, .inl os_489)), ((am 3), .inl (eC E 0, 32, .inl ts_490)), ((am 4), .inl (eC E 0, 3, .inl (upd iq_491 p0.toNatClampNeg 0))), ((am 5), .inl (eC E 0, 320, .inl mk_492)), ((am 6), .inl (eC E 0, 320, .inl me_493))] := hD
          refine lv_aload_n hx hb dX3_pour_64 rfl (lv_at hl 0 rfl) ?_
          refine va_get (D := eD E) (ci := 4) (v := .ref (am 4)) (C := RX3) (T := TX3) (N := 27) hx hb hta lay_X3 hown hKE.1 hP 0 rfl rfl 21 (by decide) (hta _ tw_575) (fun _ h9 => h9) rfl dX3_pour_65 ?_
          refine lv_iload_n hx hb dX3_pour_68 rfl (lv_at hl 1 rfl) ?_
          refine va_iald hx hb hKE.1 hP 4 0 rfl rfl hi_495 dX3_pour_69 ?_
          have hP9 : va_P (eD E) vwCl (wM E am gm_487 ks_488 os_489 ts_490 (upd iq_491 p0.toNatClampNeg 0) mk_492 me_493) H := hP
          have hD9 : va_D A (wM E am gm_487 ks_488 os_489 ts_490 (upd iq_491 p0.toNatClampNeg 0) mk_492 me_493) := hD
          exact W.iret (v := ((upd iq_491 p0.toNatClampNeg 0) p0.toNatClampNeg)) hx hb hr (fun t ht hW => ⟨⟨((upd iq_491 p0.toNatClampNeg 0) p0.toNatClampNeg), (gm_487, ks_488, os_489, ts_490, (upd iq_491 p0.toNatClampNeg 0), mk_492, me_493), rfl, hw, ⟨by rw [ht]; exact hP9, hD9⟩⟩, hS.F ht⟩) hS.2.2 dX3_pour_70
      · have hw := hw.1 c_494
        refine lv_iconst (v := 0) hx hb dX3_pour_34 (by decide) ?_
        have hP9 : va_P (eD E) vwCl (wM E am gm_487 ks_488 os_489 ts_490 iq_491 mk_492 me_493) H := hP
        have hD9 : va_D A (wM E am gm_487 ks_488 os_489 ts_490 iq_491 mk_492 me_493) := hD
        exact W.iret (v := 0) hx hb hr (fun t ht hW => ⟨⟨0, (gm_487, ks_488, os_489, ts_490, iq_491, mk_492, me_493), rfl, hw, ⟨by rw [ht]; exact hP9, hD9⟩⟩, hS.F ht⟩) hS.2.2 dX3_pour_35
  · have hw := hw.1 c_472
    refine lv_iconst (v := 1) hx hb dX3_pour_8 (by decide) ?_
    refine lv_goto (tgt := 28) hx hb dX3_pour_9 (by decide) ?_
    have hPc : va_P (eD E) vwCl (wM E am gm ks os ts iq mk me) s.heap := hP
    have hDc : va_D A (wM E am gm ks os ts iq mk me) := hD
    have hFc : ∀ q, va_A (wM E am gm ks os ts iq mk me) s.heap.size q → A q := frS hDc hS hA
    refine va_calli (va_runV (As := [.int 1]) (rest := []) ⟨hx, hb, hml, hown, hta⟩ (c_X3_goes E l am gm ks os ts iq mk me 1 s.heap.size _ hw) (pcV (n := 1) hta tw_650 tw_647 tw_6 tw_649 tp_32 rfl rfl hd_X3_goes ⟨Nat.le_of_ble_eq_true rfl, Nat.le_of_ble_eq_true rfl⟩) ⟨fbM, va_recv hKE.1 hP (ci := 4) (q0 := 0) rfl rfl, fun U hU hW => ⟨rfl, preM.mk hPc hKE hDc hZ hS hFc hU hW⟩⟩ rfl rfl hl.1 rfl (lv_room (Nat.le_of_ble_eq_true rfl)) dX3_pour_28 ⟨Nat.le_of_ble_eq_true rfl, Nat.le_of_ble_eq_true rfl⟩) hS (fun q _ h => hFc q h) hFc (fun r_497 u t H locs ht hvm hw hB hz1 hk1 hS => ?_)
    obtain ⟨gm_498, ks_499, os_500, ts_501, iq_502, mk_503, me_504⟩ := u
    obtain ⟨hP1, hD1⟩ := hB
    rw [ht] at hP1
    try dsimp only at hw hP1 hD1
    have hP : va_P (eD E) vwCl [((am 0), .inr (4, [.int (gm_498 0), .int (gm_498 1), .int (gm_498 2), .int (gm_498 3), .int (gm_498 4), .ref (am 1), .ref (am 2), .ref (am 3), .int (gm_498 8), .int (gm_498 9), .int (gm_498 10), .int (gm_498 11), .int (gm_498 12), .int (gm_498 13), .int (gm_498 14), .int (gm_498 15), .int (gm_498 16), .int (gm_498 17), .int (gm_498 18), .int (gm_498 19), .int (gm_498 20), .ref (am 4), .int (gm_498 22), .int (gm_498 23), .ref (am 5), .ref (am 6), .int (gm_498 26)])), ((am 1), .inl (eC E 0, 32, .inl ks_499)), ((am 2), .inl (eC E 0, 32, .inl os_500)), ((am 3), .inl (eC E 0, 32, .inl ts_501)), ((am 4), .inl (eC E 0, 3, .inl iq_502)), ((am 5), .inl (eC E 0, 320, .inl mk_503)), ((am 6), .inl (eC E 0, 320, .inl me_504))] H := hP1
    have hD : va_D A [((am 0), .inr (4, [.int (gm_498 0), .int (gm_498 1), .int (gm_498 2), .int (gm_498 3), .int (gm_498 4), .ref (am 1), .ref (am 2), .ref (am 3), .int (gm_498 8), .int (gm_498 9), .int (gm_498 10), .int (gm_498 11), .int (gm_498 12), .int (gm_498 13), .int (gm_498 14), .int (gm_498 15), .int (gm_498 16), .int (gm_498 17), .int (gm_498 18), .int (gm_498 19), .int (gm_498 20), .ref (am 4), .int (gm_498 22), .int (gm_498 23), .ref (am 5), .ref (am 6), .int (gm_498 26)])), ((am 1), .inl (eC E 0, 32, .inl ks_499)), ((am 2), .inl (eC E 0, 32, .inl os_500)), ((am 3), .inl (eC E 0, 32, .inl ts_501)), ((am 4), .inl (eC E 0, 3, .inl iq_502)), ((am 5), .inl (eC E 0, 320, .inl mk_503)), ((am 6), .inl (eC E 0, 320, .inl me_504))] := hD1.weaken (fun _ q _ h => hFc q.1 h)
    refine lv_if_ne (tgt := 36) hx hb dX3_pour_31 (by decide) (fun c_505 => ?_) (fun c_505 => ?_)
    · have hw := hw.2 c_505
      refine lv_aload_n hx hb dX3_pour_36 rfl (lv_at hl 0 rfl) ?_
      refine va_get (D := eD E) (ci := 4) (v := .ref (am 4)) (C := RX3) (T := TX3) (N := 27) hx hb hta lay_X3 hown hKE.1 hP 0 rfl rfl 21 (by decide) (hta _ tw_575) (fun _ h9 => h9) rfl dX3_pour_37 ?_
      refine lv_iload_n hx hb dX3_pour_40 rfl (lv_at hl 1 rfl) ?_
      refine lv_aload_n hx hb dX3_pour_41 rfl (lv_at hl 0 rfl) ?_
      refine va_get (D := eD E) (ci := 4) (v := .ref (am 4)) (C := RX3) (T := TX3) (N := 27) hx hb hta lay_X3 hown hKE.1 hP 0 rfl rfl 21 (by decide) (hta _ tw_575) (fun _ h9 => h9) rfl dX3_pour_42 ?_
      refine lv_iload_n hx hb dX3_pour_45 rfl (lv_at hl 1 rfl) ?_
      obtain ⟨hi_506, hw⟩ := hw
      refine va_iald hx hb hKE.1 hP 4 0 rfl rfl hi_506 dX3_pour_46 ?_
      refine lv_iload_n hx hb dX3_pour_47 rfl (lv_at hl 2 rfl) ?_
      refine lv_icmp_ge (tgt := 55) hx hb dX3_pour_48 (by decide) (fun c_507 => ?_) (fun c_507 => ?_)
      · have hw := hw.1 c_507
        refine lv_aload_n hx hb dX3_pour_55 rfl (lv_at hl 0 rfl) ?_
        refine va_get (D := eD E) (ci := 4) (v := .ref (am 4)) (C := RX3) (T := TX3) (N := 27) hx hb hta lay_X3 hown hKE.1 hP 0 rfl rfl 21 (by decide) (hta _ tw_575) (fun _ h9 => h9) rfl dX3_pour_56 ?_
        refine lv_iload_n hx hb dX3_pour_59 rfl (lv_at hl 1 rfl) ?_
        refine va_iald hx hb hKE.1 hP 4 0 rfl rfl hi_506 dX3_pour_60 ?_
        refine lv_iload_n hx hb dX3_pour_61 rfl (lv_at hl 2 rfl) ?_
        refine lv_isub hx hb dX3_pour_62 ?_
        refine va_iast hx hb hKE.1 hP hD hS 4 0 rfl rfl hi_506 dX3_pour_63 (fun H locs hP hD hS => ?_)
        have hP : va_P (eD E) vwCl [((am 0), .inr (4, [.int (gm_498 0), .int (gm_498 1), .int (gm_498 2), .int (gm_498 3), .int (gm_498 4), .ref (am 1), .ref (am 2), .ref (am 3), .int (gm_498 8), .int (gm_498 9), .int (gm_498 10), .int (gm_498 11), .int (gm_498 12), .int (gm_498 13), .int (gm_498 14), .int (gm_498 15), .int (gm_498 16), .int (gm_498 17), .int (gm_498 18), .int (gm_498 19), .int (gm_498 20), .ref (am 4), .int (gm_498 22), .int (gm_498 23), .ref (am 5), .ref (am 6), .int (gm_498 26)])), ((am 1), .inl (eC E 0, 32, .inl ks_499)), ((am 2), .inl (eC E 0, 32, .inl os_500)), ((am 3), .inl (eC E 0, 32, .inl ts_501)), ((am 4), .inl (eC E 0, 3, .inl (upd iq_502 p0.toNatClampNeg ((iq_502 p0.toNatClampNeg) - p1)))), ((am 5), .inl (eC E 0, 320, .inl mk_503)), ((am 6), .inl (eC E 0, 320, .inl me_504))] H := hP
        have hD : va_D A [((am 0), .inr (4, [.int (gm_498 0), .int (gm_498 1), .int (gm_498 2), .int (gm_498 3), .int (gm_498 4), .ref (am 1), .ref (am 2), .ref (am 3), .int (gm_498 8), .int (gm_498 9), .int (gm_498 10), .int (gm_498 11), .int (gm_498 12), .int (gm_498 13), .int (gm_498 14), .int (gm_498 15), .int (gm_498 16), .int (gm_498 17), .int (gm_498 18), .int (gm_498 19), .int (gm_498 20), .ref (am 4), .int (gm_498 22), .int (gm_498 23), .ref (am 5), .ref (am 6), .int (gm_498 26)])), ((am 1), .inl (eC E 0, 32, .inl ks_499)), ((am 2), .inl (eC E 0, 32, .inl os_500)), ((am 3), .inl (eC E 0, 32, .inl ts_501)), ((am 4), .inl (eC E 0, 3, .inl (upd iq_502 p0.toNatClampNeg ((iq_502 p0.toNatClampNeg) - p1)))), ((am 5), .inl (eC E 0, 320, .inl mk_503)), ((am 6), .inl (eC E 0, 320, .inl me_504))] := hD
        refine lv_aload_n hx hb dX3_pour_64 rfl (lv_at hl 0 rfl) ?_
        refine va_get (D := eD E) (ci := 4) (v := .ref (am 4)) (C := RX3) (T := TX3) (N := 27) hx hb hta lay_X3 hown hKE.1 hP 0 rfl rfl 21 (by decide) (hta _ tw_575) (fun _ h9 => h9) rfl dX3_pour_65 ?_
        refine lv_iload_n hx hb dX3_pour_68 rfl (lv_at hl 1 rfl) ?_
        refine va_iald hx hb hKE.1 hP 4 0 rfl rfl hi_506 dX3_pour_69 ?_
        have hP9 : va_P (eD E) vwCl (wM E am gm_498 ks_499 os_500 ts_501 (upd iq_502 p0.toNatClampNeg ((iq_502 p0.toNatClampNeg) - p1)) mk_503 me_504) H := hP
        have hD9 : va_D A (wM E am gm_498 ks_499 os_500 ts_501 (upd iq_502 p0.toNatClampNeg ((iq_502 p0.toNatClampNeg) - p1)) mk_503 me_504) := hD
        exact W.iret (v := ((upd iq_502 p0.toNatClampNeg ((iq_502 p0.toNatClampNeg) - p1)) p0.toNatClampNeg)) hx hb hr (fun t ht hW => ⟨⟨((upd iq_502 p0.toNatClampNeg ((iq_502 p0.toNatClampNeg) - p1)) p0.toNatClampNeg), (gm_498, ks_499, os_500, ts_501, (upd iq_502 p0.toNatClampNeg ((iq_502 p0.toNatClampNeg) - p1)), mk_503, me_504), rfl, hw, ⟨by rw [ht]; exact hP9, hD9⟩⟩, hS.F ht⟩) hS.2.2 dX3_pour_70
      · have hw := hw.2 c_507
        refine lv_iconst (v := 0) hx hb dX3_pour_51 (by decide) ?_
        refine lv_goto (tgt := 63) hx hb dX3_pour_52 (by decide) ?_
        refine va_iast hx hb hKE.1 hP hD hS 4 0 rfl rfl hi_506 dX3_pour_63 (fun H locs hP hD hS => ?_)
        have hP : va_P (eD E) vwCl [((am 0), .inr (4, [.int (gm_498 0), .int (gm_498 1), .int (gm_498 2), .int (gm_498 3), .int (gm_498 4), .ref (am 1), .ref (am 2), .ref (am 3), .int (gm_498 8), .int (gm_498 9), .int (gm_498 10), .int (gm_498 11), .int (gm_498 12), .int (gm_498 13), .int (gm_498 14), .int (gm_498 15), .int (gm_498 16), .int (gm_498 17), .int (gm_498 18), .int (gm_498 19), .int (gm_498 20), .ref (am 4), .int (gm_498 22), .int (gm_498 23), .ref (am 5), .ref (am 6), .int (gm_498 26)])), ((am 1), .inl (eC E 0, 32, .inl ks_499)), ((am 2), .inl (eC E 0, 32, .inl os_500)), ((am 3), .inl (eC E 0, 32, .inl ts_501)), ((am 4), .inl (eC E 0, 3, .inl (upd iq_502 p0.toNatClampNeg 0))), ((am 5), .inl (eC E 0, 320, .inl mk_503)), ((am 6), .inl (eC E 0, 320, .inl me_504))] H := hP
        have hD : va_D A [((am 0), .inr (4, [.int (gm_498 0), .int (gm_498 1), .int (gm_498 2), .int (gm_498 3), .int (gm_498 4), .ref (am 1), .ref (am 2), .ref (am 3), .int (gm_498 8), .int (gm_498 9), .int (gm_498 10), .int (gm_498 11), .int (gm_498 12), .int (gm_498 13), .int (gm_498 14), .int (gm_498 15), .int (gm_498 16), .int (gm_498 17), .int (gm_498 18), .int (gm_498 19), .int (gm_498 20), .ref (am 4), .int (gm_498 22), .int (gm_498 23), .ref (am 5), .ref (am 6), .int (gm_498 26)])), ((am 1), .inl (eC E 0, 32, .inl ks_499)), ((am 2), .inl (eC E 0, 32, .inl os_500)), ((am 3), .inl (eC E 0, 32, .inl ts_501)), ((am 4), .inl (eC E 0, 3, .inl (upd iq_502 p0.toNatClampNeg 0))), ((am 5), .inl (eC E 0, 320, .inl mk_503)), ((am 6), .inl (eC E 0, 320, .inl me_504))] := hD
        refine lv_aload_n hx hb dX3_pour_64 rfl (lv_at hl 0 rfl) ?_
        refine va_get (D := eD E) (ci := 4) (v := .ref (am 4)) (C := RX3) (T := TX3) (N := 27) hx hb hta lay_X3 hown hKE.1 hP 0 rfl rfl 21 (by decide) (hta _ tw_575) (fun _ h9 => h9) rfl dX3_pour_65 ?_
        refine lv_iload_n hx hb dX3_pour_68 rfl (lv_at hl 1 rfl) ?_
        refine va_iald hx hb hKE.1 hP 4 0 rfl rfl hi_506 dX3_pour_69 ?_
        have hP9 : va_P (eD E) vwCl (wM E am gm_498 ks_499 os_500 ts_501 (upd iq_502 p0.toNatClampNeg 0) mk_503 me_504) H := hP
        have hD9 : va_D A (wM E am gm_498 ks_499 os_500 ts_501 (upd iq_502 p0.toNatClampNeg 0) mk_503 me_504) := hD
        exact W.iret (v := ((upd iq_502 p0.toNatClampNeg 0) p0.toNatClampNeg)) hx hb hr (fun t ht hW => ⟨⟨((upd iq_502 p0.toNatClampNeg 0) p0.toNatClampNeg), (gm_498, ks_499, os_500, ts_501, (upd iq_502 p0.toNatClampNeg 0), mk_503, me_504), rfl, hw, ⟨by rw [ht]; exact hP9, hD9⟩⟩, hS.F ht⟩) hS.2.2 dX3_pour_70
    · have hw := hw.1 c_505
      refine lv_iconst (v := 0) hx hb dX3_pour_34 (by decide) ?_
      have hP9 : va_P (eD E) vwCl (wM E am gm_498 ks_499 os_500 ts_501 iq_502 mk_503 me_504) H := hP
      have hD9 : va_D A (wM E am gm_498 ks_499 os_500 ts_501 iq_502 mk_503 me_504) := hD
      exact W.iret (v := 0) hx hb hr (fun t ht hW => ⟨⟨0, (gm_498, ks_499, os_500, ts_501, iq_502, mk_503, me_504), rfl, hw, ⟨by rw [ht]; exact hP9, hD9⟩⟩, hS.F ht⟩) hS.2.2 dX3_pour_35
def wp_X3_at (E : EV) (post : Int32 → (Nat → Int32) → (Nat → Int32) → (Nat → Int32) → (Nat → Int32) → (Nat → Int32) → (Nat → Int32) → (Nat → Int32) → Prop) (gm : Nat → Int32) (ks : Nat → Int32) (os : Nat → Int32) (ts : Nat → Int32) (iq : Nat → Int32) (mk : Nat → Int32) (me : Nat → Int32) : Prop := post ((100 * (gm 18)) + (gm 17)) (upd gm 26 0) ks os ts iq mk me
set_option maxHeartbeats 4000000 in
set_option maxRecDepth 100000 in
theorem c_X3_at (E : EV) (l : Launch) (am : Nat → Nat) (gm : Nat → Int32) (ks : Nat → Int32) (os : Nat → Int32) (ts : Nat → Int32) (iq : Nat → Int32) (mk : Nat → Int32) (me : Nat → Int32) (hz : Nat) (post : Int32 → (Nat → Int32) → (Nat → Int32) → (Nat → Int32) → (Nat → Int32) → (Nat → Int32) → (Nat → Int32) → (Nat → Int32) → Prop) (hw : wp_X3_at E post gm ks os ts iq mk me) : Met l yX3_at (Cond.code yX3_at cX3_at 1 (some .int) :: ALLW) ({ frames := 0, cells := 0, slots := 0, locals := 0 } : Room) (va_Pc [.ref (am 0)] (preM E (wM E am gm ks os ts iq mk me) hz)) (va_Qi (fun (r : Int32) (u : (Nat → Int32) × (Nat → Int32) × (Nat → Int32) × (Nat → Int32) × (Nat → Int32) × (Nat → Int32) × (Nat → Int32)) => post r u.1 u.2.1 u.2.2.1 u.2.2.2.1 u.2.2.2.2.1 u.2.2.2.2.2.1 u.2.2.2.2.2.2) (fun (u : (Nat → Int32) × (Nat → Int32) × (Nat → Int32) × (Nat → Int32) × (Nat → Int32) × (Nat → Int32) × (Nat → Int32)) t => va_P (eD E) vwCl (wM E am u.1 u.2.1 u.2.2.1 u.2.2.2.1 u.2.2.2.2.1 u.2.2.2.2.2.1 u.2.2.2.2.2.2) t.heap ∧ va_D (va_A (wM E am gm ks os ts iq mk me) hz) (wM E am u.1 u.2.1 u.2.2.1 u.2.2.2.1 u.2.2.2.2.1 u.2.2.2.2.2.1 u.2.2.2.2.2.2)) (va_A (wM E am gm ks os ts iq mk me) hz)) 0 0 (va_A (wM E am gm ks os ts iq mk me) hz) := by
  refine Met.ofW (cc := cX3_at) (maxL := 1) (ret := (some .int)) (by decide) rfl ?_
  intro p e s m args below meth c s₁ B hml hv
  obtain ⟨rfl, hpre⟩ := hv
  have hx := B.exec
  have hb := B.bytes
  have hr := B.returns
  have hlocks := B.notSynchronized
  have hts := atoms_spec (ws := (Cond.code yX3_at cX3_at 1 (some .int) :: ALLW)) B.pre
  have hta : ∀ w ∈ ALLW, w.before ([.ref (am 0)] : List Value).toArray s = true := fun w h => hts w (List.mem_cons_of_mem _ h)
  have hown : s.vm.findClass RX3 = some m.cls := findClass_of_methodNamed B.named
  obtain ⟨hsz, hP, hKE, hD0, hZ⟩ := hpre
  subst hsz
  have hD := hD0.self (sz := s.heap.size)
  generalize hAe : va_A (wM E am gm ks os ts iq mk me) s.heap.size = A at hD hZ ⊢
  have hA : ∀ q : Nat, s.heap.size ≤ q → A q := fun q h => by rw [← hAe]; exact Or.inr h
  have hS : va_S A s.heap s.heap [] := va_S.rf
  have hP : va_P (eD E) vwCl [((am 0), .inr (4, [.int (gm 0), .int (gm 1), .int (gm 2), .int (gm 3), .int (gm 4), .ref (am 1), .ref (am 2), .ref (am 3), .int (gm 8), .int (gm 9), .int (gm 10), .int (gm 11), .int (gm 12), .int (gm 13), .int (gm 14), .int (gm 15), .int (gm 16), .int (gm 17), .int (gm 18), .int (gm 19), .int (gm 20), .ref (am 4), .int (gm 22), .int (gm 23), .ref (am 5), .ref (am 6), .int (gm 26)])), ((am 1), .inl (eC E 0, 32, .inl ks)), ((am 2), .inl (eC E 0, 32, .inl os)), ((am 3), .inl (eC E 0, 32, .inl ts)), ((am 4), .inl (eC E 0, 3, .inl iq)), ((am 5), .inl (eC E 0, 320, .inl mk)), ((am 6), .inl (eC E 0, 320, .inl me))] s.heap := hP
  have hD : va_D A [((am 0), .inr (4, [.int (gm 0), .int (gm 1), .int (gm 2), .int (gm 3), .int (gm 4), .ref (am 1), .ref (am 2), .ref (am 3), .int (gm 8), .int (gm 9), .int (gm 10), .int (gm 11), .int (gm 12), .int (gm 13), .int (gm 14), .int (gm 15), .int (gm 16), .int (gm 17), .int (gm 18), .int (gm 19), .int (gm 20), .ref (am 4), .int (gm 22), .int (gm 23), .ref (am 5), .ref (am 6), .int (gm 26)])), ((am 1), .inl (eC E 0, 32, .inl ks)), ((am 2), .inl (eC E 0, 32, .inl os)), ((am 3), .inl (eC E 0, 32, .inl ts)), ((am 4), .inl (eC E 0, 3, .inl iq)), ((am 5), .inl (eC E 0, 320, .inl mk)), ((am 6), .inl (eC E 0, 320, .inl me))] := hD
  have hl := lv_entry ([.ref (am 0)]) (n := 1) (Nat.le_of_ble_eq_true rfl)
  rw [lg_entry_eq]
  generalize (lg_sl ([.ref (am 0)]) ++ List.replicate (1 - (lg_sl ([.ref (am 0)])).length) Slot.unset).toArray = ls at hl ⊢
  have hl : lv_has ls 1 [(0, .ref (am 0))] := hl
  unfold wp_X3_at at hw
  refine lv_aload_n hx hb dX3_at_0 rfl (lv_at hl 0 rfl) ?_
  refine lv_iconst (v := 0) hx hb dX3_at_1 (by decide) ?_
  refine va_put (D := eD E) (ci := 4) (v := .int 0) (ty := .int) (C := RX3) (T := TX3) (N := 27) hx hb hta lay_X3 tyX3 tyX3_ok nmX3 hown hKE.1 hP hD hS 0 rfl rfl 26 (by decide) (hta _ tw_580) (fun _ h9 => h9) rfl (by decide +kernel) rfl rfl (Nat.le_of_ble_eq_true rfl) dX3_at_2 (fun H locs hP hD hS => ?_)
  have hP : va_P (eD E) vwCl [((am 0), .inr (4, [.int (gm 0), .int (gm 1), .int (gm 2), .int (gm 3), .int (gm 4), .ref (am 1), .ref (am 2), .ref (am 3), .int (gm 8), .int (gm 9), .int (gm 10), .int (gm 11), .int (gm 12), .int (gm 13), .int (gm 14), .int (gm 15), .int (gm 16), .int (gm 17), .int (gm 18), .int (gm 19), .int (gm 20), .ref (am 4), .int (gm 22), .int (gm 23), .ref (am 5), .ref (am 6), .int 0])), ((am 1), .inl (eC E 0, 32, .inl ks)), ((am 2), .inl (eC E 0, 32, .inl os)), ((am 3), .inl (eC E 0, 32, .inl ts)), ((am 4), .inl (eC E 0, 3, .inl iq)), ((am 5), .inl (eC E 0, 320, .inl mk)), ((am 6), .inl (eC E 0, 320, .inl me))] H := hP
  have hD : va_D A [((am 0), .inr (4, [.int (gm 0), .int (gm 1), .int (gm 2), .int (gm 3), .int (gm 4), .ref (am 1), .ref (am 2), .ref (am 3), .int (gm 8), .int (gm 9), .int (gm 10), .int (gm 11), .int (gm 12), .int (gm 13), .int (gm 14), .int (gm 15), .int (gm 16), .int (gm 17), .int (gm 18), .int (gm 19), .int (gm 20), .ref (am 4), .int (gm 22), .int (gm 23), .ref (am 5), .ref (am 6), .int 0])), ((am 1), .inl (eC E 0, 32, .inl ks)), ((am 2), .inl (eC E 0, 32, .inl os)), ((am 3), .inl (eC E 0, 32, .inl ts)), ((am 4), .inl (eC E 0, 3, .inl iq)), ((am 5), .inl (eC E 0, 320, .inl mk)), ((am 6), .inl (eC E 0, 320, .inl me))] := hD
  refine lv_bipush (v := 100) hx hb dX3_at_5 (by decide) ?_
  refine lv_aload_n hx hb dX3_at_7 rfl (lv_at hl 0 rfl) ?_
  refine va_get (D := eD E) (ci := 4) (v := .int (gm 18)) (C := RX3) (T := TX3) (N := 27) hx hb hta lay_X3 hown hKE.1 hP 0 rfl rfl 18 (by decide) (hta _ tw_572) (fun _ h9 => h9) rfl dX3_at_8 ?_
  refine lv_imul hx hb dX3_at_11 ?_
  refine lv_aload_n hx hb dX3_at_12 rfl (lv_at hl 0 rfl) ?_
  refine va_get (D := eD E) (ci := 4) (v := .int (gm 17)) (C := RX3) (T := TX3) (N := 27) hx hb hta lay_X3 hown hKE.1 hP 0 rfl rfl 17 (by decide) (hta _ tw_571) (fun _ h9 => h9) rfl dX3_at_13 ?_
  refine lv_iadd hx hb dX3_at_16 ?_
  have hP9 : va_P (eD E) vwCl (wM E am (upd gm 26 0) ks os ts iq mk me) H := hP
  have hD9 : va_D A (wM E am (upd gm 26 0) ks os ts iq mk me) := hD
  exact W.iret (v := ((100 * (gm 18)) + (gm 17))) hx hb hr (fun t ht hW => ⟨⟨((100 * (gm 18)) + (gm 17)), ((upd gm 26 0), ks, os, ts, iq, mk, me), rfl, hw, ⟨by rw [ht]; exact hP9, hD9⟩⟩, hS.F ht⟩) hS.2.2 dX3_at_17
def wp_X3_isDown (E : EV) (post : Int32 → (Nat → Int32) → (Nat → Int32) → (Nat → Int32) → (Nat → Int32) → (Nat → Int32) → (Nat → Int32) → (Nat → Int32) → Prop) (gm : Nat → Int32) (ks : Nat → Int32) (os : Nat → Int32) (ts : Nat → Int32) (iq : Nat → Int32) (mk : Nat → Int32) (me : Nat → Int32) : Prop := (narrow .boolean (.int (gm 19)) = .int (gm 19) ∧ post (gm 19) (upd gm 26 0) ks os ts iq mk me)
set_option maxHeartbeats 4000000 in
set_option maxRecDepth 100000 in
theorem c_X3_isDown (E : EV) (l : Launch) (am : Nat → Nat) (gm : Nat → Int32) (ks : Nat → Int32) (os : Nat → Int32) (ts : Nat → Int32) (iq : Nat → Int32) (mk : Nat → Int32) (me : Nat → Int32) (hz : Nat) (post : Int32 → (Nat → Int32) → (Nat → Int32) → (Nat → Int32) → (Nat → Int32) → (Nat → Int32) → (Nat → Int32) → (Nat → Int32) → Prop) (hw : wp_X3_isDown E post gm ks os ts iq mk me) : Met l yX3_isDown (Cond.code yX3_isDown cX3_isDown 1 (some .boolean) :: ALLW) ({ frames := 0, cells := 0, slots := 0, locals := 0 } : Room) (va_Pc [.ref (am 0)] (preM E (wM E am gm ks os ts iq mk me) hz)) (va_Qi (fun (r : Int32) (u : (Nat → Int32) × (Nat → Int32) × (Nat → Int32) × (Nat → Int32) × (Nat → Int32) × (Nat → Int32) × (Nat → Int32)) => post r u.1 u.2.1 u.2.2.1 u.2.2.2.1 u.2.2.2.2.1 u.2.2.2.2.2.1 u.2.2.2.2.2.2) (fun (u : (Nat → Int32) × (Nat → Int32) × (Nat → Int32) × (Nat → Int32) × (Nat → Int32) × (Nat → Int32) × (Nat → Int32)) t => va_P (eD E) vwCl (wM E am u.1 u.2.1 u.2.2.1 u.2.2.2.1 u.2.2.2.2.1 u.2.2.2.2.2.1 u.2.2.2.2.2.2) t.heap ∧ va_D (va_A (wM E am gm ks os ts iq mk me) hz) (wM E am u.1 u.2.1 u.2.2.1 u.2.2.2.1 u.2.2.2.2.1 u.2.2.2.2.2.1 u.2.2.2.2.2.2)) (va_A (wM E am gm ks os ts iq mk me) hz)) 0 0 (va_A (wM E am gm ks os ts iq mk me) hz) := by
  refine Met.ofW (cc := cX3_isDown) (maxL := 1) (ret := (some .boolean)) (by decide) rfl ?_
  intro p e s m args below meth c s₁ B hml hv
  obtain ⟨rfl, hpre⟩ := hv
  have hx := B.exec
  have hb := B.bytes
  have hr := B.returns
  have hlocks := B.notSynchronized
  have hts := atoms_spec (ws := (Cond.code yX3_isDown cX3_isDown 1 (some .boolean) :: ALLW)) B.pre
  have hta : ∀ w ∈ ALLW, w.before ([.ref (am 0)] : List Value).toArray s = true := fun w h => hts w (List.mem_cons_of_mem _ h)
  have hown : s.vm.findClass RX3 = some m.cls := findClass_of_methodNamed B.named
  obtain ⟨hsz, hP, hKE, hD0, hZ⟩ := hpre
  subst hsz
  have hD := hD0.self (sz := s.heap.size)
  generalize hAe : va_A (wM E am gm ks os ts iq mk me) s.heap.size = A at hD hZ ⊢
  have hA : ∀ q : Nat, s.heap.size ≤ q → A q := fun q h => by rw [← hAe]; exact Or.inr h
  have hS : va_S A s.heap s.heap [] := va_S.rf
  have hP : va_P (eD E) vwCl [((am 0), .inr (4, [.int (gm 0), .int (gm 1), .int (gm 2), .int (gm 3), .int (gm 4), .ref (am 1), .ref (am 2), .ref (am 3), .int (gm 8), .int (gm 9), .int (gm 10), .int (gm 11), .int (gm 12), .int (gm 13), .int (gm 14), .int (gm 15), .int (gm 16), .int (gm 17), .int (gm 18), .int (gm 19), .int (gm 20), .ref (am 4), .int (gm 22), .int (gm 23), .ref (am 5), .ref (am 6), .int (gm 26)])), ((am 1), .inl (eC E 0, 32, .inl ks)), ((am 2), .inl (eC E 0, 32, .inl os)), ((am 3), .inl (eC E 0, 32, .inl ts)), ((am 4), .inl (eC E 0, 3, .inl iq)), ((am 5), .inl (eC E 0, 320, .inl mk)), ((am 6), .inl (eC E 0, 320, .inl me))] s.heap := hP
  have hD : va_D A [((am 0), .inr (4, [.int (gm 0), .int (gm 1), .int (gm 2), .int (gm 3), .int (gm 4), .ref (am 1), .ref (am 2), .ref (am 3), .int (gm 8), .int (gm 9), .int (gm 10), .int (gm 11), .int (gm 12), .int (gm 13), .int (gm 14), .int (gm 15), .int (gm 16), .int (gm 17), .int (gm 18), .int (gm 19), .int (gm 20), .ref (am 4), .int (gm 22), .int (gm 23), .ref (am 5), .ref (am 6), .int (gm 26)])), ((am 1), .inl (eC E 0, 32, .inl ks)), ((am 2), .inl (eC E 0, 32, .inl os)), ((am 3), .inl (eC E 0, 32, .inl ts)), ((am 4), .inl (eC E 0, 3, .inl iq)), ((am 5), .inl (eC E 0, 320, .inl mk)), ((am 6), .inl (eC E 0, 320, .inl me))] := hD
  have hl := lv_entry ([.ref (am 0)]) (n := 1) (Nat.le_of_ble_eq_true rfl)
  rw [lg_entry_eq]
  generalize (lg_sl ([.ref (am 0)]) ++ List.replicate (1 - (lg_sl ([.ref (am 0)])).length) Slot.unset).toArray = ls at hl ⊢
  have hl : lv_has ls 1 [(0, .ref (am 0))] := hl
  unfold wp_X3_isDown at hw
  refine lv_aload_n hx hb dX3_isDown_0 rfl (lv_at hl 0 rfl) ?_
  refine lv_iconst (v := 0) hx hb dX3_isDown_1 (by decide) ?_
  refine va_put (D := eD E) (ci := 4) (v := .int 0) (ty := .int) (C := RX3) (T := TX3) (N := 27) hx hb hta lay_X3 tyX3 tyX3_ok nmX3 hown hKE.1 hP hD hS 0 rfl rfl 26 (by decide) (hta _ tw_580) (fun _ h9 => h9) rfl (by decide +kernel) rfl rfl (Nat.le_of_ble_eq_true rfl) dX3_isDown_2 (fun H locs hP hD hS => ?_)
  have hP : va_P (eD E) vwCl [((am 0), .inr (4, [.int (gm 0), .int (gm 1), .int (gm 2), .int (gm 3), .int (gm 4), .ref (am 1), .ref (am 2), .ref (am 3), .int (gm 8), .int (gm 9), .int (gm 10), .int (gm 11), .int (gm 12), .int (gm 13), .int (gm 14), .int (gm 15), .int (gm 16), .int (gm 17), .int (gm 18), .int (gm 19), .int (gm 20), .ref (am 4), .int (gm 22), .int (gm 23), .ref (am 5), .ref (am 6), .int 0])), ((am 1), .inl (eC E 0, 32, .inl ks)), ((am 2), .inl (eC E 0, 32, .inl os)), ((am 3), .inl (eC E 0, 32, .inl ts)), ((am 4), .inl (eC E 0, 3, .inl iq)), ((am 5), .inl (eC E 0, 320, .inl mk)), ((am 6), .inl (eC E 0, 320, .inl me))] H := hP
  have hD : va_D A [((am 0), .inr (4, [.int (gm 0), .int (gm 1), .int (gm 2), .int (gm 3), .int (gm 4), .ref (am 1), .ref (am 2), .ref (am 3), .int (gm 8), .int (gm 9), .int (gm 10), .int (gm 11), .int (gm 12), .int (gm 13), .int (gm 14), .int (gm 15), .int (gm 16), .int (gm 17), .int (gm 18), .int (gm 19), .int (gm 20), .ref (am 4), .int (gm 22), .int (gm 23), .ref (am 5), .ref (am 6), .int 0])), ((am 1), .inl (eC E 0, 32, .inl ks)), ((am 2), .inl (eC E 0, 32, .inl os)), ((am 3), .inl (eC E 0, 32, .inl ts)), ((am 4), .inl (eC E 0, 3, .inl iq)), ((am 5), .inl (eC E 0, 320, .inl mk)), ((am 6), .inl (eC E 0, 320, .inl me))] := hD
  refine lv_aload_n hx hb dX3_isDown_5 rfl (lv_at hl 0 rfl) ?_
  refine va_get (D := eD E) (ci := 4) (v := .int (gm 19)) (C := RX3) (T := TX3) (N := 27) hx hb hta lay_X3 hown hKE.1 hP 0 rfl rfl 19 (by decide) (hta _ tw_573) (fun _ h9 => h9) rfl dX3_isDown_6 ?_
  obtain ⟨hn_508, hw⟩ := hw
  have hP9 : va_P (eD E) vwCl (wM E am (upd gm 26 0) ks os ts iq mk me) H := hP
  have hD9 : va_D A (wM E am (upd gm 26 0) ks os ts iq mk me) := hD
  exact W.zret (v := (gm 19)) hx hb hr hn_508 (fun t ht hW => ⟨⟨(gm 19), ((upd gm 26 0), ks, os, ts, iq, mk, me), rfl, hw, ⟨by rw [ht]; exact hP9, hD9⟩⟩, hS.F ht⟩) hS.2.2 dX3_isDown_9
def wp_X3_pen (E : EV) (post : Int32 → (Nat → Int32) → (Nat → Int32) → (Nat → Int32) → (Nat → Int32) → (Nat → Int32) → (Nat → Int32) → (Nat → Int32) → Prop) (gm : Nat → Int32) (ks : Nat → Int32) (os : Nat → Int32) (ts : Nat → Int32) (iq : Nat → Int32) (mk : Nat → Int32) (me : Nat → Int32) : Prop := post (gm 20) (upd gm 26 0) ks os ts iq mk me
set_option maxHeartbeats 4000000 in
set_option maxRecDepth 100000 in
theorem c_X3_pen (E : EV) (l : Launch) (am : Nat → Nat) (gm : Nat → Int32) (ks : Nat → Int32) (os : Nat → Int32) (ts : Nat → Int32) (iq : Nat → Int32) (mk : Nat → Int32) (me : Nat → Int32) (hz : Nat) (post : Int32 → (Nat → Int32) → (Nat → Int32) → (Nat → Int32) → (Nat → Int32) → (Nat → Int32) → (Nat → Int32) → (Nat → Int32) → Prop) (hw : wp_X3_pen E post gm ks os ts iq mk me) : Met l yX3_pen (Cond.code yX3_pen cX3_pen 1 (some .int) :: ALLW) ({ frames := 0, cells := 0, slots := 0, locals := 0 } : Room) (va_Pc [.ref (am 0)] (preM E (wM E am gm ks os ts iq mk me) hz)) (va_Qi (fun (r : Int32) (u : (Nat → Int32) × (Nat → Int32) × (Nat → Int32) × (Nat → Int32) × (Nat → Int32) × (Nat → Int32) × (Nat → Int32)) => post r u.1 u.2.1 u.2.2.1 u.2.2.2.1 u.2.2.2.2.1 u.2.2.2.2.2.1 u.2.2.2.2.2.2) (fun (u : (Nat → Int32) × (Nat → Int32) × (Nat → Int32) × (Nat → Int32) × (Nat → Int32) × (Nat → Int32) × (Nat → Int32)) t => va_P (eD E) vwCl (wM E am u.1 u.2.1 u.2.2.1 u.2.2.2.1 u.2.2.2.2.1 u.2.2.2.2.2.1 u.2.2.2.2.2.2) t.heap ∧ va_D (va_A (wM E am gm ks os ts iq mk me) hz) (wM E am u.1 u.2.1 u.2.2.1 u.2.2.2.1 u.2.2.2.2.1 u.2.2.2.2.2.1 u.2.2.2.2.2.2)) (va_A (wM E am gm ks os ts iq mk me) hz)) 0 0 (va_A (wM E am gm ks os ts iq mk me) hz) := by
  refine Met.ofW (cc := cX3_pen) (maxL := 1) (ret := (some .int)) (by decide) rfl ?_
  intro p e s m args below meth c s₁ B hml hv
  obtain ⟨rfl, hpre⟩ := hv
  have hx := B.exec
  have hb := B.bytes
  have hr := B.returns
  have hlocks := B.notSynchronized
  have hts := atoms_spec (ws := (Cond.code yX3_pen cX3_pen 1 (some .int) :: ALLW)) B.pre
  have hta : ∀ w ∈ ALLW, w.before ([.ref (am 0)] : List Value).toArray s = true := fun w h => hts w (List.mem_cons_of_mem _ h)
  have hown : s.vm.findClass RX3 = some m.cls := findClass_of_methodNamed B.named
  obtain ⟨hsz, hP, hKE, hD0, hZ⟩ := hpre
  subst hsz
  have hD := hD0.self (sz := s.heap.size)
  generalize hAe : va_A (wM E am gm ks os ts iq mk me) s.heap.size = A at hD hZ ⊢
  have hA : ∀ q : Nat, s.heap.size ≤ q → A q := fun q h => by rw [← hAe]; exact Or.inr h
  have hS : va_S A s.heap s.heap [] := va_S.rf
  have hP : va_P (eD E) vwCl [((am 0), .inr (4, [.int (gm 0), .int (gm 1), .int (gm 2), .int (gm 3), .int (gm 4), .ref (am 1), .ref (am 2), .ref (am 3), .int (gm 8), .int (gm 9), .int (gm 10), .int (gm 11), .int (gm 12), .int (gm 13), .int (gm 14), .int (gm 15), .int (gm 16), .int (gm 17), .int (gm 18), .int (gm 19), .int (gm 20), .ref (am 4), .int (gm 22), .int (gm 23), .ref (am 5), .ref (am 6), .int (gm 26)])), ((am 1), .inl (eC E 0, 32, .inl ks)), ((am 2), .inl (eC E 0, 32, .inl os)), ((am 3), .inl (eC E 0, 32, .inl ts)), ((am 4), .inl (eC E 0, 3, .inl iq)), ((am 5), .inl (eC E 0, 320, .inl mk)), ((am 6), .inl (eC E 0, 320, .inl me))] s.heap := hP
  have hD : va_D A [((am 0), .inr (4, [.int (gm 0), .int (gm 1), .int (gm 2), .int (gm 3), .int (gm 4), .ref (am 1), .ref (am 2), .ref (am 3), .int (gm 8), .int (gm 9), .int (gm 10), .int (gm 11), .int (gm 12), .int (gm 13), .int (gm 14), .int (gm 15), .int (gm 16), .int (gm 17), .int (gm 18), .int (gm 19), .int (gm 20), .ref (am 4), .int (gm 22), .int (gm 23), .ref (am 5), .ref (am 6), .int (gm 26)])), ((am 1), .inl (eC E 0, 32, .inl ks)), ((am 2), .inl (eC E 0, 32, .inl os)), ((am 3), .inl (eC E 0, 32, .inl ts)), ((am 4), .inl (eC E 0, 3, .inl iq)), ((am 5), .inl (eC E 0, 320, .inl mk)), ((am 6), .inl (eC E 0, 320, .inl me))] := hD
  have hl := lv_entry ([.ref (am 0)]) (n := 1) (Nat.le_of_ble_eq_true rfl)
  rw [lg_entry_eq]
  generalize (lg_sl ([.ref (am 0)]) ++ List.replicate (1 - (lg_sl ([.ref (am 0)])).length) Slot.unset).toArray = ls at hl ⊢
  have hl : lv_has ls 1 [(0, .ref (am 0))] := hl
  unfold wp_X3_pen at hw
  refine lv_aload_n hx hb dX3_pen_0 rfl (lv_at hl 0 rfl) ?_
  refine lv_iconst (v := 0) hx hb dX3_pen_1 (by decide) ?_
  refine va_put (D := eD E) (ci := 4) (v := .int 0) (ty := .int) (C := RX3) (T := TX3) (N := 27) hx hb hta lay_X3 tyX3 tyX3_ok nmX3 hown hKE.1 hP hD hS 0 rfl rfl 26 (by decide) (hta _ tw_580) (fun _ h9 => h9) rfl (by decide +kernel) rfl rfl (Nat.le_of_ble_eq_true rfl) dX3_pen_2 (fun H locs hP hD hS => ?_)
  have hP : va_P (eD E) vwCl [((am 0), .inr (4, [.int (gm 0), .int (gm 1), .int (gm 2), .int (gm 3), .int (gm 4), .ref (am 1), .ref (am 2), .ref (am 3), .int (gm 8), .int (gm 9), .int (gm 10), .int (gm 11), .int (gm 12), .int (gm 13), .int (gm 14), .int (gm 15), .int (gm 16), .int (gm 17), .int (gm 18), .int (gm 19), .int (gm 20), .ref (am 4), .int (gm 22), .int (gm 23), .ref (am 5), .ref (am 6), .int 0])), ((am 1), .inl (eC E 0, 32, .inl ks)), ((am 2), .inl (eC E 0, 32, .inl os)), ((am 3), .inl (eC E 0, 32, .inl ts)), ((am 4), .inl (eC E 0, 3, .inl iq)), ((am 5), .inl (eC E 0, 320, .inl mk)), ((am 6), .inl (eC E 0, 320, .inl me))] H := hP
  have hD : va_D A [((am 0), .inr (4, [.int (gm 0), .int (gm 1), .int (gm 2), .int (gm 3), .int (gm 4), .ref (am 1), .ref (am 2), .ref (am 3), .int (gm 8), .int (gm 9), .int (gm 10), .int (gm 11), .int (gm 12), .int (gm 13), .int (gm 14), .int (gm 15), .int (gm 16), .int (gm 17), .int (gm 18), .int (gm 19), .int (gm 20), .ref (am 4), .int (gm 22), .int (gm 23), .ref (am 5), .ref (am 6), .int 0])), ((am 1), .inl (eC E 0, 32, .inl ks)), ((am 2), .inl (eC E 0, 32, .inl os)), ((am 3), .inl (eC E 0, 32, .inl ts)), ((am 4), .inl (eC E 0, 3, .inl iq)), ((am 5), .inl (eC E 0, 320, .inl mk)), ((am 6), .inl (eC E 0, 320, .inl me))] := hD
  refine lv_aload_n hx hb dX3_pen_5 rfl (lv_at hl 0 rfl) ?_
  refine va_get (D := eD E) (ci := 4) (v := .int (gm 20)) (C := RX3) (T := TX3) (N := 27) hx hb hta lay_X3 hown hKE.1 hP 0 rfl rfl 20 (by decide) (hta _ tw_574) (fun _ h9 => h9) rfl dX3_pen_6 ?_
  have hP9 : va_P (eD E) vwCl (wM E am (upd gm 26 0) ks os ts iq mk me) H := hP
  have hD9 : va_D A (wM E am (upd gm 26 0) ks os ts iq mk me) := hD
  exact W.iret (v := (gm 20)) hx hb hr (fun t ht hW => ⟨⟨(gm 20), ((upd gm 26 0), ks, os, ts, iq, mk, me), rfl, hw, ⟨by rw [ht]; exact hP9, hD9⟩⟩, hS.F ht⟩) hS.2.2 dX3_pen_9
def wp_X3_ink (E : EV) (post : Int32 → (Nat → Int32) → (Nat → Int32) → (Nat → Int32) → (Nat → Int32) → (Nat → Int32) → (Nat → Int32) → (Nat → Int32) → Prop) (gm : Nat → Int32) (ks : Nat → Int32) (os : Nat → Int32) (ts : Nat → Int32) (iq : Nat → Int32) (mk : Nat → Int32) (me : Nat → Int32) (p0 : Int32) : Prop := (wp_X3_isPen E (fun r_509 : Int32 => ((r_509 = 0 → (wp_X3_goes E (fun (r_511 : Int32) (gm_512 : Nat → Int32) (ks_513 : Nat → Int32) (os_514 : Nat → Int32) (ts_515 : Nat → Int32) (iq_516 : Nat → Int32) (mk_517 : Nat → Int32) (me_518 : Nat → Int32) => ((r_511 = 0 → post 0 gm_512 ks_513 os_514 ts_515 iq_516 mk_517 me_518) ∧ (¬ (r_511 = 0) → (vp_in p0 3 ∧ post (iq_516 p0.toNatClampNeg) gm_512 ks_513 os_514 ts_515 iq_516 mk_517 me_518)))) gm ks os ts iq mk me 1)) ∧ (¬ (r_509 = 0) → (wp_X3_goes E (fun (r_521 : Int32) (gm_522 : Nat → Int32) (ks_523 : Nat → Int32) (os_524 : Nat → Int32) (ts_525 : Nat → Int32) (iq_526 : Nat → Int32) (mk_527 : Nat → Int32) (me_528 : Nat → Int32) => ((r_521 = 0 → post 0 gm_522 ks_523 os_524 ts_525 iq_526 mk_527 me_528) ∧ (¬ (r_521 = 0) → (vp_in p0 3 ∧ post (iq_526 p0.toNatClampNeg) gm_522 ks_523 os_524 ts_525 iq_526 mk_527 me_528)))) gm ks os ts iq mk me 0)))) p0)
set_option maxHeartbeats 4000000 in
set_option maxRecDepth 100000 in
theorem c_X3_ink (E : EV) (l : Launch) (am : Nat → Nat) (gm : Nat → Int32) (ks : Nat → Int32) (os : Nat → Int32) (ts : Nat → Int32) (iq : Nat → Int32) (mk : Nat → Int32) (me : Nat → Int32) (p0 : Int32) (hz : Nat) (post : Int32 → (Nat → Int32) → (Nat → Int32) → (Nat → Int32) → (Nat → Int32) → (Nat → Int32) → (Nat → Int32) → (Nat → Int32) → Prop) (hw : wp_X3_ink E post gm ks os ts iq mk me p0) : Met l yX3_ink (Cond.code yX3_ink cX3_ink 2 (some .int) :: ALLW) ({ frames := 2, cells := 0, slots := 0, locals := 42 } : Room) (va_Pc [.ref (am 0), .int p0] (preM E (wM E am gm ks os ts iq mk me) hz)) (va_Qi (fun (r : Int32) (u : (Nat → Int32) × (Nat → Int32) × (Nat → Int32) × (Nat → Int32) × (Nat → Int32) × (Nat → Int32) × (Nat → Int32)) => post r u.1 u.2.1 u.2.2.1 u.2.2.2.1 u.2.2.2.2.1 u.2.2.2.2.2.1 u.2.2.2.2.2.2) (fun (u : (Nat → Int32) × (Nat → Int32) × (Nat → Int32) × (Nat → Int32) × (Nat → Int32) × (Nat → Int32) × (Nat → Int32)) t => va_P (eD E) vwCl (wM E am u.1 u.2.1 u.2.2.1 u.2.2.2.1 u.2.2.2.2.1 u.2.2.2.2.2.1 u.2.2.2.2.2.2) t.heap ∧ va_D (va_A (wM E am gm ks os ts iq mk me) hz) (wM E am u.1 u.2.1 u.2.2.1 u.2.2.2.1 u.2.2.2.2.1 u.2.2.2.2.2.1 u.2.2.2.2.2.2)) (va_A (wM E am gm ks os ts iq mk me) hz)) 0 0 (va_A (wM E am gm ks os ts iq mk me) hz) := by
  refine Met.ofW (cc := cX3_ink) (maxL := 2) (ret := (some .int)) (by decide) rfl ?_
  intro p e s m args below meth c s₁ B hml hv
  obtain ⟨rfl, hpre⟩ := hv
  have hx := B.exec
  have hb := B.bytes
  have hr := B.returns
  have hlocks := B.notSynchronized
  have hts := atoms_spec (ws := (Cond.code yX3_ink cX3_ink 2 (some .int) :: ALLW)) B.pre
  have hta : ∀ w ∈ ALLW, w.before ([.ref (am 0), .int p0] : List Value).toArray s = true := fun w h => hts w (List.mem_cons_of_mem _ h)
  have hown : s.vm.findClass RX3 = some m.cls := findClass_of_methodNamed B.named
  obtain ⟨hsz, hP, hKE, hD0, hZ⟩ := hpre
  subst hsz
  have hD := hD0.self (sz := s.heap.size)
  generalize hAe : va_A (wM E am gm ks os ts iq mk me) s.heap.size = A at hD hZ ⊢
  have hA : ∀ q : Nat, s.heap.size ≤ q → A q := fun q h => by rw [← hAe]; exact Or.inr h
  have hS : va_S A s.heap s.heap [] := va_S.rf
  have hP : va_P (eD E) vwCl [((am 0), .inr (4, [.int (gm 0), .int (gm 1), .int (gm 2), .int (gm 3), .int (gm 4), .ref (am 1), .ref (am 2), .ref (am 3), .int (gm 8), .int (gm 9), .int (gm 10), .int (gm 11), .int (gm 12), .int (gm 13), .int (gm 14), .int (gm 15), .int (gm 16), .int (gm 17), .int (gm 18), .int (gm 19), .int (gm 20), .ref (am 4), .int (gm 22), .int (gm 23), .ref (am 5), .ref (am 6), .int (gm 26)])), ((am 1), .inl (eC E 0, 32, .inl ks)), ((am 2), .inl (eC E 0, 32, .inl os)), ((am 3), .inl (eC E 0, 32, .inl ts)), ((am 4), .inl (eC E 0, 3, .inl iq)), ((am 5), .inl (eC E 0, 320, .inl mk)), ((am 6), .inl (eC E 0, 320, .inl me))] s.heap := hP
  have hD : va_D A [((am 0), .inr (4, [.int (gm 0), .int (gm 1), .int (gm 2), .int (gm 3), .int (gm 4), .ref (am 1), .ref (am 2), .ref (am 3), .int (gm 8), .int (gm 9), .int (gm 10), .int (gm 11), .int (gm 12), .int (gm 13), .int (gm 14), .int (gm 15), .int (gm 16), .int (gm 17), .int (gm 18), .int (gm 19), .int (gm 20), .ref (am 4), .int (gm 22), .int (gm 23), .ref (am 5), .ref (am 6), .int (gm 26)])), ((am 1), .inl (eC E 0, 32, .inl ks)), ((am 2), .inl (eC E 0, 32, .inl os)), ((am 3), .inl (eC E 0, 32, .inl ts)), ((am 4), .inl (eC E 0, 3, .inl iq)), ((am 5), .inl (eC E 0, 320, .inl mk)), ((am 6), .inl (eC E 0, 320, .inl me))] := hD
  have hl := lv_entry ([.ref (am 0), .int p0]) (n := 2) (Nat.le_of_ble_eq_true rfl)
  rw [lg_entry_eq]
  generalize (lg_sl ([.ref (am 0), .int p0]) ++ List.replicate (2 - (lg_sl ([.ref (am 0), .int p0])).length) Slot.unset).toArray = ls at hl ⊢
  have hl : lv_has ls 2 [(0, .ref (am 0)), (1, .int p0)] := hl
  unfold wp_X3_ink at hw
  refine lv_aload_n hx hb dX3_ink_0 rfl (lv_at hl 0 rfl) ?_
  refine lv_iload_n hx hb dX3_ink_1 rfl (lv_at hl 1 rfl) ?_
  have hPc : va_P (eD E) vwCl [] s.heap := va_P_nil
  refine vp_callSi (va_Run.run (va_runS (As := [.int p0]) (rest := [.ref (am 0)]) ⟨hx, hb, hml, hown, hta⟩ (c_X3_isPen E l p0 _ hw) (pcS (n := 1) hta tw_737 tw_735 tw_6 tw_736 rfl rfl hd_X3_isPen ⟨Nat.le_of_ble_eq_true rfl, Nat.le_of_ble_eq_true rfl⟩) ⟨fbR, fun U hU hW => ⟨rfl, preR.mk hPc hKE hU hW⟩⟩ rfl rfl hl.1 rfl (lv_room (Nat.le_of_ble_eq_true rfl)) dX3_ink_2 ⟨Nat.le_of_ble_eq_true rfl, Nat.le_of_ble_eq_true rfl⟩)) (fun r_509 hw => ?_)
  refine lv_if_eq (tgt := 12) hx hb dX3_ink_5 (by decide) (fun c_510 => ?_) (fun c_510 => ?_)
  · have hw := hw.1 c_510
    refine lv_iconst (v := 1) hx hb dX3_ink_12 (by decide) ?_
    have hPc : va_P (eD E) vwCl (wM E am gm ks os ts iq mk me) s.heap := hP
    have hDc : va_D A (wM E am gm ks os ts iq mk me) := hD
    have hFc : ∀ q, va_A (wM E am gm ks os ts iq mk me) s.heap.size q → A q := frS hDc hS hA
    refine va_calli (va_runV (As := [.int 1]) (rest := []) ⟨hx, hb, hml, hown, hta⟩ (c_X3_goes E l am gm ks os ts iq mk me 1 s.heap.size _ hw) (pcV (n := 1) hta tw_650 tw_647 tw_6 tw_649 tp_32 rfl rfl hd_X3_goes ⟨Nat.le_of_ble_eq_true rfl, Nat.le_of_ble_eq_true rfl⟩) ⟨fbM, va_recv hKE.1 hP (ci := 4) (q0 := 0) rfl rfl, fun U hU hW => ⟨rfl, preM.mk hPc hKE hDc hZ hS hFc hU hW⟩⟩ rfl rfl hl.1 rfl (lv_room (Nat.le_of_ble_eq_true rfl)) dX3_ink_13 ⟨Nat.le_of_ble_eq_true rfl, Nat.le_of_ble_eq_true rfl⟩) hS (fun q _ h => hFc q h) hFc (fun r_511 u t H locs ht hvm hw hB hz1 hk1 hS => ?_)
    obtain ⟨gm_512, ks_513, os_514, ts_515, iq_516, mk_517, me_518⟩ := u
    obtain ⟨hP1, hD1⟩ := hB
    rw [ht] at hP1
    try dsimp only at hw hP1 hD1
    have hP : va_P (eD E) vwCl [((am 0), .inr (4, [.int (gm_512 0), .int (gm_512 1), .int (gm_512 2), .int (gm_512 3), .int (gm_512 4), .ref (am 1), .ref (am 2), .ref (am 3), .int (gm_512 8), .int (gm_512 9), .int (gm_512 10), .int (gm_512 11), .int (gm_512 12), .int (gm_512 13), .int (gm_512 14), .int (gm_512 15), .int (gm_512 16), .int (gm_512 17), .int (gm_512 18), .int (gm_512 19), .int (gm_512 20), .ref (am 4), .int (gm_512 22), .int (gm_512 23), .ref (am 5), .ref (am 6), .int (gm_512 26)])), ((am 1), .inl (eC E 0, 32, .inl ks_513)), ((am 2), .inl (eC E 0, 32, .inl os_514)), ((am 3), .inl (eC E 0, 32, .inl ts_515)), ((am 4), .inl (eC E 0, 3, .inl iq_516)), ((am 5), .inl (eC E 0, 320, .inl mk_517)), ((am 6), .inl (eC E 0, 320, .inl me_518))] H := hP1
    have hD : va_D A [((am 0), .inr (4, [.int (gm_512 0), .int (gm_512 1), .int (gm_512 2), .int (gm_512 3), .int (gm_512 4), .ref (am 1), .ref (am 2), .ref (am 3), .int (gm_512 8), .int (gm_512 9), .int (gm_512 10), .int (gm_512 11), .int (gm_512 12), .int (gm_512 13), .int (gm_512 14), .int (gm_512 15), .int (gm_512 16), .int (gm_512 17), .int (gm_512 18), .int (gm_512 19), .int (gm_512 20), .ref (am 4), .int (gm_512 22), .int (gm_512 23), .ref (am 5), .ref (am 6), .int (gm_512 26)])), ((am 1), .inl (eC E 0, 32, .inl ks_513)), ((am 2), .inl (eC E 0, 32, .inl os_514)), ((am 3), .inl (eC E 0, 32, .inl ts_515)), ((am 4), .inl (eC E 0, 3, .inl iq_516)), ((am 5), .inl (eC E 0, 320, .inl mk_517)), ((am 6), .inl (eC E 0, 320, .inl me_518))] := hD1.weaken (fun _ q _ h => hFc q.1 h)
    refine lv_if_eq (tgt := 28) hx hb dX3_ink_16 (by decide) (fun c_519 => ?_) (fun c_519 => ?_)
    · have hw := hw.1 c_519
      refine lv_iconst (v := 0) hx hb dX3_ink_28 (by decide) ?_
      have hP9 : va_P (eD E) vwCl (wM E am gm_512 ks_513 os_514 ts_515 iq_516 mk_517 me_518) H := hP
      have hD9 : va_D A (wM E am gm_512 ks_513 os_514 ts_515 iq_516 mk_517 me_518) := hD
      exact W.iret (v := 0) hx hb hr (fun t ht hW => ⟨⟨0, (gm_512, ks_513, os_514, ts_515, iq_516, mk_517, me_518), rfl, hw, ⟨by rw [ht]; exact hP9, hD9⟩⟩, hS.F ht⟩) hS.2.2 dX3_ink_29
    · have hw := hw.2 c_519
      refine lv_aload_n hx hb dX3_ink_19 rfl (lv_at hl 0 rfl) ?_
      refine va_get (D := eD E) (ci := 4) (v := .ref (am 4)) (C := RX3) (T := TX3) (N := 27) hx hb hta lay_X3 hown hKE.1 hP 0 rfl rfl 21 (by decide) (hta _ tw_575) (fun _ h9 => h9) rfl dX3_ink_20 ?_
      refine lv_iload_n hx hb dX3_ink_23 rfl (lv_at hl 1 rfl) ?_
      obtain ⟨hi_520, hw⟩ := hw
      refine va_iald hx hb hKE.1 hP 4 0 rfl rfl hi_520 dX3_ink_24 ?_
      refine lv_goto (tgt := 29) hx hb dX3_ink_25 (by decide) ?_
      have hP9 : va_P (eD E) vwCl (wM E am gm_512 ks_513 os_514 ts_515 iq_516 mk_517 me_518) H := hP
      have hD9 : va_D A (wM E am gm_512 ks_513 os_514 ts_515 iq_516 mk_517 me_518) := hD
      exact W.iret (v := (iq_516 p0.toNatClampNeg)) hx hb hr (fun t ht hW => ⟨⟨(iq_516 p0.toNatClampNeg), (gm_512, ks_513, os_514, ts_515, iq_516, mk_517, me_518), rfl, hw, ⟨by rw [ht]; exact hP9, hD9⟩⟩, hS.F ht⟩) hS.2.2 dX3_ink_29
  · have hw := hw.2 c_510
    refine lv_iconst (v := 0) hx hb dX3_ink_8 (by decide) ?_
    refine lv_goto (tgt := 13) hx hb dX3_ink_9 (by decide) ?_
    have hPc : va_P (eD E) vwCl (wM E am gm ks os ts iq mk me) s.heap := hP
    have hDc : va_D A (wM E am gm ks os ts iq mk me) := hD
    have hFc : ∀ q, va_A (wM E am gm ks os ts iq mk me) s.heap.size q → A q := frS hDc hS hA
    refine va_calli (va_runV (As := [.int 0]) (rest := []) ⟨hx, hb, hml, hown, hta⟩ (c_X3_goes E l am gm ks os ts iq mk me 0 s.heap.size _ hw) (pcV (n := 1) hta tw_650 tw_647 tw_6 tw_649 tp_32 rfl rfl hd_X3_goes ⟨Nat.le_of_ble_eq_true rfl, Nat.le_of_ble_eq_true rfl⟩) ⟨fbM, va_recv hKE.1 hP (ci := 4) (q0 := 0) rfl rfl, fun U hU hW => ⟨rfl, preM.mk hPc hKE hDc hZ hS hFc hU hW⟩⟩ rfl rfl hl.1 rfl (lv_room (Nat.le_of_ble_eq_true rfl)) dX3_ink_13 ⟨Nat.le_of_ble_eq_true rfl, Nat.le_of_ble_eq_true rfl⟩) hS (fun q _ h => hFc q h) hFc (fun r_521 u t H locs ht hvm hw hB hz1 hk1 hS => ?_)
    obtain ⟨gm_522, ks_523, os_524, ts_525, iq_526, mk_527, me_528⟩ := u
    obtain ⟨hP1, hD1⟩ := hB
    rw [ht] at hP1
    try dsimp only at hw hP1 hD1
    have hP : va_P (eD E) vwCl [((am 0), .inr (4, [.int (gm_522 0), .int (gm_522 1), .int (gm_522 2), .int (gm_522 3), .int (gm_522 4), .ref (am 1), .ref (am 2), .ref (am 3), .int (gm_522 8), .int (gm_522 9), .int (gm_522 10), .int (gm_522 11), .int (gm_522 12), .int (gm_522 13), .int (gm_522 14), .int (gm_522 15), .int (gm_522 16), .int (gm_522 17), .int (gm_522 18), .int (gm_522 19), .int (gm_522 20), .ref (am 4), .int (gm_522 22), .int (gm_522 23), .ref (am 5), .ref (am 6), .int (gm_522 26)])), ((am 1), .inl (eC E 0, 32, .inl ks_523)), ((am 2), .inl (eC E 0, 32, .inl os_524)), ((am 3), .inl (eC E 0, 32, .inl ts_525)), ((am 4), .inl (eC E 0, 3, .inl iq_526)), ((am 5), .inl (eC E 0, 320, .inl mk_527)), ((am 6), .inl (eC E 0, 320, .inl me_528))] H := hP1
    have hD : va_D A [((am 0), .inr (4, [.int (gm_522 0), .int (gm_522 1), .int (gm_522 2), .int (gm_522 3), .int (gm_522 4), .ref (am 1), .ref (am 2), .ref (am 3), .int (gm_522 8), .int (gm_522 9), .int (gm_522 10), .int (gm_522 11), .int (gm_522 12), .int (gm_522 13), .int (gm_522 14), .int (gm_522 15), .int (gm_522 16), .int (gm_522 17), .int (gm_522 18), .int (gm_522 19), .int (gm_522 20), .ref (am 4), .int (gm_522 22), .int (gm_522 23), .ref (am 5), .ref (am 6), .int (gm_522 26)])), ((am 1), .inl (eC E 0, 32, .inl ks_523)), ((am 2), .inl (eC E 0, 32, .inl os_524)), ((am 3), .inl (eC E 0, 32, .inl ts_525)), ((am 4), .inl (eC E 0, 3, .inl iq_526)), ((am 5), .inl (eC E 0, 320, .inl mk_527)), ((am 6), .inl (eC E 0, 320, .inl me_528))] := hD1.weaken (fun _ q _ h => hFc q.1 h)
    refine lv_if_eq (tgt := 28) hx hb dX3_ink_16 (by decide) (fun c_529 => ?_) (fun c_529 => ?_)
    · have hw := hw.1 c_529
      refine lv_iconst (v := 0) hx hb dX3_ink_28 (by decide) ?_
      have hP9 : va_P (eD E) vwCl (wM E am gm_522 ks_523 os_524 ts_525 iq_526 mk_527 me_528) H := hP
      have hD9 : va_D A (wM E am gm_522 ks_523 os_524 ts_525 iq_526 mk_527 me_528) := hD
      exact W.iret (v := 0) hx hb hr (fun t ht hW => ⟨⟨0, (gm_522, ks_523, os_524, ts_525, iq_526, mk_527, me_528), rfl, hw, ⟨by rw [ht]; exact hP9, hD9⟩⟩, hS.F ht⟩) hS.2.2 dX3_ink_29
    · have hw := hw.2 c_529
      refine lv_aload_n hx hb dX3_ink_19 rfl (lv_at hl 0 rfl) ?_
      refine va_get (D := eD E) (ci := 4) (v := .ref (am 4)) (C := RX3) (T := TX3) (N := 27) hx hb hta lay_X3 hown hKE.1 hP 0 rfl rfl 21 (by decide) (hta _ tw_575) (fun _ h9 => h9) rfl dX3_ink_20 ?_
      refine lv_iload_n hx hb dX3_ink_23 rfl (lv_at hl 1 rfl) ?_
      obtain ⟨hi_530, hw⟩ := hw
      refine va_iald hx hb hKE.1 hP 4 0 rfl rfl hi_530 dX3_ink_24 ?_
      refine lv_goto (tgt := 29) hx hb dX3_ink_25 (by decide) ?_
      have hP9 : va_P (eD E) vwCl (wM E am gm_522 ks_523 os_524 ts_525 iq_526 mk_527 me_528) H := hP
      have hD9 : va_D A (wM E am gm_522 ks_523 os_524 ts_525 iq_526 mk_527 me_528) := hD
      exact W.iret (v := (iq_526 p0.toNatClampNeg)) hx hb hr (fun t ht hW => ⟨⟨(iq_526 p0.toNatClampNeg), (gm_522, ks_523, os_524, ts_525, iq_526, mk_527, me_528), rfl, hw, ⟨by rw [ht]; exact hP9, hD9⟩⟩, hS.F ht⟩) hS.2.2 dX3_ink_29
def wp_X3_isWaiting (E : EV) (post : Int32 → (Nat → Int32) → (Nat → Int32) → (Nat → Int32) → (Nat → Int32) → (Nat → Int32) → (Nat → Int32) → (Nat → Int32) → Prop) (gm : Nat → Int32) (ks : Nat → Int32) (os : Nat → Int32) (ts : Nat → Int32) (iq : Nat → Int32) (mk : Nat → Int32) (me : Nat → Int32) : Prop := (wp_X3_lacksInk E (fun r_531 : Int32 => (narrow .boolean (.int r_531) = .int r_531 ∧ post r_531 (upd gm 26 0) ks os ts iq mk me)) (upd gm 26 0) ks os ts iq mk me)
set_option maxHeartbeats 4000000 in
set_option maxRecDepth 100000 in
theorem c_X3_isWaiting (E : EV) (l : Launch) (am : Nat → Nat) (gm : Nat → Int32) (ks : Nat → Int32) (os : Nat → Int32) (ts : Nat → Int32) (iq : Nat → Int32) (mk : Nat → Int32) (me : Nat → Int32) (hz : Nat) (post : Int32 → (Nat → Int32) → (Nat → Int32) → (Nat → Int32) → (Nat → Int32) → (Nat → Int32) → (Nat → Int32) → (Nat → Int32) → Prop) (hw : wp_X3_isWaiting E post gm ks os ts iq mk me) : Met l yX3_isWaiting (Cond.code yX3_isWaiting cX3_isWaiting 1 (some .boolean) :: ALLW) ({ frames := 1, cells := 0, slots := 0, locals := 20 } : Room) (va_Pc [.ref (am 0)] (preM E (wM E am gm ks os ts iq mk me) hz)) (va_Qi (fun (r : Int32) (u : (Nat → Int32) × (Nat → Int32) × (Nat → Int32) × (Nat → Int32) × (Nat → Int32) × (Nat → Int32) × (Nat → Int32)) => post r u.1 u.2.1 u.2.2.1 u.2.2.2.1 u.2.2.2.2.1 u.2.2.2.2.2.1 u.2.2.2.2.2.2) (fun (u : (Nat → Int32) × (Nat → Int32) × (Nat → Int32) × (Nat → Int32) × (Nat → Int32) × (Nat → Int32) × (Nat → Int32)) t => va_P (eD E) vwCl (wM E am u.1 u.2.1 u.2.2.1 u.2.2.2.1 u.2.2.2.2.1 u.2.2.2.2.2.1 u.2.2.2.2.2.2) t.heap ∧ va_D (va_A (wM E am gm ks os ts iq mk me) hz) (wM E am u.1 u.2.1 u.2.2.1 u.2.2.2.1 u.2.2.2.2.1 u.2.2.2.2.2.1 u.2.2.2.2.2.2)) (va_A (wM E am gm ks os ts iq mk me) hz)) 0 0 (va_A (wM E am gm ks os ts iq mk me) hz) := by
  refine Met.ofW (cc := cX3_isWaiting) (maxL := 1) (ret := (some .boolean)) (by decide) rfl ?_
  intro p e s m args below meth c s₁ B hml hv
  obtain ⟨rfl, hpre⟩ := hv
  have hx := B.exec
  have hb := B.bytes
  have hr := B.returns
  have hlocks := B.notSynchronized
  have hts := atoms_spec (ws := (Cond.code yX3_isWaiting cX3_isWaiting 1 (some .boolean) :: ALLW)) B.pre
  have hta : ∀ w ∈ ALLW, w.before ([.ref (am 0)] : List Value).toArray s = true := fun w h => hts w (List.mem_cons_of_mem _ h)
  have hown : s.vm.findClass RX3 = some m.cls := findClass_of_methodNamed B.named
  obtain ⟨hsz, hP, hKE, hD0, hZ⟩ := hpre
  subst hsz
  have hD := hD0.self (sz := s.heap.size)
  generalize hAe : va_A (wM E am gm ks os ts iq mk me) s.heap.size = A at hD hZ ⊢
  have hA : ∀ q : Nat, s.heap.size ≤ q → A q := fun q h => by rw [← hAe]; exact Or.inr h
  have hS : va_S A s.heap s.heap [] := va_S.rf
  have hP : va_P (eD E) vwCl [((am 0), .inr (4, [.int (gm 0), .int (gm 1), .int (gm 2), .int (gm 3), .int (gm 4), .ref (am 1), .ref (am 2), .ref (am 3), .int (gm 8), .int (gm 9), .int (gm 10), .int (gm 11), .int (gm 12), .int (gm 13), .int (gm 14), .int (gm 15), .int (gm 16), .int (gm 17), .int (gm 18), .int (gm 19), .int (gm 20), .ref (am 4), .int (gm 22), .int (gm 23), .ref (am 5), .ref (am 6), .int (gm 26)])), ((am 1), .inl (eC E 0, 32, .inl ks)), ((am 2), .inl (eC E 0, 32, .inl os)), ((am 3), .inl (eC E 0, 32, .inl ts)), ((am 4), .inl (eC E 0, 3, .inl iq)), ((am 5), .inl (eC E 0, 320, .inl mk)), ((am 6), .inl (eC E 0, 320, .inl me))] s.heap := hP
  have hD : va_D A [((am 0), .inr (4, [.int (gm 0), .int (gm 1), .int (gm 2), .int (gm 3), .int (gm 4), .ref (am 1), .ref (am 2), .ref (am 3), .int (gm 8), .int (gm 9), .int (gm 10), .int (gm 11), .int (gm 12), .int (gm 13), .int (gm 14), .int (gm 15), .int (gm 16), .int (gm 17), .int (gm 18), .int (gm 19), .int (gm 20), .ref (am 4), .int (gm 22), .int (gm 23), .ref (am 5), .ref (am 6), .int (gm 26)])), ((am 1), .inl (eC E 0, 32, .inl ks)), ((am 2), .inl (eC E 0, 32, .inl os)), ((am 3), .inl (eC E 0, 32, .inl ts)), ((am 4), .inl (eC E 0, 3, .inl iq)), ((am 5), .inl (eC E 0, 320, .inl mk)), ((am 6), .inl (eC E 0, 320, .inl me))] := hD
  have hl := lv_entry ([.ref (am 0)]) (n := 1) (Nat.le_of_ble_eq_true rfl)
  rw [lg_entry_eq]
  generalize (lg_sl ([.ref (am 0)]) ++ List.replicate (1 - (lg_sl ([.ref (am 0)])).length) Slot.unset).toArray = ls at hl ⊢
  have hl : lv_has ls 1 [(0, .ref (am 0))] := hl
  unfold wp_X3_isWaiting at hw
  refine lv_aload_n hx hb dX3_isWaiting_0 rfl (lv_at hl 0 rfl) ?_
  refine lv_iconst (v := 0) hx hb dX3_isWaiting_1 (by decide) ?_
  refine va_put (D := eD E) (ci := 4) (v := .int 0) (ty := .int) (C := RX3) (T := TX3) (N := 27) hx hb hta lay_X3 tyX3 tyX3_ok nmX3 hown hKE.1 hP hD hS 0 rfl rfl 26 (by decide) (hta _ tw_580) (fun _ h9 => h9) rfl (by decide +kernel) rfl rfl (Nat.le_of_ble_eq_true rfl) dX3_isWaiting_2 (fun H locs hP hD hS => ?_)
  have hP : va_P (eD E) vwCl [((am 0), .inr (4, [.int (gm 0), .int (gm 1), .int (gm 2), .int (gm 3), .int (gm 4), .ref (am 1), .ref (am 2), .ref (am 3), .int (gm 8), .int (gm 9), .int (gm 10), .int (gm 11), .int (gm 12), .int (gm 13), .int (gm 14), .int (gm 15), .int (gm 16), .int (gm 17), .int (gm 18), .int (gm 19), .int (gm 20), .ref (am 4), .int (gm 22), .int (gm 23), .ref (am 5), .ref (am 6), .int 0])), ((am 1), .inl (eC E 0, 32, .inl ks)), ((am 2), .inl (eC E 0, 32, .inl os)), ((am 3), .inl (eC E 0, 32, .inl ts)), ((am 4), .inl (eC E 0, 3, .inl iq)), ((am 5), .inl (eC E 0, 320, .inl mk)), ((am 6), .inl (eC E 0, 320, .inl me))] H := hP
  have hD : va_D A [((am 0), .inr (4, [.int (gm 0), .int (gm 1), .int (gm 2), .int (gm 3), .int (gm 4), .ref (am 1), .ref (am 2), .ref (am 3), .int (gm 8), .int (gm 9), .int (gm 10), .int (gm 11), .int (gm 12), .int (gm 13), .int (gm 14), .int (gm 15), .int (gm 16), .int (gm 17), .int (gm 18), .int (gm 19), .int (gm 20), .ref (am 4), .int (gm 22), .int (gm 23), .ref (am 5), .ref (am 6), .int 0])), ((am 1), .inl (eC E 0, 32, .inl ks)), ((am 2), .inl (eC E 0, 32, .inl os)), ((am 3), .inl (eC E 0, 32, .inl ts)), ((am 4), .inl (eC E 0, 3, .inl iq)), ((am 5), .inl (eC E 0, 320, .inl mk)), ((am 6), .inl (eC E 0, 320, .inl me))] := hD
  refine lv_aload_n hx hb dX3_isWaiting_5 rfl (lv_at hl 0 rfl) ?_
  have hPc : va_P (eD E) vwCl (wM E am (upd gm 26 0) ks os ts iq mk me) H := hP
  refine vp_callSi (va_Run.run (va_runV (As := []) (rest := []) ⟨hx, hb, hml, hown, hta⟩ (c_X3_lacksInk E l am (upd gm 26 0) ks os ts iq mk me _ hw) (pcV (n := 0) hta tw_702 tw_699 tw_6 tw_701 tp_38 rfl rfl hd_X3_lacksInk ⟨Nat.le_of_ble_eq_true rfl, Nat.le_of_ble_eq_true rfl⟩) ⟨fbR, va_recv hKE.1 hP (ci := 4) (q0 := 0) rfl rfl, fun U hU hW => ⟨rfl, preR.mk hPc hKE hU hW⟩⟩ rfl rfl hl.1 rfl (lv_room (Nat.le_of_ble_eq_true rfl)) dX3_isWaiting_6 ⟨Nat.le_of_ble_eq_true rfl, Nat.le_of_ble_eq_true rfl⟩)) (fun r_531 hw => ?_)
  obtain ⟨hn_532, hw⟩ := hw
  have hP9 : va_P (eD E) vwCl (wM E am (upd gm 26 0) ks os ts iq mk me) H := hP
  have hD9 : va_D A (wM E am (upd gm 26 0) ks os ts iq mk me) := hD
  exact W.zret (v := r_531) hx hb hr hn_532 (fun t ht hW => ⟨⟨r_531, ((upd gm 26 0), ks, os, ts, iq, mk, me), rfl, hw, ⟨by rw [ht]; exact hP9, hD9⟩⟩, hS.F ht⟩) hS.2.2 dX3_isWaiting_9
def wp_X3_timeLeft_L14 (E : EV) (post : Int32 → (Nat → Int32) → (Nat → Int32) → (Nat → Int32) → (Nat → Int32) → (Nat → Int32) → (Nat → Int32) → (Nat → Int32) → Prop)   : Nat → (Nat → Int32) → (Nat → Int32) → (Nat → Int32) → (Nat → Int32) → (Nat → Int32) → (Nat → Int32) → (Nat → Int32) → Int32 → Int32 → Int32 → Prop
  | 0, _, _, _, _, _, _, _, _, _, _ => False
  | n + 1, gm_L, ks_L, os_L, ts_L, iq_L, mk_L, me_L, x1, x2, x3 => (((gm_L 4) ≤ x3 → (((gm_L 4) = 0 → post 0 gm_L ks_L os_L ts_L iq_L mk_L me_L) ∧ (¬ (gm_L 4) = 0 → post ((x1 - (gm_L 13)) - (gm_L 14)) gm_L ks_L os_L ts_L iq_L mk_L me_L))) ∧ (¬ (gm_L 4) ≤ x3 → (vp_in x3 32 ∧ (((ks_L x3.toNatClampNeg) = 2 → ((x2 = 1 → (((ks_L x3.toNatClampNeg) = 3 → (wp_X3_timeLeft_L14 E post n gm_L ks_L os_L ts_L iq_L mk_L me_L ((x1 + 0) + 3) 1 (x3 + 1))) ∧ (¬ (ks_L x3.toNatClampNeg) = 3 → (wp_X3_steps E (fun r_546 : Int32 => (wp_X3_timeLeft_L14 E post n gm_L ks_L os_L ts_L iq_L mk_L me_L ((x1 + 0) + r_546) 1 (x3 + 1))) (os_L x3.toNatClampNeg) (ts_L x3.toNatClampNeg))))) ∧ (¬ (x2 = 1) → (((ks_L x3.toNatClampNeg) = 3 → (wp_X3_timeLeft_L14 E post n gm_L ks_L os_L ts_L iq_L mk_L me_L ((x1 + 2) + 3) 1 (x3 + 1))) ∧ (¬ (ks_L x3.toNatClampNeg) = 3 → (wp_X3_steps E (fun r_544 : Int32 => (wp_X3_timeLeft_L14 E post n gm_L ks_L os_L ts_L iq_L mk_L me_L ((x1 + 2) + r_544) 1 (x3 + 1))) (os_L x3.toNatClampNeg) (ts_L x3.toNatClampNeg))))))) ∧ (¬ (ks_L x3.toNatClampNeg) = 2 → ((x2 = 0 → (((ks_L x3.toNatClampNeg) = 3 → (wp_X3_timeLeft_L14 E post n gm_L ks_L os_L ts_L iq_L mk_L me_L ((x1 + 0) + 3) 0 (x3 + 1))) ∧ (¬ (ks_L x3.toNatClampNeg) = 3 → (wp_X3_steps E (fun r_541 : Int32 => (wp_X3_timeLeft_L14 E post n gm_L ks_L os_L ts_L iq_L mk_L me_L ((x1 + 0) + r_541) 0 (x3 + 1))) (os_L x3.toNatClampNeg) (ts_L x3.toNatClampNeg))))) ∧ (¬ (x2 = 0) → (((ks_L x3.toNatClampNeg) = 3 → (wp_X3_timeLeft_L14 E post n gm_L ks_L os_L ts_L iq_L mk_L me_L ((x1 + 2) + 3) 0 (x3 + 1))) ∧ (¬ (ks_L x3.toNatClampNeg) = 3 → (wp_X3_steps E (fun r_539 : Int32 => (wp_X3_timeLeft_L14 E post n gm_L ks_L os_L ts_L iq_L mk_L me_L ((x1 + 2) + r_539) 0 (x3 + 1))) (os_L x3.toNatClampNeg) (ts_L x3.toNatClampNeg)))))))))))
def wp_X3_timeLeft (E : EV) (post : Int32 → (Nat → Int32) → (Nat → Int32) → (Nat → Int32) → (Nat → Int32) → (Nat → Int32) → (Nat → Int32) → (Nat → Int32) → Prop) (gm : Nat → Int32) (ks : Nat → Int32) (os : Nat → Int32) (ts : Nat → Int32) (iq : Nat → Int32) (mk : Nat → Int32) (me : Nat → Int32) : Prop := (∃ n : Nat, wp_X3_timeLeft_L14 E post n (upd gm 26 0) ks os ts iq mk me 0 (gm 19) 0)
set_option maxHeartbeats 4000000 in
set_option maxRecDepth 100000 in
theorem c_X3_timeLeft (E : EV) (l : Launch) (am : Nat → Nat) (gm : Nat → Int32) (ks : Nat → Int32) (os : Nat → Int32) (ts : Nat → Int32) (iq : Nat → Int32) (mk : Nat → Int32) (me : Nat → Int32) (hz : Nat) (post : Int32 → (Nat → Int32) → (Nat → Int32) → (Nat → Int32) → (Nat → Int32) → (Nat → Int32) → (Nat → Int32) → (Nat → Int32) → Prop) (hw : wp_X3_timeLeft E post gm ks os ts iq mk me) : Met l yX3_timeLeft (Cond.code yX3_timeLeft cX3_timeLeft 5 (some .int) :: ALLW) ({ frames := 2, cells := 0, slots := 0, locals := 41 } : Room) (va_Pc [.ref (am 0)] (preM E (wM E am gm ks os ts iq mk me) hz)) (va_Qi (fun (r : Int32) (u : (Nat → Int32) × (Nat → Int32) × (Nat → Int32) × (Nat → Int32) × (Nat → Int32) × (Nat → Int32) × (Nat → Int32)) => post r u.1 u.2.1 u.2.2.1 u.2.2.2.1 u.2.2.2.2.1 u.2.2.2.2.2.1 u.2.2.2.2.2.2) (fun (u : (Nat → Int32) × (Nat → Int32) × (Nat → Int32) × (Nat → Int32) × (Nat → Int32) × (Nat → Int32) × (Nat → Int32)) t => va_P (eD E) vwCl (wM E am u.1 u.2.1 u.2.2.1 u.2.2.2.1 u.2.2.2.2.1 u.2.2.2.2.2.1 u.2.2.2.2.2.2) t.heap ∧ va_D (va_A (wM E am gm ks os ts iq mk me) hz) (wM E am u.1 u.2.1 u.2.2.1 u.2.2.2.1 u.2.2.2.2.1 u.2.2.2.2.2.1 u.2.2.2.2.2.2)) (va_A (wM E am gm ks os ts iq mk me) hz)) 0 0 (va_A (wM E am gm ks os ts iq mk me) hz) := by
  refine Met.ofW (cc := cX3_timeLeft) (maxL := 5) (ret := (some .int)) (by decide) rfl ?_
  intro p e s m args below meth c s₁ B hml hv
  obtain ⟨rfl, hpre⟩ := hv
  have hx := B.exec
  have hb := B.bytes
  have hr := B.returns
  have hlocks := B.notSynchronized
  have hts := atoms_spec (ws := (Cond.code yX3_timeLeft cX3_timeLeft 5 (some .int) :: ALLW)) B.pre
  have hta : ∀ w ∈ ALLW, w.before ([.ref (am 0)] : List Value).toArray s = true := fun w h => hts w (List.mem_cons_of_mem _ h)
  have hown : s.vm.findClass RX3 = some m.cls := findClass_of_methodNamed B.named
  obtain ⟨hsz, hP, hKE, hD0, hZ⟩ := hpre
  subst hsz
  have hD := hD0.self (sz := s.heap.size)
  generalize hAe : va_A (wM E am gm ks os ts iq mk me) s.heap.size = A at hD hZ ⊢
  have hA : ∀ q : Nat, s.heap.size ≤ q → A q := fun q h => by rw [← hAe]; exact Or.inr h
  have hS : va_S A s.heap s.heap [] := va_S.rf
  have hP : va_P (eD E) vwCl [((am 0), .inr (4, [.int (gm 0), .int (gm 1), .int (gm 2), .int (gm 3), .int (gm 4), .ref (am 1), .ref (am 2), .ref (am 3), .int (gm 8), .int (gm 9), .int (gm 10), .int (gm 11), .int (gm 12), .int (gm 13), .int (gm 14), .int (gm 15), .int (gm 16), .int (gm 17), .int (gm 18), .int (gm 19), .int (gm 20), .ref (am 4), .int (gm 22), .int (gm 23), .ref (am 5), .ref (am 6), .int (gm 26)])), ((am 1), .inl (eC E 0, 32, .inl ks)), ((am 2), .inl (eC E 0, 32, .inl os)), ((am 3), .inl (eC E 0, 32, .inl ts)), ((am 4), .inl (eC E 0, 3, .inl iq)), ((am 5), .inl (eC E 0, 320, .inl mk)), ((am 6), .inl (eC E 0, 320, .inl me))] s.heap := hP
  have hD : va_D A [((am 0), .inr (4, [.int (gm 0), .int (gm 1), .int (gm 2), .int (gm 3), .int (gm 4), .ref (am 1), .ref (am 2), .ref (am 3), .int (gm 8), .int (gm 9), .int (gm 10), .int (gm 11), .int (gm 12), .int (gm 13), .int (gm 14), .int (gm 15), .int (gm 16), .int (gm 17), .int (gm 18), .int (gm 19), .int (gm 20), .ref (am 4), .int (gm 22), .int (gm 23), .ref (am 5), .ref (am 6), .int (gm 26)])), ((am 1), .inl (eC E 0, 32, .inl ks)), ((am 2), .inl (eC E 0, 32, .inl os)), ((am 3), .inl (eC E 0, 32, .inl ts)), ((am 4), .inl (eC E 0, 3, .inl iq)), ((am 5), .inl (eC E 0, 320, .inl mk)), ((am 6), .inl (eC E 0, 320, .inl me))] := hD
  have hl := lv_entry ([.ref (am 0)]) (n := 5) (Nat.le_of_ble_eq_true rfl)
  rw [lg_entry_eq]
  generalize (lg_sl ([.ref (am 0)]) ++ List.replicate (5 - (lg_sl ([.ref (am 0)])).length) Slot.unset).toArray = ls at hl ⊢
  have hl : lv_has ls 5 [(0, .ref (am 0))] := hl
  have loop_14 : ∀ (n : Nat) (gm_L : Nat → Int32) (ks_L : Nat → Int32) (os_L : Nat → Int32) (ts_L : Nat → Int32) (iq_L : Nat → Int32) (mk_L : Nat → Int32) (me_L : Nat → Int32) (x1 : Int32) (x2 : Int32) (x3 : Int32), wp_X3_timeLeft_L14 E post n gm_L ks_L os_L ts_L iq_L mk_L me_L x1 x2 x3 → ∀ (H : Heap) (locs : List Loc), va_P (eD E) vwCl [((am 0), .inr (4, [.int (gm_L 0), .int (gm_L 1), .int (gm_L 2), .int (gm_L 3), .int (gm_L 4), .ref (am 1), .ref (am 2), .ref (am 3), .int (gm_L 8), .int (gm_L 9), .int (gm_L 10), .int (gm_L 11), .int (gm_L 12), .int (gm_L 13), .int (gm_L 14), .int (gm_L 15), .int (gm_L 16), .int (gm_L 17), .int (gm_L 18), .int (gm_L 19), .int (gm_L 20), .ref (am 4), .int (gm_L 22), .int (gm_L 23), .ref (am 5), .ref (am 6), .int (gm_L 26)])), ((am 1), .inl (eC E 0, 32, .inl ks_L)), ((am 2), .inl (eC E 0, 32, .inl os_L)), ((am 3), .inl (eC E 0, 32, .inl ts_L)), ((am 4), .inl (eC E 0, 3, .inl iq_L)), ((am 5), .inl (eC E 0, 320, .inl mk_L)), ((am 6), .inl (eC E 0, 320, .inl me_L))] H → va_D A [((am 0), .inr (4, [.int (gm_L 0), .int (gm_L 1), .int (gm_L 2), .int (gm_L 3), .int (gm_L 4), .ref (am 1), .ref (am 2), .ref (am 3), .int (gm_L 8), .int (gm_L 9), .int (gm_L 10), .int (gm_L 11), .int (gm_L 12), .int (gm_L 13), .int (gm_L 14), .int (gm_L 15), .int (gm_L 16), .int (gm_L 17), .int (gm_L 18), .int (gm_L 19), .int (gm_L 20), .ref (am 4), .int (gm_L 22), .int (gm_L 23), .ref (am 5), .ref (am 6), .int (gm_L 26)])), ((am 1), .inl (eC E 0, 32, .inl ks_L)), ((am 2), .inl (eC E 0, 32, .inl os_L)), ((am 3), .inl (eC E 0, 32, .inl ts_L)), ((am 4), .inl (eC E 0, 3, .inl iq_L)), ((am 5), .inl (eC E 0, 320, .inl mk_L)), ((am 6), .inl (eC E 0, 320, .inl me_L))] → va_S A s.heap H locs → ∀ (ls : Array Slot), lv_has ls 5 [(0, .ref (am 0)), (1, .int x1), (2, .int x2), (3, .int x3)] → W p l e (headSpec (Cond.code yX3_timeLeft cX3_timeLeft 5 (some .int) :: ALLW) ({ frames := 2, cells := 0, slots := 0, locals := 41 } : Room)).room s m ([.ref (am 0)] : List Value).toArray below meth c H locs 0 0 (MQ below (va_Qi (fun (r : Int32) (u : (Nat → Int32) × (Nat → Int32) × (Nat → Int32) × (Nat → Int32) × (Nat → Int32) × (Nat → Int32) × (Nat → Int32)) => post r u.1 u.2.1 u.2.2.1 u.2.2.2.1 u.2.2.2.2.1 u.2.2.2.2.2.1 u.2.2.2.2.2.2) (fun (u : (Nat → Int32) × (Nat → Int32) × (Nat → Int32) × (Nat → Int32) × (Nat → Int32) × (Nat → Int32) × (Nat → Int32)) t => va_P (eD E) vwCl (wM E am u.1 u.2.1 u.2.2.1 u.2.2.2.1 u.2.2.2.2.1 u.2.2.2.2.2.1 u.2.2.2.2.2.2) t.heap ∧ va_D A (wM E am u.1 u.2.1 u.2.2.1 u.2.2.2.1 u.2.2.2.2.1 u.2.2.2.2.2.1 u.2.2.2.2.2.2)) A) ([.ref (am 0)] : List Value).toArray s 0 0 A) (F0 m 14 ls []) := by
    intro n
    induction n with
    | zero => intro gm_L ks_L os_L ts_L iq_L mk_L me_L x1 x2 x3 hw; exact hw.elim
    | succ n ih =>
      intro gm_L ks_L os_L ts_L iq_L mk_L me_L x1 x2 x3 hw H locs hP hD hS ls hl
      unfold wp_X3_timeLeft_L14 at hw
      refine lv_iload_n hx hb dX3_timeLeft_14 rfl (lv_at hl 3 rfl) ?_
      refine lv_aload_n hx hb dX3_timeLeft_15 rfl (lv_at hl 0 rfl) ?_
      refine va_get (D := eD E) (ci := 4) (v := .int (gm_L 4)) (C := RX3) (T := TX3) (N := 27) hx hb hta lay_X3 hown hKE.1 hP 0 rfl rfl 4 (by decide) (hta _ tw_558) (fun _ h9 => h9) rfl dX3_timeLeft_16 ?_
      refine lv_icmp_ge (tgt := 94) hx hb dX3_timeLeft_19 (by decide) (fun c_533 => ?_) (fun c_533 => ?_)
      · have hw := hw.1 c_533
        refine lv_aload_n hx hb dX3_timeLeft_94 rfl (lv_at hl 0 rfl) ?_
        refine va_get (D := eD E) (ci := 4) (v := .int (gm_L 4)) (C := RX3) (T := TX3) (N := 27) hx hb hta lay_X3 hown hKE.1 hP 0 rfl rfl 4 (by decide) (hta _ tw_558) (fun _ h9 => h9) rfl dX3_timeLeft_95 ?_
        refine lv_if_ne (tgt := 105) hx hb dX3_timeLeft_98 (by decide) (fun c_534 => ?_) (fun c_534 => ?_)
        · have hw := hw.2 c_534
          refine lv_iload_n hx hb dX3_timeLeft_105 rfl (lv_at hl 1 rfl) ?_
          refine lv_aload_n hx hb dX3_timeLeft_106 rfl (lv_at hl 0 rfl) ?_
          refine va_get (D := eD E) (ci := 4) (v := .int (gm_L 13)) (C := RX3) (T := TX3) (N := 27) hx hb hta lay_X3 hown hKE.1 hP 0 rfl rfl 13 (by decide) (hta _ tw_567) (fun _ h9 => h9) rfl dX3_timeLeft_107 ?_
          refine lv_isub hx hb dX3_timeLeft_110 ?_
          refine lv_aload_n hx hb dX3_timeLeft_111 rfl (lv_at hl 0 rfl) ?_
          refine va_get (D := eD E) (ci := 4) (v := .int (gm_L 14)) (C := RX3) (T := TX3) (N := 27) hx hb hta lay_X3 hown hKE.1 hP 0 rfl rfl 14 (by decide) (hta _ tw_568) (fun _ h9 => h9) rfl dX3_timeLeft_112 ?_
          refine lv_isub hx hb dX3_timeLeft_115 ?_
          have hP9 : va_P (eD E) vwCl (wM E am gm_L ks_L os_L ts_L iq_L mk_L me_L) H := hP
          have hD9 : va_D A (wM E am gm_L ks_L os_L ts_L iq_L mk_L me_L) := hD
          exact W.iret (v := ((x1 - (gm_L 13)) - (gm_L 14))) hx hb hr (fun t ht hW => ⟨⟨((x1 - (gm_L 13)) - (gm_L 14)), (gm_L, ks_L, os_L, ts_L, iq_L, mk_L, me_L), rfl, hw, ⟨by rw [ht]; exact hP9, hD9⟩⟩, hS.F ht⟩) hS.2.2 dX3_timeLeft_116
        · have hw := hw.1 c_534
          refine lv_iconst (v := 0) hx hb dX3_timeLeft_101 (by decide) ?_
          refine lv_goto (tgt := 116) hx hb dX3_timeLeft_102 (by decide) ?_
          have hP9 : va_P (eD E) vwCl (wM E am gm_L ks_L os_L ts_L iq_L mk_L me_L) H := hP
          have hD9 : va_D A (wM E am gm_L ks_L os_L ts_L iq_L mk_L me_L) := hD
          exact W.iret (v := 0) hx hb hr (fun t ht hW => ⟨⟨0, (gm_L, ks_L, os_L, ts_L, iq_L, mk_L, me_L), rfl, hw, ⟨by rw [ht]; exact hP9, hD9⟩⟩, hS.F ht⟩) hS.2.2 dX3_timeLeft_116
      · have hw := hw.2 c_533
        refine lv_aload_n hx hb dX3_timeLeft_22 rfl (lv_at hl 0 rfl) ?_
        refine va_get (D := eD E) (ci := 4) (v := .ref (am 1)) (C := RX3) (T := TX3) (N := 27) hx hb hta lay_X3 hown hKE.1 hP 0 rfl rfl 5 (by decide) (hta _ tw_559) (fun _ h9 => h9) rfl dX3_timeLeft_23 ?_
        refine lv_iload_n hx hb dX3_timeLeft_26 rfl (lv_at hl 3 rfl) ?_
        obtain ⟨hi_535, hw⟩ := hw
        refine va_iald hx hb hKE.1 hP 1 0 rfl rfl hi_535 dX3_timeLeft_27 ?_
        refine lv_iconst (v := 2) hx hb dX3_timeLeft_28 (by decide) ?_
        refine lv_icmp_ne (tgt := 36) hx hb dX3_timeLeft_29 (by decide) (fun c_536 => ?_) (fun c_536 => ?_)
        · have hw := hw.2 c_536
          refine lv_iconst (v := 0) hx hb dX3_timeLeft_36 (by decide) ?_
          refine lv_istore (lv' := [(4, .int 0), (0, .ref (am 0)), (1, .int x1), (2, .int x2), (3, .int x3)]) hx hb dX3_timeLeft_37 hl (by decide) rfl (fun ls hl => ?_)
          refine lv_iload_n hx hb dX3_timeLeft_39 rfl (lv_at hl 2 rfl) ?_
          refine lv_iload_n hx hb dX3_timeLeft_40 rfl (lv_at hl 3 rfl) ?_
          refine lv_iload hx hb dX3_timeLeft_41 (lv_at hl 0 rfl) ?_
          refine lv_icmp_ne (tgt := 50) hx hb dX3_timeLeft_43 (by decide) (fun c_537 => ?_) (fun c_537 => ?_)
          · have hw := hw.2 c_537
            refine lv_iconst (v := 2) hx hb dX3_timeLeft_50 (by decide) ?_
            refine lv_iadd hx hb dX3_timeLeft_51 ?_
            refine lv_istore_n (lv' := [(1, .int (x1 + 2)), (4, .int 0), (0, .ref (am 0)), (2, .int x2), (3, .int x3)]) hx hb dX3_timeLeft_52 rfl hl (by decide) rfl (fun ls hl => ?_)
            refine lv_iload_n hx hb dX3_timeLeft_53 rfl (lv_at hl 0 rfl) ?_
            refine lv_aload_n hx hb dX3_timeLeft_54 rfl (lv_at hl 2 rfl) ?_
            refine va_get (D := eD E) (ci := 4) (v := .ref (am 1)) (C := RX3) (T := TX3) (N := 27) hx hb hta lay_X3 hown hKE.1 hP 0 rfl rfl 5 (by decide) (hta _ tw_559) (fun _ h9 => h9) rfl dX3_timeLeft_55 ?_
            refine lv_iload_n hx hb dX3_timeLeft_58 rfl (lv_at hl 4 rfl) ?_
            refine va_iald hx hb hKE.1 hP 1 0 rfl rfl hi_535 dX3_timeLeft_59 ?_
            refine lv_iconst (v := 3) hx hb dX3_timeLeft_60 (by decide) ?_
            refine lv_icmp_ne (tgt := 68) hx hb dX3_timeLeft_61 (by decide) (fun c_538 => ?_) (fun c_538 => ?_)
            · have hw := hw.2 c_538
              refine lv_aload_n hx hb dX3_timeLeft_68 rfl (lv_at hl 2 rfl) ?_
              refine va_get (D := eD E) (ci := 4) (v := .ref (am 2)) (C := RX3) (T := TX3) (N := 27) hx hb hta lay_X3 hown hKE.1 hP 0 rfl rfl 6 (by decide) (hta _ tw_560) (fun _ h9 => h9) rfl dX3_timeLeft_69 ?_
              refine lv_iload_n hx hb dX3_timeLeft_72 rfl (lv_at hl 4 rfl) ?_
              refine va_iald hx hb hKE.1 hP 2 0 rfl rfl hi_535 dX3_timeLeft_73 ?_
              refine lv_aload_n hx hb dX3_timeLeft_74 rfl (lv_at hl 2 rfl) ?_
              refine va_get (D := eD E) (ci := 4) (v := .ref (am 3)) (C := RX3) (T := TX3) (N := 27) hx hb hta lay_X3 hown hKE.1 hP 0 rfl rfl 7 (by decide) (hta _ tw_561) (fun _ h9 => h9) rfl dX3_timeLeft_75 ?_
              refine lv_iload_n hx hb dX3_timeLeft_78 rfl (lv_at hl 4 rfl) ?_
              refine va_iald hx hb hKE.1 hP 3 0 rfl rfl hi_535 dX3_timeLeft_79 ?_
              have hPc : va_P (eD E) vwCl [] H := va_P_nil
              refine vp_callSi (va_Run.run (va_runS (As := [.int (os_L x3.toNatClampNeg), .int (ts_L x3.toNatClampNeg)]) (rest := [.int (x1 + 2)]) ⟨hx, hb, hml, hown, hta⟩ (c_X3_steps E l (os_L x3.toNatClampNeg) (ts_L x3.toNatClampNeg) _ hw) (pcS (n := 2) hta tw_672 tw_670 tw_6 tw_671 rfl rfl hd_X3_steps ⟨Nat.le_of_ble_eq_true rfl, Nat.le_of_ble_eq_true rfl⟩) ⟨fbR, fun U hU hW => ⟨rfl, preR.mk hPc hKE hU hW⟩⟩ rfl rfl hl.1 rfl (lv_room (Nat.le_of_ble_eq_true rfl)) dX3_timeLeft_80 ⟨Nat.le_of_ble_eq_true rfl, Nat.le_of_ble_eq_true rfl⟩)) (fun r_539 hw => ?_)
              refine lv_iadd hx hb dX3_timeLeft_83 ?_
              refine lv_istore_n (lv' := [(1, .int ((x1 + 2) + r_539)), (4, .int 0), (0, .ref (am 0)), (2, .int x2), (3, .int x3)]) hx hb dX3_timeLeft_84 rfl hl (by decide) rfl (fun ls hl => ?_)
              refine lv_iload hx hb dX3_timeLeft_85 (lv_at hl 1 rfl) ?_
              refine lv_istore_n (lv' := [(2, .int 0), (1, .int ((x1 + 2) + r_539)), (4, .int 0), (0, .ref (am 0)), (3, .int x3)]) hx hb dX3_timeLeft_87 rfl hl (by decide) rfl (fun ls hl => ?_)
              refine lv_iinc (v := (x3 + 1)) (lv' := [(3, .int (x3 + 1)), (2, .int 0), (1, .int ((x1 + 2) + r_539)), (4, .int 0), (0, .ref (am 0))]) hx hb dX3_timeLeft_88 hl (k := 4) rfl rfl (by decide) rfl (fun ls hl => ?_)
              refine lv_goto (tgt := 14) hx hb dX3_timeLeft_91 (by decide) ?_
              exact ih gm_L ks_L os_L ts_L iq_L mk_L me_L ((x1 + 2) + r_539) 0 (x3 + 1) hw _ _ hP hD hS ls (lv_sub hl [4, 2, 1, 0] rfl)
            · have hw := hw.1 c_538
              refine lv_iconst (v := 3) hx hb dX3_timeLeft_64 (by decide) ?_
              refine lv_goto (tgt := 83) hx hb dX3_timeLeft_65 (by decide) ?_
              refine lv_iadd hx hb dX3_timeLeft_83 ?_
              refine lv_istore_n (lv' := [(1, .int ((x1 + 2) + 3)), (4, .int 0), (0, .ref (am 0)), (2, .int x2), (3, .int x3)]) hx hb dX3_timeLeft_84 rfl hl (by decide) rfl (fun ls hl => ?_)
              refine lv_iload hx hb dX3_timeLeft_85 (lv_at hl 1 rfl) ?_
              refine lv_istore_n (lv' := [(2, .int 0), (1, .int ((x1 + 2) + 3)), (4, .int 0), (0, .ref (am 0)), (3, .int x3)]) hx hb dX3_timeLeft_87 rfl hl (by decide) rfl (fun ls hl => ?_)
              refine lv_iinc (v := (x3 + 1)) (lv' := [(3, .int (x3 + 1)), (2, .int 0), (1, .int ((x1 + 2) + 3)), (4, .int 0), (0, .ref (am 0))]) hx hb dX3_timeLeft_88 hl (k := 4) rfl rfl (by decide) rfl (fun ls hl => ?_)
              refine lv_goto (tgt := 14) hx hb dX3_timeLeft_91 (by decide) ?_
              exact ih gm_L ks_L os_L ts_L iq_L mk_L me_L ((x1 + 2) + 3) 0 (x3 + 1) hw _ _ hP hD hS ls (lv_sub hl [4, 2, 1, 0] rfl)
          · have hw := hw.1 c_537
            refine lv_iconst (v := 0) hx hb dX3_timeLeft_46 (by decide) ?_
            refine lv_goto (tgt := 51) hx hb dX3_timeLeft_47 (by decide) ?_
            refine lv_iadd hx hb dX3_timeLeft_51 ?_
            refine lv_istore_n (lv' := [(1, .int (x1 + 0)), (4, .int 0), (0, .ref (am 0)), (2, .int x2), (3, .int x3)]) hx hb dX3_timeLeft_52 rfl hl (by decide) rfl (fun ls hl => ?_)
            refine lv_iload_n hx hb dX3_timeLeft_53 rfl (lv_at hl 0 rfl) ?_
            refine lv_aload_n hx hb dX3_timeLeft_54 rfl (lv_at hl 2 rfl) ?_
            refine va_get (D := eD E) (ci := 4) (v := .ref (am 1)) (C := RX3) (T := TX3) (N := 27) hx hb hta lay_X3 hown hKE.1 hP 0 rfl rfl 5 (by decide) (hta _ tw_559) (fun _ h9 => h9) rfl dX3_timeLeft_55 ?_
            refine lv_iload_n hx hb dX3_timeLeft_58 rfl (lv_at hl 4 rfl) ?_
            refine va_iald hx hb hKE.1 hP 1 0 rfl rfl hi_535 dX3_timeLeft_59 ?_
            refine lv_iconst (v := 3) hx hb dX3_timeLeft_60 (by decide) ?_
            refine lv_icmp_ne (tgt := 68) hx hb dX3_timeLeft_61 (by decide) (fun c_540 => ?_) (fun c_540 => ?_)
            · have hw := hw.2 c_540
              refine lv_aload_n hx hb dX3_timeLeft_68 rfl (lv_at hl 2 rfl) ?_
              refine va_get (D := eD E) (ci := 4) (v := .ref (am 2)) (C := RX3) (T := TX3) (N := 27) hx hb hta lay_X3 hown hKE.1 hP 0 rfl rfl 6 (by decide) (hta _ tw_560) (fun _ h9 => h9) rfl dX3_timeLeft_69 ?_
              refine lv_iload_n hx hb dX3_timeLeft_72 rfl (lv_at hl 4 rfl) ?_
              refine va_iald hx hb hKE.1 hP 2 0 rfl rfl hi_535 dX3_timeLeft_73 ?_
              refine lv_aload_n hx hb dX3_timeLeft_74 rfl (lv_at hl 2 rfl) ?_
              refine va_get (D := eD E) (ci := 4) (v := .ref (am 3)) (C := RX3) (T := TX3) (N := 27) hx hb hta lay_X3 hown hKE.1 hP 0 rfl rfl 7 (by decide) (hta _ tw_561) (fun _ h9 => h9) rfl dX3_timeLeft_75 ?_
              refine lv_iload_n hx hb dX3_timeLeft_78 rfl (lv_at hl 4 rfl) ?_
              refine va_iald hx hb hKE.1 hP 3 0 rfl rfl hi_535 dX3_timeLeft_79 ?_
              have hPc : va_P (eD E) vwCl [] H := va_P_nil
              refine vp_callSi (va_Run.run (va_runS (As := [.int (os_L x3.toNatClampNeg), .int (ts_L x3.toNatClampNeg)]) (rest := [.int (x1 + 0)]) ⟨hx, hb, hml, hown, hta⟩ (c_X3_steps E l (os_L x3.toNatClampNeg) (ts_L x3.toNatClampNeg) _ hw) (pcS (n := 2) hta tw_672 tw_670 tw_6 tw_671 rfl rfl hd_X3_steps ⟨Nat.le_of_ble_eq_true rfl, Nat.le_of_ble_eq_true rfl⟩) ⟨fbR, fun U hU hW => ⟨rfl, preR.mk hPc hKE hU hW⟩⟩ rfl rfl hl.1 rfl (lv_room (Nat.le_of_ble_eq_true rfl)) dX3_timeLeft_80 ⟨Nat.le_of_ble_eq_true rfl, Nat.le_of_ble_eq_true rfl⟩)) (fun r_541 hw => ?_)
              refine lv_iadd hx hb dX3_timeLeft_83 ?_
              refine lv_istore_n (lv' := [(1, .int ((x1 + 0) + r_541)), (4, .int 0), (0, .ref (am 0)), (2, .int x2), (3, .int x3)]) hx hb dX3_timeLeft_84 rfl hl (by decide) rfl (fun ls hl => ?_)
              refine lv_iload hx hb dX3_timeLeft_85 (lv_at hl 1 rfl) ?_
              refine lv_istore_n (lv' := [(2, .int 0), (1, .int ((x1 + 0) + r_541)), (4, .int 0), (0, .ref (am 0)), (3, .int x3)]) hx hb dX3_timeLeft_87 rfl hl (by decide) rfl (fun ls hl => ?_)
              refine lv_iinc (v := (x3 + 1)) (lv' := [(3, .int (x3 + 1)), (2, .int 0), (1, .int ((x1 + 0) + r_541)), (4, .int 0), (0, .ref (am 0))]) hx hb dX3_timeLeft_88 hl (k := 4) rfl rfl (by decide) rfl (fun ls hl => ?_)
              refine lv_goto (tgt := 14) hx hb dX3_timeLeft_91 (by decide) ?_
              exact ih gm_L ks_L os_L ts_L iq_L mk_L me_L ((x1 + 0) + r_541) 0 (x3 + 1) hw _ _ hP hD hS ls (lv_sub hl [4, 2, 1, 0] rfl)
            · have hw := hw.1 c_540
              refine lv_iconst (v := 3) hx hb dX3_timeLeft_64 (by decide) ?_
              refine lv_goto (tgt := 83) hx hb dX3_timeLeft_65 (by decide) ?_
              refine lv_iadd hx hb dX3_timeLeft_83 ?_
              refine lv_istore_n (lv' := [(1, .int ((x1 + 0) + 3)), (4, .int 0), (0, .ref (am 0)), (2, .int x2), (3, .int x3)]) hx hb dX3_timeLeft_84 rfl hl (by decide) rfl (fun ls hl => ?_)
              refine lv_iload hx hb dX3_timeLeft_85 (lv_at hl 1 rfl) ?_
              refine lv_istore_n (lv' := [(2, .int 0), (1, .int ((x1 + 0) + 3)), (4, .int 0), (0, .ref (am 0)), (3, .int x3)]) hx hb dX3_timeLeft_87 rfl hl (by decide) rfl (fun ls hl => ?_)
              refine lv_iinc (v := (x3 + 1)) (lv' := [(3, .int (x3 + 1)), (2, .int 0), (1, .int ((x1 + 0) + 3)), (4, .int 0), (0, .ref (am 0))]) hx hb dX3_timeLeft_88 hl (k := 4) rfl rfl (by decide) rfl (fun ls hl => ?_)
              refine lv_goto (tgt := 14) hx hb dX3_timeLeft_91 (by decide) ?_
              exact ih gm_L ks_L os_L ts_L iq_L mk_L me_L ((x1 + 0) + 3) 0 (x3 + 1) hw _ _ hP hD hS ls (lv_sub hl [4, 2, 1, 0] rfl)
        · have hw := hw.1 c_536
          refine lv_iconst (v := 1) hx hb dX3_timeLeft_32 (by decide) ?_
          refine lv_goto (tgt := 37) hx hb dX3_timeLeft_33 (by decide) ?_
          refine lv_istore (lv' := [(4, .int 1), (0, .ref (am 0)), (1, .int x1), (2, .int x2), (3, .int x3)]) hx hb dX3_timeLeft_37 hl (by decide) rfl (fun ls hl => ?_)
          refine lv_iload_n hx hb dX3_timeLeft_39 rfl (lv_at hl 2 rfl) ?_
          refine lv_iload_n hx hb dX3_timeLeft_40 rfl (lv_at hl 3 rfl) ?_
          refine lv_iload hx hb dX3_timeLeft_41 (lv_at hl 0 rfl) ?_
          refine lv_icmp_ne (tgt := 50) hx hb dX3_timeLeft_43 (by decide) (fun c_542 => ?_) (fun c_542 => ?_)
          · have hw := hw.2 c_542
            refine lv_iconst (v := 2) hx hb dX3_timeLeft_50 (by decide) ?_
            refine lv_iadd hx hb dX3_timeLeft_51 ?_
            refine lv_istore_n (lv' := [(1, .int (x1 + 2)), (4, .int 1), (0, .ref (am 0)), (2, .int x2), (3, .int x3)]) hx hb dX3_timeLeft_52 rfl hl (by decide) rfl (fun ls hl => ?_)
            refine lv_iload_n hx hb dX3_timeLeft_53 rfl (lv_at hl 0 rfl) ?_
            refine lv_aload_n hx hb dX3_timeLeft_54 rfl (lv_at hl 2 rfl) ?_
            refine va_get (D := eD E) (ci := 4) (v := .ref (am 1)) (C := RX3) (T := TX3) (N := 27) hx hb hta lay_X3 hown hKE.1 hP 0 rfl rfl 5 (by decide) (hta _ tw_559) (fun _ h9 => h9) rfl dX3_timeLeft_55 ?_
            refine lv_iload_n hx hb dX3_timeLeft_58 rfl (lv_at hl 4 rfl) ?_
            refine va_iald hx hb hKE.1 hP 1 0 rfl rfl hi_535 dX3_timeLeft_59 ?_
            refine lv_iconst (v := 3) hx hb dX3_timeLeft_60 (by decide) ?_
            refine lv_icmp_ne (tgt := 68) hx hb dX3_timeLeft_61 (by decide) (fun c_543 => ?_) (fun c_543 => ?_)
            · have hw := hw.2 c_543
              refine lv_aload_n hx hb dX3_timeLeft_68 rfl (lv_at hl 2 rfl) ?_
              refine va_get (D := eD E) (ci := 4) (v := .ref (am 2)) (C := RX3) (T := TX3) (N := 27) hx hb hta lay_X3 hown hKE.1 hP 0 rfl rfl 6 (by decide) (hta _ tw_560) (fun _ h9 => h9) rfl dX3_timeLeft_69 ?_
              refine lv_iload_n hx hb dX3_timeLeft_72 rfl (lv_at hl 4 rfl) ?_
              refine va_iald hx hb hKE.1 hP 2 0 rfl rfl hi_535 dX3_timeLeft_73 ?_
              refine lv_aload_n hx hb dX3_timeLeft_74 rfl (lv_at hl 2 rfl) ?_
              refine va_get (D := eD E) (ci := 4) (v := .ref (am 3)) (C := RX3) (T := TX3) (N := 27) hx hb hta lay_X3 hown hKE.1 hP 0 rfl rfl 7 (by decide) (hta _ tw_561) (fun _ h9 => h9) rfl dX3_timeLeft_75 ?_
              refine lv_iload_n hx hb dX3_timeLeft_78 rfl (lv_at hl 4 rfl) ?_
              refine va_iald hx hb hKE.1 hP 3 0 rfl rfl hi_535 dX3_timeLeft_79 ?_
              have hPc : va_P (eD E) vwCl [] H := va_P_nil
              refine vp_callSi (va_Run.run (va_runS (As := [.int (os_L x3.toNatClampNeg), .int (ts_L x3.toNatClampNeg)]) (rest := [.int (x1 + 2)]) ⟨hx, hb, hml, hown, hta⟩ (c_X3_steps E l (os_L x3.toNatClampNeg) (ts_L x3.toNatClampNeg) _ hw) (pcS (n := 2) hta tw_672 tw_670 tw_6 tw_671 rfl rfl hd_X3_steps ⟨Nat.le_of_ble_eq_true rfl, Nat.le_of_ble_eq_true rfl⟩) ⟨fbR, fun U hU hW => ⟨rfl, preR.mk hPc hKE hU hW⟩⟩ rfl rfl hl.1 rfl (lv_room (Nat.le_of_ble_eq_true rfl)) dX3_timeLeft_80 ⟨Nat.le_of_ble_eq_true rfl, Nat.le_of_ble_eq_true rfl⟩)) (fun r_544 hw => ?_)
              refine lv_iadd hx hb dX3_timeLeft_83 ?_
              refine lv_istore_n (lv' := [(1, .int ((x1 + 2) + r_544)), (4, .int 1), (0, .ref (am 0)), (2, .int x2), (3, .int x3)]) hx hb dX3_timeLeft_84 rfl hl (by decide) rfl (fun ls hl => ?_)
              refine lv_iload hx hb dX3_timeLeft_85 (lv_at hl 1 rfl) ?_
              refine lv_istore_n (lv' := [(2, .int 1), (1, .int ((x1 + 2) + r_544)), (4, .int 1), (0, .ref (am 0)), (3, .int x3)]) hx hb dX3_timeLeft_87 rfl hl (by decide) rfl (fun ls hl => ?_)
              refine lv_iinc (v := (x3 + 1)) (lv' := [(3, .int (x3 + 1)), (2, .int 1), (1, .int ((x1 + 2) + r_544)), (4, .int 1), (0, .ref (am 0))]) hx hb dX3_timeLeft_88 hl (k := 4) rfl rfl (by decide) rfl (fun ls hl => ?_)
              refine lv_goto (tgt := 14) hx hb dX3_timeLeft_91 (by decide) ?_
              exact ih gm_L ks_L os_L ts_L iq_L mk_L me_L ((x1 + 2) + r_544) 1 (x3 + 1) hw _ _ hP hD hS ls (lv_sub hl [4, 2, 1, 0] rfl)
            · have hw := hw.1 c_543
              refine lv_iconst (v := 3) hx hb dX3_timeLeft_64 (by decide) ?_
              refine lv_goto (tgt := 83) hx hb dX3_timeLeft_65 (by decide) ?_
              refine lv_iadd hx hb dX3_timeLeft_83 ?_
              refine lv_istore_n (lv' := [(1, .int ((x1 + 2) + 3)), (4, .int 1), (0, .ref (am 0)), (2, .int x2), (3, .int x3)]) hx hb dX3_timeLeft_84 rfl hl (by decide) rfl (fun ls hl => ?_)
              refine lv_iload hx hb dX3_timeLeft_85 (lv_at hl 1 rfl) ?_
              refine lv_istore_n (lv' := [(2, .int 1), (1, .int ((x1 + 2) + 3)), (4, .int 1), (0, .ref (am 0)), (3, .int x3)]) hx hb dX3_timeLeft_87 rfl hl (by decide) rfl (fun ls hl => ?_)
              refine lv_iinc (v := (x3 + 1)) (lv' := [(3, .int (x3 + 1)), (2, .int 1), (1, .int ((x1 + 2) + 3)), (4, .int 1), (0, .ref (am 0))]) hx hb dX3_timeLeft_88 hl (k := 4) rfl rfl (by decide) rfl (fun ls hl => ?_)
              refine lv_goto (tgt := 14) hx hb dX3_timeLeft_91 (by decide) ?_
              exact ih gm_L ks_L os_L ts_L iq_L mk_L me_L ((x1 + 2) + 3) 1 (x3 + 1) hw _ _ hP hD hS ls (lv_sub hl [4, 2, 1, 0] rfl)
          · have hw := hw.1 c_542
            refine lv_iconst (v := 0) hx hb dX3_timeLeft_46 (by decide) ?_
            refine lv_goto (tgt := 51) hx hb dX3_timeLeft_47 (by decide) ?_
            refine lv_iadd hx hb dX3_timeLeft_51 ?_
            refine lv_istore_n (lv' := [(1, .int (x1 + 0)), (4, .int 1), (0, .ref (am 0)), (2, .int x2), (3, .int x3)]) hx hb dX3_timeLeft_52 rfl hl (by decide) rfl (fun ls hl => ?_)
            refine lv_iload_n hx hb dX3_timeLeft_53 rfl (lv_at hl 0 rfl) ?_
            refine lv_aload_n hx hb dX3_timeLeft_54 rfl (lv_at hl 2 rfl) ?_
            refine va_get (D := eD E) (ci := 4) (v := .ref (am 1)) (C := RX3) (T := TX3) (N := 27) hx hb hta lay_X3 hown hKE.1 hP 0 rfl rfl 5 (by decide) (hta _ tw_559) (fun _ h9 => h9) rfl dX3_timeLeft_55 ?_
            refine lv_iload_n hx hb dX3_timeLeft_58 rfl (lv_at hl 4 rfl) ?_
            refine va_iald hx hb hKE.1 hP 1 0 rfl rfl hi_535 dX3_timeLeft_59 ?_
            refine lv_iconst (v := 3) hx hb dX3_timeLeft_60 (by decide) ?_
            refine lv_icmp_ne (tgt := 68) hx hb dX3_timeLeft_61 (by decide) (fun c_545 => ?_) (fun c_545 => ?_)
            · have hw := hw.2 c_545
              refine lv_aload_n hx hb dX3_timeLeft_68 rfl (lv_at hl 2 rfl) ?_
              refine va_get (D := eD E) (ci := 4) (v := .ref (am 2)) (C := RX3) (T := TX3) (N := 27) hx hb hta lay_X3 hown hKE.1 hP 0 rfl rfl 6 (by decide) (hta _ tw_560) (fun _ h9 => h9) rfl dX3_timeLeft_69 ?_
              refine lv_iload_n hx hb dX3_timeLeft_72 rfl (lv_at hl 4 rfl) ?_
              refine va_iald hx hb hKE.1 hP 2 0 rfl rfl hi_535 dX3_timeLeft_73 ?_
              refine lv_aload_n hx hb dX3_timeLeft_74 rfl (lv_at hl 2 rfl) ?_
              refine va_get (D := eD E) (ci := 4) (v := .ref (am 3)) (C := RX3) (T := TX3) (N := 27) hx hb hta lay_X3 hown hKE.1 hP 0 rfl rfl 7 (by decide) (hta _ tw_561) (fun _ h9 => h9) rfl dX3_timeLeft_75 ?_
              refine lv_iload_n hx hb dX3_timeLeft_78 rfl (lv_at hl 4 rfl) ?_
              refine va_iald hx hb hKE.1 hP 3 0 rfl rfl hi_535 dX3_timeLeft_79 ?_
              have hPc : va_P (eD E) vwCl [] H := va_P_nil
              refine vp_callSi (va_Run.run (va_runS (As := [.int (os_L x3.toNatClampNeg), .int (ts_L x3.toNatClampNeg)]) (rest := [.int (x1 + 0)]) ⟨hx, hb, hml, hown, hta⟩ (c_X3_steps E l (os_L x3.toNatClampNeg) (ts_L x3.toNatClampNeg) _ hw) (pcS (n := 2) hta tw_672 tw_670 tw_6 tw_671 rfl rfl hd_X3_steps ⟨Nat.le_of_ble_eq_true rfl, Nat.le_of_ble_eq_true rfl⟩) ⟨fbR, fun U hU hW => ⟨rfl, preR.mk hPc hKE hU hW⟩⟩ rfl rfl hl.1 rfl (lv_room (Nat.le_of_ble_eq_true rfl)) dX3_timeLeft_80 ⟨Nat.le_of_ble_eq_true rfl, Nat.le_of_ble_eq_true rfl⟩)) (fun r_546 hw => ?_)
              refine lv_iadd hx hb dX3_timeLeft_83 ?_
              refine lv_istore_n (lv' := [(1, .int ((x1 + 0) + r_546)), (4, .int 1), (0, .ref (am 0)), (2, .int x2), (3, .int x3)]) hx hb dX3_timeLeft_84 rfl hl (by decide) rfl (fun ls hl => ?_)
              refine lv_iload hx hb dX3_timeLeft_85 (lv_at hl 1 rfl) ?_
              refine lv_istore_n (lv' := [(2, .int 1), (1, .int ((x1 + 0) + r_546)), (4, .int 1), (0, .ref (am 0)), (3, .int x3)]) hx hb dX3_timeLeft_87 rfl hl (by decide) rfl (fun ls hl => ?_)
              refine lv_iinc (v := (x3 + 1)) (lv' := [(3, .int (x3 + 1)), (2, .int 1), (1, .int ((x1 + 0) + r_546)), (4, .int 1), (0, .ref (am 0))]) hx hb dX3_timeLeft_88 hl (k := 4) rfl rfl (by decide) rfl (fun ls hl => ?_)
              refine lv_goto (tgt := 14) hx hb dX3_timeLeft_91 (by decide) ?_
              exact ih gm_L ks_L os_L ts_L iq_L mk_L me_L ((x1 + 0) + r_546) 1 (x3 + 1) hw _ _ hP hD hS ls (lv_sub hl [4, 2, 1, 0] rfl)
            · have hw := hw.1 c_545
              refine lv_iconst (v := 3) hx hb dX3_timeLeft_64 (by decide) ?_
              refine lv_goto (tgt := 83) hx hb dX3_timeLeft_65 (by decide) ?_
              refine lv_iadd hx hb dX3_timeLeft_83 ?_
              refine lv_istore_n (lv' := [(1, .int ((x1 + 0) + 3)), (4, .int 1), (0, .ref (am 0)), (2, .int x2), (3, .int x3)]) hx hb dX3_timeLeft_84 rfl hl (by decide) rfl (fun ls hl => ?_)
              refine lv_iload hx hb dX3_timeLeft_85 (lv_at hl 1 rfl) ?_
              refine lv_istore_n (lv' := [(2, .int 1), (1, .int ((x1 + 0) + 3)), (4, .int 1), (0, .ref (am 0)), (3, .int x3)]) hx hb dX3_timeLeft_87 rfl hl (by decide) rfl (fun ls hl => ?_)
              refine lv_iinc (v := (x3 + 1)) (lv' := [(3, .int (x3 + 1)), (2, .int 1), (1, .int ((x1 + 0) + 3)), (4, .int 1), (0, .ref (am 0))]) hx hb dX3_timeLeft_88 hl (k := 4) rfl rfl (by decide) rfl (fun ls hl => ?_)
              refine lv_goto (tgt := 14) hx hb dX3_timeLeft_91 (by decide) ?_
              exact ih gm_L ks_L os_L ts_L iq_L mk_L me_L ((x1 + 0) + 3) 1 (x3 + 1) hw _ _ hP hD hS ls (lv_sub hl [4, 2, 1, 0] rfl)
  unfold wp_X3_timeLeft at hw
  refine lv_aload_n hx hb dX3_timeLeft_0 rfl (lv_at hl 0 rfl) ?_
  refine lv_iconst (v := 0) hx hb dX3_timeLeft_1 (by decide) ?_
  refine va_put (D := eD E) (ci := 4) (v := .int 0) (ty := .int) (C := RX3) (T := TX3) (N := 27) hx hb hta lay_X3 tyX3 tyX3_ok nmX3 hown hKE.1 hP hD hS 0 rfl rfl 26 (by decide) (hta _ tw_580) (fun _ h9 => h9) rfl (by decide +kernel) rfl rfl (Nat.le_of_ble_eq_true rfl) dX3_timeLeft_2 (fun H locs hP hD hS => ?_)
  have hP : va_P (eD E) vwCl [((am 0), .inr (4, [.int (gm 0), .int (gm 1), .int (gm 2), .int (gm 3), .int (gm 4), .ref (am 1), .ref (am 2), .ref (am 3), .int (gm 8), .int (gm 9), .int (gm 10), .int (gm 11), .int (gm 12), .int (gm 13), .int (gm 14), .int (gm 15), .int (gm 16), .int (gm 17), .int (gm 18), .int (gm 19), .int (gm 20), .ref (am 4), .int (gm 22), .int (gm 23), .ref (am 5), .ref (am 6), .int 0])), ((am 1), .inl (eC E 0, 32, .inl ks)), ((am 2), .inl (eC E 0, 32, .inl os)), ((am 3), .inl (eC E 0, 32, .inl ts)), ((am 4), .inl (eC E 0, 3, .inl iq)), ((am 5), .inl (eC E 0, 320, .inl mk)), ((am 6), .inl (eC E 0, 320, .inl me))] H := hP
  have hD : va_D A [((am 0), .inr (4, [.int (gm 0), .int (gm 1), .int (gm 2), .int (gm 3), .int (gm 4), .ref (am 1), .ref (am 2), .ref (am 3), .int (gm 8), .int (gm 9), .int (gm 10), .int (gm 11), .int (gm 12), .int (gm 13), .int (gm 14), .int (gm 15), .int (gm 16), .int (gm 17), .int (gm 18), .int (gm 19), .int (gm 20), .ref (am 4), .int (gm 22), .int (gm 23), .ref (am 5), .ref (am 6), .int 0])), ((am 1), .inl (eC E 0, 32, .inl ks)), ((am 2), .inl (eC E 0, 32, .inl os)), ((am 3), .inl (eC E 0, 32, .inl ts)), ((am 4), .inl (eC E 0, 3, .inl iq)), ((am 5), .inl (eC E 0, 320, .inl mk)), ((am 6), .inl (eC E 0, 320, .inl me))] := hD
  refine lv_iconst (v := 0) hx hb dX3_timeLeft_5 (by decide) ?_
  refine lv_istore_n (lv' := [(1, .int 0), (0, .ref (am 0))]) hx hb dX3_timeLeft_6 rfl hl (by decide) rfl (fun ls hl => ?_)
  refine lv_aload_n hx hb dX3_timeLeft_7 rfl (lv_at hl 1 rfl) ?_
  refine va_get (D := eD E) (ci := 4) (v := .int (gm 19)) (C := RX3) (T := TX3) (N := 27) hx hb hta lay_X3 hown hKE.1 hP 0 rfl rfl 19 (by decide) (hta _ tw_573) (fun _ h9 => h9) rfl dX3_timeLeft_8 ?_
  refine lv_istore_n (lv' := [(2, .int (gm 19)), (1, .int 0), (0, .ref (am 0))]) hx hb dX3_timeLeft_11 rfl hl (by decide) rfl (fun ls hl => ?_)
  refine lv_iconst (v := 0) hx hb dX3_timeLeft_12 (by decide) ?_
  refine lv_istore_n (lv' := [(3, .int 0), (2, .int (gm 19)), (1, .int 0), (0, .ref (am 0))]) hx hb dX3_timeLeft_13 rfl hl (by decide) rfl (fun ls hl => ?_)
  obtain ⟨n_547, hw⟩ := hw
  exact loop_14 n_547 (upd gm 26 0) ks os ts iq mk me 0 (gm 19) 0 hw _ _ hP hD hS ls (lv_sub hl [3, 2, 1, 0] rfl)
def wp_X3_stepsUp (E : EV) (post : Int32 → (Nat → Int32) → (Nat → Int32) → (Nat → Int32) → (Nat → Int32) → (Nat → Int32) → (Nat → Int32) → (Nat → Int32) → Prop) (gm : Nat → Int32) (ks : Nat → Int32) (os : Nat → Int32) (ts : Nat → Int32) (iq : Nat → Int32) (mk : Nat → Int32) (me : Nat → Int32) : Prop := post (gm 22) (upd gm 26 0) ks os ts iq mk me
set_option maxHeartbeats 4000000 in
set_option maxRecDepth 100000 in
theorem c_X3_stepsUp (E : EV) (l : Launch) (am : Nat → Nat) (gm : Nat → Int32) (ks : Nat → Int32) (os : Nat → Int32) (ts : Nat → Int32) (iq : Nat → Int32) (mk : Nat → Int32) (me : Nat → Int32) (hz : Nat) (post : Int32 → (Nat → Int32) → (Nat → Int32) → (Nat → Int32) → (Nat → Int32) → (Nat → Int32) → (Nat → Int32) → (Nat → Int32) → Prop) (hw : wp_X3_stepsUp E post gm ks os ts iq mk me) : Met l yX3_stepsUp (Cond.code yX3_stepsUp cX3_stepsUp 1 (some .int) :: ALLW) ({ frames := 0, cells := 0, slots := 0, locals := 0 } : Room) (va_Pc [.ref (am 0)] (preM E (wM E am gm ks os ts iq mk me) hz)) (va_Qi (fun (r : Int32) (u : (Nat → Int32) × (Nat → Int32) × (Nat → Int32) × (Nat → Int32) × (Nat → Int32) × (Nat → Int32) × (Nat → Int32)) => post r u.1 u.2.1 u.2.2.1 u.2.2.2.1 u.2.2.2.2.1 u.2.2.2.2.2.1 u.2.2.2.2.2.2) (fun (u : (Nat → Int32) × (Nat → Int32) × (Nat → Int32) × (Nat → Int32) × (Nat → Int32) × (Nat → Int32) × (Nat → Int32)) t => va_P (eD E) vwCl (wM E am u.1 u.2.1 u.2.2.1 u.2.2.2.1 u.2.2.2.2.1 u.2.2.2.2.2.1 u.2.2.2.2.2.2) t.heap ∧ va_D (va_A (wM E am gm ks os ts iq mk me) hz) (wM E am u.1 u.2.1 u.2.2.1 u.2.2.2.1 u.2.2.2.2.1 u.2.2.2.2.2.1 u.2.2.2.2.2.2)) (va_A (wM E am gm ks os ts iq mk me) hz)) 0 0 (va_A (wM E am gm ks os ts iq mk me) hz) := by
  refine Met.ofW (cc := cX3_stepsUp) (maxL := 1) (ret := (some .int)) (by decide) rfl ?_
  intro p e s m args below meth c s₁ B hml hv
  obtain ⟨rfl, hpre⟩ := hv
  have hx := B.exec
  have hb := B.bytes
  have hr := B.returns
  have hlocks := B.notSynchronized
  have hts := atoms_spec (ws := (Cond.code yX3_stepsUp cX3_stepsUp 1 (some .int) :: ALLW)) B.pre
  have hta : ∀ w ∈ ALLW, w.before ([.ref (am 0)] : List Value).toArray s = true := fun w h => hts w (List.mem_cons_of_mem _ h)
  have hown : s.vm.findClass RX3 = some m.cls := findClass_of_methodNamed B.named
  obtain ⟨hsz, hP, hKE, hD0, hZ⟩ := hpre
  subst hsz
  have hD := hD0.self (sz := s.heap.size)
  generalize hAe : va_A (wM E am gm ks os ts iq mk me) s.heap.size = A at hD hZ ⊢
  have hA : ∀ q : Nat, s.heap.size ≤ q → A q := fun q h => by rw [← hAe]; exact Or.inr h
  have hS : va_S A s.heap s.heap [] := va_S.rf
  have hP : va_P (eD E) vwCl [((am 0), .inr (4, [.int (gm 0), .int (gm 1), .int (gm 2), .int (gm 3), .int (gm 4), .ref (am 1), .ref (am 2), .ref (am 3), .int (gm 8), .int (gm 9), .int (gm 10), .int (gm 11), .int (gm 12), .int (gm 13), .int (gm 14), .int (gm 15), .int (gm 16), .int (gm 17), .int (gm 18), .int (gm 19), .int (gm 20), .ref (am 4), .int (gm 22), .int (gm 23), .ref (am 5), .ref (am 6), .int (gm 26)])), ((am 1), .inl (eC E 0, 32, .inl ks)), ((am 2), .inl (eC E 0, 32, .inl os)), ((am 3), .inl (eC E 0, 32, .inl ts)), ((am 4), .inl (eC E 0, 3, .inl iq)), ((am 5), .inl (eC E 0, 320, .inl mk)), ((am 6), .inl (eC E 0, 320, .inl me))] s.heap := hP
  have hD : va_D A [((am 0), .inr (4, [.int (gm 0), .int (gm 1), .int (gm 2), .int (gm 3), .int (gm 4), .ref (am 1), .ref (am 2), .ref (am 3), .int (gm 8), .int (gm 9), .int (gm 10), .int (gm 11), .int (gm 12), .int (gm 13), .int (gm 14), .int (gm 15), .int (gm 16), .int (gm 17), .int (gm 18), .int (gm 19), .int (gm 20), .ref (am 4), .int (gm 22), .int (gm 23), .ref (am 5), .ref (am 6), .int (gm 26)])), ((am 1), .inl (eC E 0, 32, .inl ks)), ((am 2), .inl (eC E 0, 32, .inl os)), ((am 3), .inl (eC E 0, 32, .inl ts)), ((am 4), .inl (eC E 0, 3, .inl iq)), ((am 5), .inl (eC E 0, 320, .inl mk)), ((am 6), .inl (eC E 0, 320, .inl me))] := hD
  have hl := lv_entry ([.ref (am 0)]) (n := 1) (Nat.le_of_ble_eq_true rfl)
  rw [lg_entry_eq]
  generalize (lg_sl ([.ref (am 0)]) ++ List.replicate (1 - (lg_sl ([.ref (am 0)])).length) Slot.unset).toArray = ls at hl ⊢
  have hl : lv_has ls 1 [(0, .ref (am 0))] := hl
  unfold wp_X3_stepsUp at hw
  refine lv_aload_n hx hb dX3_stepsUp_0 rfl (lv_at hl 0 rfl) ?_
  refine lv_iconst (v := 0) hx hb dX3_stepsUp_1 (by decide) ?_
  refine va_put (D := eD E) (ci := 4) (v := .int 0) (ty := .int) (C := RX3) (T := TX3) (N := 27) hx hb hta lay_X3 tyX3 tyX3_ok nmX3 hown hKE.1 hP hD hS 0 rfl rfl 26 (by decide) (hta _ tw_580) (fun _ h9 => h9) rfl (by decide +kernel) rfl rfl (Nat.le_of_ble_eq_true rfl) dX3_stepsUp_2 (fun H locs hP hD hS => ?_)
  have hP : va_P (eD E) vwCl [((am 0), .inr (4, [.int (gm 0), .int (gm 1), .int (gm 2), .int (gm 3), .int (gm 4), .ref (am 1), .ref (am 2), .ref (am 3), .int (gm 8), .int (gm 9), .int (gm 10), .int (gm 11), .int (gm 12), .int (gm 13), .int (gm 14), .int (gm 15), .int (gm 16), .int (gm 17), .int (gm 18), .int (gm 19), .int (gm 20), .ref (am 4), .int (gm 22), .int (gm 23), .ref (am 5), .ref (am 6), .int 0])), ((am 1), .inl (eC E 0, 32, .inl ks)), ((am 2), .inl (eC E 0, 32, .inl os)), ((am 3), .inl (eC E 0, 32, .inl ts)), ((am 4), .inl (eC E 0, 3, .inl iq)), ((am 5), .inl (eC E 0, 320, .inl mk)), ((am 6), .inl (eC E 0, 320, .inl me))] H := hP
  have hD : va_D A [((am 0), .inr (4, [.int (gm 0), .int (gm 1), .int (gm 2), .int (gm 3), .int (gm 4), .ref (am 1), .ref (am 2), .ref (am 3), .int (gm 8), .int (gm 9), .int (gm 10), .int (gm 11), .int (gm 12), .int (gm 13), .int (gm 14), .int (gm 15), .int (gm 16), .int (gm 17), .int (gm 18), .int (gm 19), .int (gm 20), .ref (am 4), .int (gm 22), .int (gm 23), .ref (am 5), .ref (am 6), .int 0])), ((am 1), .inl (eC E 0, 32, .inl ks)), ((am 2), .inl (eC E 0, 32, .inl os)), ((am 3), .inl (eC E 0, 32, .inl ts)), ((am 4), .inl (eC E 0, 3, .inl iq)), ((am 5), .inl (eC E 0, 320, .inl mk)), ((am 6), .inl (eC E 0, 320, .inl me))] := hD
  refine lv_aload_n hx hb dX3_stepsUp_5 rfl (lv_at hl 0 rfl) ?_
  refine va_get (D := eD E) (ci := 4) (v := .int (gm 22)) (C := RX3) (T := TX3) (N := 27) hx hb hta lay_X3 hown hKE.1 hP 0 rfl rfl 22 (by decide) (hta _ tw_576) (fun _ h9 => h9) rfl dX3_stepsUp_6 ?_
  have hP9 : va_P (eD E) vwCl (wM E am (upd gm 26 0) ks os ts iq mk me) H := hP
  have hD9 : va_D A (wM E am (upd gm 26 0) ks os ts iq mk me) := hD
  exact W.iret (v := (gm 22)) hx hb hr (fun t ht hW => ⟨⟨(gm 22), ((upd gm 26 0), ks, os, ts, iq, mk, me), rfl, hw, ⟨by rw [ht]; exact hP9, hD9⟩⟩, hS.F ht⟩) hS.2.2 dX3_stepsUp_9
def wp_X3_stepsDown (E : EV) (post : Int32 → (Nat → Int32) → (Nat → Int32) → (Nat → Int32) → (Nat → Int32) → (Nat → Int32) → (Nat → Int32) → (Nat → Int32) → Prop) (gm : Nat → Int32) (ks : Nat → Int32) (os : Nat → Int32) (ts : Nat → Int32) (iq : Nat → Int32) (mk : Nat → Int32) (me : Nat → Int32) : Prop := post (gm 23) (upd gm 26 0) ks os ts iq mk me
set_option maxHeartbeats 4000000 in
set_option maxRecDepth 100000 in
theorem c_X3_stepsDown (E : EV) (l : Launch) (am : Nat → Nat) (gm : Nat → Int32) (ks : Nat → Int32) (os : Nat → Int32) (ts : Nat → Int32) (iq : Nat → Int32) (mk : Nat → Int32) (me : Nat → Int32) (hz : Nat) (post : Int32 → (Nat → Int32) → (Nat → Int32) → (Nat → Int32) → (Nat → Int32) → (Nat → Int32) → (Nat → Int32) → (Nat → Int32) → Prop) (hw : wp_X3_stepsDown E post gm ks os ts iq mk me) : Met l yX3_stepsDown (Cond.code yX3_stepsDown cX3_stepsDown 1 (some .int) :: ALLW) ({ frames := 0, cells := 0, slots := 0, locals := 0 } : Room) (va_Pc [.ref (am 0)] (preM E (wM E am gm ks os ts iq mk me) hz)) (va_Qi (fun (r : Int32) (u : (Nat → Int32) × (Nat → Int32) × (Nat → Int32) × (Nat → Int32) × (Nat → Int32) × (Nat → Int32) × (Nat → Int32)) => post r u.1 u.2.1 u.2.2.1 u.2.2.2.1 u.2.2.2.2.1 u.2.2.2.2.2.1 u.2.2.2.2.2.2) (fun (u : (Nat → Int32) × (Nat → Int32) × (Nat → Int32) × (Nat → Int32) × (Nat → Int32) × (Nat → Int32) × (Nat → Int32)) t => va_P (eD E) vwCl (wM E am u.1 u.2.1 u.2.2.1 u.2.2.2.1 u.2.2.2.2.1 u.2.2.2.2.2.1 u.2.2.2.2.2.2) t.heap ∧ va_D (va_A (wM E am gm ks os ts iq mk me) hz) (wM E am u.1 u.2.1 u.2.2.1 u.2.2.2.1 u.2.2.2.2.1 u.2.2.2.2.2.1 u.2.2.2.2.2.2)) (va_A (wM E am gm ks os ts iq mk me) hz)) 0 0 (va_A (wM E am gm ks os ts iq mk me) hz) := by
  refine Met.ofW (cc := cX3_stepsDown) (maxL := 1) (ret := (some .int)) (by decide) rfl ?_
  intro p e s m args below meth c s₁ B hml hv
  obtain ⟨rfl, hpre⟩ := hv
  have hx := B.exec
  have hb := B.bytes
  have hr := B.returns
  have hlocks := B.notSynchronized
  have hts := atoms_spec (ws := (Cond.code yX3_stepsDown cX3_stepsDown 1 (some .int) :: ALLW)) B.pre
  have hta : ∀ w ∈ ALLW, w.before ([.ref (am 0)] : List Value).toArray s = true := fun w h => hts w (List.mem_cons_of_mem _ h)
  have hown : s.vm.findClass RX3 = some m.cls := findClass_of_methodNamed B.named
  obtain ⟨hsz, hP, hKE, hD0, hZ⟩ := hpre
  subst hsz
  have hD := hD0.self (sz := s.heap.size)
  generalize hAe : va_A (wM E am gm ks os ts iq mk me) s.heap.size = A at hD hZ ⊢
  have hA : ∀ q : Nat, s.heap.size ≤ q → A q := fun q h => by rw [← hAe]; exact Or.inr h
  have hS : va_S A s.heap s.heap [] := va_S.rf
  have hP : va_P (eD E) vwCl [((am 0), .inr (4, [.int (gm 0), .int (gm 1), .int (gm 2), .int (gm 3), .int (gm 4), .ref (am 1), .ref (am 2), .ref (am 3), .int (gm 8), .int (gm 9), .int (gm 10), .int (gm 11), .int (gm 12), .int (gm 13), .int (gm 14), .int (gm 15), .int (gm 16), .int (gm 17), .int (gm 18), .int (gm 19), .int (gm 20), .ref (am 4), .int (gm 22), .int (gm 23), .ref (am 5), .ref (am 6), .int (gm 26)])), ((am 1), .inl (eC E 0, 32, .inl ks)), ((am 2), .inl (eC E 0, 32, .inl os)), ((am 3), .inl (eC E 0, 32, .inl ts)), ((am 4), .inl (eC E 0, 3, .inl iq)), ((am 5), .inl (eC E 0, 320, .inl mk)), ((am 6), .inl (eC E 0, 320, .inl me))] s.heap := hP
  have hD : va_D A [((am 0), .inr (4, [.int (gm 0), .int (gm 1), .int (gm 2), .int (gm 3), .int (gm 4), .ref (am 1), .ref (am 2), .ref (am 3), .int (gm 8), .int (gm 9), .int (gm 10), .int (gm 11), .int (gm 12), .int (gm 13), .int (gm 14), .int (gm 15), .int (gm 16), .int (gm 17), .int (gm 18), .int (gm 19), .int (gm 20), .ref (am 4), .int (gm 22), .int (gm 23), .ref (am 5), .ref (am 6), .int (gm 26)])), ((am 1), .inl (eC E 0, 32, .inl ks)), ((am 2), .inl (eC E 0, 32, .inl os)), ((am 3), .inl (eC E 0, 32, .inl ts)), ((am 4), .inl (eC E 0, 3, .inl iq)), ((am 5), .inl (eC E 0, 320, .inl mk)), ((am 6), .inl (eC E 0, 320, .inl me))] := hD
  have hl := lv_entry ([.ref (am 0)]) (n := 1) (Nat.le_of_ble_eq_true rfl)
  rw [lg_entry_eq]
  generalize (lg_sl ([.ref (am 0)]) ++ List.replicate (1 - (lg_sl ([.ref (am 0)])).length) Slot.unset).toArray = ls at hl ⊢
  have hl : lv_has ls 1 [(0, .ref (am 0))] := hl
  unfold wp_X3_stepsDown at hw
  refine lv_aload_n hx hb dX3_stepsDown_0 rfl (lv_at hl 0 rfl) ?_
  refine lv_iconst (v := 0) hx hb dX3_stepsDown_1 (by decide) ?_
  refine va_put (D := eD E) (ci := 4) (v := .int 0) (ty := .int) (C := RX3) (T := TX3) (N := 27) hx hb hta lay_X3 tyX3 tyX3_ok nmX3 hown hKE.1 hP hD hS 0 rfl rfl 26 (by decide) (hta _ tw_580) (fun _ h9 => h9) rfl (by decide +kernel) rfl rfl (Nat.le_of_ble_eq_true rfl) dX3_stepsDown_2 (fun H locs hP hD hS => ?_)
  have hP : va_P (eD E) vwCl [((am 0), .inr (4, [.int (gm 0), .int (gm 1), .int (gm 2), .int (gm 3), .int (gm 4), .ref (am 1), .ref (am 2), .ref (am 3), .int (gm 8), .int (gm 9), .int (gm 10), .int (gm 11), .int (gm 12), .int (gm 13), .int (gm 14), .int (gm 15), .int (gm 16), .int (gm 17), .int (gm 18), .int (gm 19), .int (gm 20), .ref (am 4), .int (gm 22), .int (gm 23), .ref (am 5), .ref (am 6), .int 0])), ((am 1), .inl (eC E 0, 32, .inl ks)), ((am 2), .inl (eC E 0, 32, .inl os)), ((am 3), .inl (eC E 0, 32, .inl ts)), ((am 4), .inl (eC E 0, 3, .inl iq)), ((am 5), .inl (eC E 0, 320, .inl mk)), ((am 6), .inl (eC E 0, 320, .inl me))] H := hP
  have hD : va_D A [((am 0), .inr (4, [.int (gm 0), .int (gm 1), .int (gm 2), .int (gm 3), .int (gm 4), .ref (am 1), .ref (am 2), .ref (am 3), .int (gm 8), .int (gm 9), .int (gm 10), .int (gm 11), .int (gm 12), .int (gm 13), .int (gm 14), .int (gm 15), .int (gm 16), .int (gm 17), .int (gm 18), .int (gm 19), .int (gm 20), .ref (am 4), .int (gm 22), .int (gm 23), .ref (am 5), .ref (am 6), .int 0])), ((am 1), .inl (eC E 0, 32, .inl ks)), ((am 2), .inl (eC E 0, 32, .inl os)), ((am 3), .inl (eC E 0, 32, .inl ts)), ((am 4), .inl (eC E 0, 3, .inl iq)), ((am 5), .inl (eC E 0, 320, .inl mk)), ((am 6), .inl (eC E 0, 320, .inl me))] := hD
  refine lv_aload_n hx hb dX3_stepsDown_5 rfl (lv_at hl 0 rfl) ?_
  refine va_get (D := eD E) (ci := 4) (v := .int (gm 23)) (C := RX3) (T := TX3) (N := 27) hx hb hta lay_X3 hown hKE.1 hP 0 rfl rfl 23 (by decide) (hta _ tw_577) (fun _ h9 => h9) rfl dX3_stepsDown_6 ?_
  have hP9 : va_P (eD E) vwCl (wM E am (upd gm 26 0) ks os ts iq mk me) H := hP
  have hD9 : va_D A (wM E am (upd gm 26 0) ks os ts iq mk me) := hD
  exact W.iret (v := (gm 23)) hx hb hr (fun t ht hW => ⟨⟨(gm 23), ((upd gm 26 0), ks, os, ts, iq, mk, me), rfl, hw, ⟨by rw [ht]; exact hP9, hD9⟩⟩, hS.F ht⟩) hS.2.2 dX3_stepsDown_9
def wp_X3_isMarked (E : EV) (post : Int32 → (Nat → Int32) → (Nat → Int32) → (Nat → Int32) → (Nat → Int32) → (Nat → Int32) → (Nat → Int32) → (Nat → Int32) → Prop) (gm : Nat → Int32) (ks : Nat → Int32) (os : Nat → Int32) (ts : Nat → Int32) (iq : Nat → Int32) (mk : Nat → Int32) (me : Nat → Int32) (p0 : Int32) (p1 : Int32) : Prop := (wp_X3_isCell E (fun r_548 : Int32 => ((r_548 = 0 → (wp_X3_goes E (fun (r_550 : Int32) (gm_551 : Nat → Int32) (ks_552 : Nat → Int32) (os_553 : Nat → Int32) (ts_554 : Nat → Int32) (iq_555 : Nat → Int32) (mk_556 : Nat → Int32) (me_557 : Nat → Int32) => ((r_550 = 0 → post 0 gm_551 ks_552 os_553 ts_554 iq_555 mk_556 me_557) ∧ (¬ (r_550 = 0) → (vp_in (((100 * p1) + p0) / 32) 320 ∧ (((((mk_556 (((100 * p1) + p0) / 32).toNatClampNeg) >>> ((((100 * p1) + p0) - ((100 * p1) + p0) / 32 * 32) &&& 31)) &&& 1) = 1 → post 1 gm_551 ks_552 os_553 ts_554 iq_555 mk_556 me_557) ∧ (¬ (((mk_556 (((100 * p1) + p0) / 32).toNatClampNeg) >>> ((((100 * p1) + p0) - ((100 * p1) + p0) / 32 * 32) &&& 31)) &&& 1) = 1 → post 0 gm_551 ks_552 os_553 ts_554 iq_555 mk_556 me_557)))))) gm ks os ts iq mk me 1)) ∧ (¬ (r_548 = 0) → (wp_X3_goes E (fun (r_561 : Int32) (gm_562 : Nat → Int32) (ks_563 : Nat → Int32) (os_564 : Nat → Int32) (ts_565 : Nat → Int32) (iq_566 : Nat → Int32) (mk_567 : Nat → Int32) (me_568 : Nat → Int32) => ((r_561 = 0 → post 0 gm_562 ks_563 os_564 ts_565 iq_566 mk_567 me_568) ∧ (¬ (r_561 = 0) → (vp_in (((100 * p1) + p0) / 32) 320 ∧ (((((mk_567 (((100 * p1) + p0) / 32).toNatClampNeg) >>> ((((100 * p1) + p0) - ((100 * p1) + p0) / 32 * 32) &&& 31)) &&& 1) = 1 → post 1 gm_562 ks_563 os_564 ts_565 iq_566 mk_567 me_568) ∧ (¬ (((mk_567 (((100 * p1) + p0) / 32).toNatClampNeg) >>> ((((100 * p1) + p0) - ((100 * p1) + p0) / 32 * 32) &&& 31)) &&& 1) = 1 → post 0 gm_562 ks_563 os_564 ts_565 iq_566 mk_567 me_568)))))) gm ks os ts iq mk me 0)))) p0 p1)
set_option maxHeartbeats 4000000 in
set_option maxRecDepth 100000 in
theorem c_X3_isMarked (E : EV) (l : Launch) (am : Nat → Nat) (gm : Nat → Int32) (ks : Nat → Int32) (os : Nat → Int32) (ts : Nat → Int32) (iq : Nat → Int32) (mk : Nat → Int32) (me : Nat → Int32) (p0 : Int32) (p1 : Int32) (hz : Nat) (post : Int32 → (Nat → Int32) → (Nat → Int32) → (Nat → Int32) → (Nat → Int32) → (Nat → Int32) → (Nat → Int32) → (Nat → Int32) → Prop) (hw : wp_X3_isMarked E post gm ks os ts iq mk me p0 p1) : Met l yX3_isMarked (Cond.code yX3_isMarked cX3_isMarked 4 (some .boolean) :: ALLW) ({ frames := 2, cells := 0, slots := 0, locals := 43 } : Room) (va_Pc [.ref (am 0), .int p0, .int p1] (preM E (wM E am gm ks os ts iq mk me) hz)) (va_Qi (fun (r : Int32) (u : (Nat → Int32) × (Nat → Int32) × (Nat → Int32) × (Nat → Int32) × (Nat → Int32) × (Nat → Int32) × (Nat → Int32)) => post r u.1 u.2.1 u.2.2.1 u.2.2.2.1 u.2.2.2.2.1 u.2.2.2.2.2.1 u.2.2.2.2.2.2) (fun (u : (Nat → Int32) × (Nat → Int32) × (Nat → Int32) × (Nat → Int32) × (Nat → Int32) × (Nat → Int32) × (Nat → Int32)) t => va_P (eD E) vwCl (wM E am u.1 u.2.1 u.2.2.1 u.2.2.2.1 u.2.2.2.2.1 u.2.2.2.2.2.1 u.2.2.2.2.2.2) t.heap ∧ va_D (va_A (wM E am gm ks os ts iq mk me) hz) (wM E am u.1 u.2.1 u.2.2.1 u.2.2.2.1 u.2.2.2.2.1 u.2.2.2.2.2.1 u.2.2.2.2.2.2)) (va_A (wM E am gm ks os ts iq mk me) hz)) 0 0 (va_A (wM E am gm ks os ts iq mk me) hz) := by
  refine Met.ofW (cc := cX3_isMarked) (maxL := 4) (ret := (some .boolean)) (by decide) rfl ?_
  intro p e s m args below meth c s₁ B hml hv
  obtain ⟨rfl, hpre⟩ := hv
  have hx := B.exec
  have hb := B.bytes
  have hr := B.returns
  have hlocks := B.notSynchronized
  have hts := atoms_spec (ws := (Cond.code yX3_isMarked cX3_isMarked 4 (some .boolean) :: ALLW)) B.pre
  have hta : ∀ w ∈ ALLW, w.before ([.ref (am 0), .int p0, .int p1] : List Value).toArray s = true := fun w h => hts w (List.mem_cons_of_mem _ h)
  have hown : s.vm.findClass RX3 = some m.cls := findClass_of_methodNamed B.named
  obtain ⟨hsz, hP, hKE, hD0, hZ⟩ := hpre
  subst hsz
  have hD := hD0.self (sz := s.heap.size)
  generalize hAe : va_A (wM E am gm ks os ts iq mk me) s.heap.size = A at hD hZ ⊢
  have hA : ∀ q : Nat, s.heap.size ≤ q → A q := fun q h => by rw [← hAe]; exact Or.inr h
  have hS : va_S A s.heap s.heap [] := va_S.rf
  have hP : va_P (eD E) vwCl [((am 0), .inr (4, [.int (gm 0), .int (gm 1), .int (gm 2), .int (gm 3), .int (gm 4), .ref (am 1), .ref (am 2), .ref (am 3), .int (gm 8), .int (gm 9), .int (gm 10), .int (gm 11), .int (gm 12), .int (gm 13), .int (gm 14), .int (gm 15), .int (gm 16), .int (gm 17), .int (gm 18), .int (gm 19), .int (gm 20), .ref (am 4), .int (gm 22), .int (gm 23), .ref (am 5), .ref (am 6), .int (gm 26)])), ((am 1), .inl (eC E 0, 32, .inl ks)), ((am 2), .inl (eC E 0, 32, .inl os)), ((am 3), .inl (eC E 0, 32, .inl ts)), ((am 4), .inl (eC E 0, 3, .inl iq)), ((am 5), .inl (eC E 0, 320, .inl mk)), ((am 6), .inl (eC E 0, 320, .inl me))] s.heap := hP
  have hD : va_D A [((am 0), .inr (4, [.int (gm 0), .int (gm 1), .int (gm 2), .int (gm 3), .int (gm 4), .ref (am 1), .ref (am 2), .ref (am 3), .int (gm 8), .int (gm 9), .int (gm 10), .int (gm 11), .int (gm 12), .int (gm 13), .int (gm 14), .int (gm 15), .int (gm 16), .int (gm 17), .int (gm 18), .int (gm 19), .int (gm 20), .ref (am 4), .int (gm 22), .int (gm 23), .ref (am 5), .ref (am 6), .int (gm 26)])), ((am 1), .inl (eC E 0, 32, .inl ks)), ((am 2), .inl (eC E 0, 32, .inl os)), ((am 3), .inl (eC E 0, 32, .inl ts)), ((am 4), .inl (eC E 0, 3, .inl iq)), ((am 5), .inl (eC E 0, 320, .inl mk)), ((am 6), .inl (eC E 0, 320, .inl me))] := hD
  have hl := lv_entry ([.ref (am 0), .int p0, .int p1]) (n := 4) (Nat.le_of_ble_eq_true rfl)
  rw [lg_entry_eq]
  generalize (lg_sl ([.ref (am 0), .int p0, .int p1]) ++ List.replicate (4 - (lg_sl ([.ref (am 0), .int p0, .int p1])).length) Slot.unset).toArray = ls at hl ⊢
  have hl : lv_has ls 4 [(0, .ref (am 0)), (1, .int p0), (2, .int p1)] := hl
  unfold wp_X3_isMarked at hw
  refine lv_bipush (v := 100) hx hb dX3_isMarked_0 (by decide) ?_
  refine lv_iload_n hx hb dX3_isMarked_2 rfl (lv_at hl 2 rfl) ?_
  refine lv_imul hx hb dX3_isMarked_3 ?_
  refine lv_iload_n hx hb dX3_isMarked_4 rfl (lv_at hl 1 rfl) ?_
  refine lv_iadd hx hb dX3_isMarked_5 ?_
  refine lv_istore_n (lv' := [(3, .int ((100 * p1) + p0)), (0, .ref (am 0)), (1, .int p0), (2, .int p1)]) hx hb dX3_isMarked_6 rfl hl (by decide) rfl (fun ls hl => ?_)
  refine lv_aload_n hx hb dX3_isMarked_7 rfl (lv_at hl 1 rfl) ?_
  refine lv_iload_n hx hb dX3_isMarked_8 rfl (lv_at hl 2 rfl) ?_
  refine lv_iload_n hx hb dX3_isMarked_9 rfl (lv_at hl 3 rfl) ?_
  have hPc : va_P (eD E) vwCl [] s.heap := va_P_nil
  refine vp_callSi (va_Run.run (va_runS (As := [.int p0, .int p1]) (rest := [.ref (am 0)]) ⟨hx, hb, hml, hown, hta⟩ (c_X3_isCell E l p0 p1 _ hw) (pcS (n := 2) hta tw_665 tw_663 tw_6 tw_664 rfl rfl hd_X3_isCell ⟨Nat.le_of_ble_eq_true rfl, Nat.le_of_ble_eq_true rfl⟩) ⟨fbR, fun U hU hW => ⟨rfl, preR.mk hPc hKE hU hW⟩⟩ rfl rfl hl.1 rfl (lv_room (Nat.le_of_ble_eq_true rfl)) dX3_isMarked_10 ⟨Nat.le_of_ble_eq_true rfl, Nat.le_of_ble_eq_true rfl⟩)) (fun r_548 hw => ?_)
  refine lv_if_eq (tgt := 20) hx hb dX3_isMarked_13 (by decide) (fun c_549 => ?_) (fun c_549 => ?_)
  · have hw := hw.1 c_549
    refine lv_iconst (v := 1) hx hb dX3_isMarked_20 (by decide) ?_
    have hPc : va_P (eD E) vwCl (wM E am gm ks os ts iq mk me) s.heap := hP
    have hDc : va_D A (wM E am gm ks os ts iq mk me) := hD
    have hFc : ∀ q, va_A (wM E am gm ks os ts iq mk me) s.heap.size q → A q := frS hDc hS hA
    refine va_calli (va_runV (As := [.int 1]) (rest := []) ⟨hx, hb, hml, hown, hta⟩ (c_X3_goes E l am gm ks os ts iq mk me 1 s.heap.size _ hw) (pcV (n := 1) hta tw_650 tw_647 tw_6 tw_649 tp_32 rfl rfl hd_X3_goes ⟨Nat.le_of_ble_eq_true rfl, Nat.le_of_ble_eq_true rfl⟩) ⟨fbM, va_recv hKE.1 hP (ci := 4) (q0 := 0) rfl rfl, fun U hU hW => ⟨rfl, preM.mk hPc hKE hDc hZ hS hFc hU hW⟩⟩ rfl rfl hl.1 rfl (lv_room (Nat.le_of_ble_eq_true rfl)) dX3_isMarked_21 ⟨Nat.le_of_ble_eq_true rfl, Nat.le_of_ble_eq_true rfl⟩) hS (fun q _ h => hFc q h) hFc (fun r_550 u t H locs ht hvm hw hB hz1 hk1 hS => ?_)
    obtain ⟨gm_551, ks_552, os_553, ts_554, iq_555, mk_556, me_557⟩ := u
    obtain ⟨hP1, hD1⟩ := hB
    rw [ht] at hP1
    try dsimp only at hw hP1 hD1
    have hP : va_P (eD E) vwCl [((am 0), .inr (4, [.int (gm_551 0), .int (gm_551 1), .int (gm_551 2), .int (gm_551 3), .int (gm_551 4), .ref (am 1), .ref (am 2), .ref (am 3), .int (gm_551 8), .int (gm_551 9), .int (gm_551 10), .int (gm_551 11), .int (gm_551 12), .int (gm_551 13), .int (gm_551 14), .int (gm_551 15), .int (gm_551 16), .int (gm_551 17), .int (gm_551 18), .int (gm_551 19), .int (gm_551 20), .ref (am 4), .int (gm_551 22), .int (gm_551 23), .ref (am 5), .ref (am 6), .int (gm_551 26)])), ((am 1), .inl (eC E 0, 32, .inl ks_552)), ((am 2), .inl (eC E 0, 32, .inl os_553)), ((am 3), .inl (eC E 0, 32, .inl ts_554)), ((am 4), .inl (eC E 0, 3, .inl iq_555)), ((am 5), .inl (eC E 0, 320, .inl mk_556)), ((am 6), .inl (eC E 0, 320, .inl me_557))] H := hP1
    have hD : va_D A [((am 0), .inr (4, [.int (gm_551 0), .int (gm_551 1), .int (gm_551 2), .int (gm_551 3), .int (gm_551 4), .ref (am 1), .ref (am 2), .ref (am 3), .int (gm_551 8), .int (gm_551 9), .int (gm_551 10), .int (gm_551 11), .int (gm_551 12), .int (gm_551 13), .int (gm_551 14), .int (gm_551 15), .int (gm_551 16), .int (gm_551 17), .int (gm_551 18), .int (gm_551 19), .int (gm_551 20), .ref (am 4), .int (gm_551 22), .int (gm_551 23), .ref (am 5), .ref (am 6), .int (gm_551 26)])), ((am 1), .inl (eC E 0, 32, .inl ks_552)), ((am 2), .inl (eC E 0, 32, .inl os_553)), ((am 3), .inl (eC E 0, 32, .inl ts_554)), ((am 4), .inl (eC E 0, 3, .inl iq_555)), ((am 5), .inl (eC E 0, 320, .inl mk_556)), ((am 6), .inl (eC E 0, 320, .inl me_557))] := hD1.weaken (fun _ q _ h => hFc q.1 h)
    refine lv_if_eq (tgt := 51) hx hb dX3_isMarked_24 (by decide) (fun c_558 => ?_) (fun c_558 => ?_)
    · have hw := hw.1 c_558
      refine lv_iconst (v := 0) hx hb dX3_isMarked_51 (by decide) ?_
      have hP9 : va_P (eD E) vwCl (wM E am gm_551 ks_552 os_553 ts_554 iq_555 mk_556 me_557) H := hP
      have hD9 : va_D A (wM E am gm_551 ks_552 os_553 ts_554 iq_555 mk_556 me_557) := hD
      exact W.zret (v := 0) hx hb hr rfl (fun t ht hW => ⟨⟨0, (gm_551, ks_552, os_553, ts_554, iq_555, mk_556, me_557), rfl, hw, ⟨by rw [ht]; exact hP9, hD9⟩⟩, hS.F ht⟩) hS.2.2 dX3_isMarked_52
    · have hw := hw.2 c_558
      refine lv_aload_n hx hb dX3_isMarked_27 rfl (lv_at hl 1 rfl) ?_
      refine va_get (D := eD E) (ci := 4) (v := .ref (am 5)) (C := RX3) (T := TX3) (N := 27) hx hb hta lay_X3 hown hKE.1 hP 0 rfl rfl 24 (by decide) (hta _ tw_578) (fun _ h9 => h9) rfl dX3_isMarked_28 ?_
      refine lv_iload_n hx hb dX3_isMarked_31 rfl (lv_at hl 0 rfl) ?_
      refine lv_bipush (v := 32) hx hb dX3_isMarked_32 (by decide) ?_
      refine lv_idiv hx hb dX3_isMarked_34 (by decide) ?_
      obtain ⟨hi_559, hw⟩ := hw
      refine va_iald hx hb hKE.1 hP 5 0 rfl rfl hi_559 dX3_isMarked_35 ?_
      refine lv_iload_n hx hb dX3_isMarked_36 rfl (lv_at hl 0 rfl) ?_
      refine lv_bipush (v := 32) hx hb dX3_isMarked_37 (by decide) ?_
      refine lv_irem hx hb dX3_isMarked_39 (by decide) ?_
      refine lv_ishr hx hb dX3_isMarked_40 ?_
      refine lv_iconst (v := 1) hx hb dX3_isMarked_41 (by decide) ?_
      refine lv_iand hx hb dX3_isMarked_42 ?_
      refine lv_iconst (v := 1) hx hb dX3_isMarked_43 (by decide) ?_
      refine lv_icmp_ne (tgt := 51) hx hb dX3_isMarked_44 (by decide) (fun c_560 => ?_) (fun c_560 => ?_)
      · have hw := hw.2 c_560
        refine lv_iconst (v := 0) hx hb dX3_isMarked_51 (by decide) ?_
        have hP9 : va_P (eD E) vwCl (wM E am gm_551 ks_552 os_553 ts_554 iq_555 mk_556 me_557) H := hP
        have hD9 : va_D A (wM E am gm_551 ks_552 os_553 ts_554 iq_555 mk_556 me_557) := hD
        exact W.zret (v := 0) hx hb hr rfl (fun t ht hW => ⟨⟨0, (gm_551, ks_552, os_553, ts_554, iq_555, mk_556, me_557), rfl, hw, ⟨by rw [ht]; exact hP9, hD9⟩⟩, hS.F ht⟩) hS.2.2 dX3_isMarked_52
      · have hw := hw.1 c_560
        refine lv_iconst (v := 1) hx hb dX3_isMarked_47 (by decide) ?_
        refine lv_goto (tgt := 52) hx hb dX3_isMarked_48 (by decide) ?_
        have hP9 : va_P (eD E) vwCl (wM E am gm_551 ks_552 os_553 ts_554 iq_555 mk_556 me_557) H := hP
        have hD9 : va_D A (wM E am gm_551 ks_552 os_553 ts_554 iq_555 mk_556 me_557) := hD
        exact W.zret (v := 1) hx hb hr rfl (fun t ht hW => ⟨⟨1, (gm_551, ks_552, os_553, ts_554, iq_555, mk_556, me_557), rfl, hw, ⟨by rw [ht]; exact hP9, hD9⟩⟩, hS.F ht⟩) hS.2.2 dX3_isMarked_52
  · have hw := hw.2 c_549
    refine lv_iconst (v := 0) hx hb dX3_isMarked_16 (by decide) ?_
    refine lv_goto (tgt := 21) hx hb dX3_isMarked_17 (by decide) ?_
    have hPc : va_P (eD E) vwCl (wM E am gm ks os ts iq mk me) s.heap := hP
    have hDc : va_D A (wM E am gm ks os ts iq mk me) := hD
    have hFc : ∀ q, va_A (wM E am gm ks os ts iq mk me) s.heap.size q → A q := frS hDc hS hA
    refine va_calli (va_runV (As := [.int 0]) (rest := []) ⟨hx, hb, hml, hown, hta⟩ (c_X3_goes E l am gm ks os ts iq mk me 0 s.heap.size _ hw) (pcV (n := 1) hta tw_650 tw_647 tw_6 tw_649 tp_32 rfl rfl hd_X3_goes ⟨Nat.le_of_ble_eq_true rfl, Nat.le_of_ble_eq_true rfl⟩) ⟨fbM, va_recv hKE.1 hP (ci := 4) (q0 := 0) rfl rfl, fun U hU hW => ⟨rfl, preM.mk hPc hKE hDc hZ hS hFc hU hW⟩⟩ rfl rfl hl.1 rfl (lv_room (Nat.le_of_ble_eq_true rfl)) dX3_isMarked_21 ⟨Nat.le_of_ble_eq_true rfl, Nat.le_of_ble_eq_true rfl⟩) hS (fun q _ h => hFc q h) hFc (fun r_561 u t H locs ht hvm hw hB hz1 hk1 hS => ?_)
    obtain ⟨gm_562, ks_563, os_564, ts_565, iq_566, mk_567, me_568⟩ := u
    obtain ⟨hP1, hD1⟩ := hB
    rw [ht] at hP1
    try dsimp only at hw hP1 hD1
    have hP : va_P (eD E) vwCl [((am 0), .inr (4, [.int (gm_562 0), .int (gm_562 1), .int (gm_562 2), .int (gm_562 3), .int (gm_562 4), .ref (am 1), .ref (am 2), .ref (am 3), .int (gm_562 8), .int (gm_562 9), .int (gm_562 10), .int (gm_562 11), .int (gm_562 12), .int (gm_562 13), .int (gm_562 14), .int (gm_562 15), .int (gm_562 16), .int (gm_562 17), .int (gm_562 18), .int (gm_562 19), .int (gm_562 20), .ref (am 4), .int (gm_562 22), .int (gm_562 23), .ref (am 5), .ref (am 6), .int (gm_562 26)])), ((am 1), .inl (eC E 0, 32, .inl ks_563)), ((am 2), .inl (eC E 0, 32, .inl os_564)), ((am 3), .inl (eC E 0, 32, .inl ts_565)), ((am 4), .inl (eC E 0, 3, .inl iq_566)), ((am 5), .inl (eC E 0, 320, .inl mk_567)), ((am 6), .inl (eC E 0, 320, .inl me_568))] H := hP1
    have hD : va_D A [((am 0), .inr (4, [.int (gm_562 0), .int (gm_562 1), .int (gm_562 2), .int (gm_562 3), .int (gm_562 4), .ref (am 1), .ref (am 2), .ref (am 3), .int (gm_562 8), .int (gm_562 9), .int (gm_562 10), .int (gm_562 11), .int (gm_562 12), .int (gm_562 13), .int (gm_562 14), .int (gm_562 15), .int (gm_562 16), .int (gm_562 17), .int (gm_562 18), .int (gm_562 19), .int (gm_562 20), .ref (am 4), .int (gm_562 22), .int (gm_562 23), .ref (am 5), .ref (am 6), .int (gm_562 26)])), ((am 1), .inl (eC E 0, 32, .inl ks_563)), ((am 2), .inl (eC E 0, 32, .inl os_564)), ((am 3), .inl (eC E 0, 32, .inl ts_565)), ((am 4), .inl (eC E 0, 3, .inl iq_566)), ((am 5), .inl (eC E 0, 320, .inl mk_567)), ((am 6), .inl (eC E 0, 320, .inl me_568))] := hD1.weaken (fun _ q _ h => hFc q.1 h)
    refine lv_if_eq (tgt := 51) hx hb dX3_isMarked_24 (by decide) (fun c_569 => ?_) (fun c_569 => ?_)
    · have hw := hw.1 c_569
      refine lv_iconst (v := 0) hx hb dX3_isMarked_51 (by decide) ?_
      have hP9 : va_P (eD E) vwCl (wM E am gm_562 ks_563 os_564 ts_565 iq_566 mk_567 me_568) H := hP
      have hD9 : va_D A (wM E am gm_562 ks_563 os_564 ts_565 iq_566 mk_567 me_568) := hD
      exact W.zret (v := 0) hx hb hr rfl (fun t ht hW => ⟨⟨0, (gm_562, ks_563, os_564, ts_565, iq_566, mk_567, me_568), rfl, hw, ⟨by rw [ht]; exact hP9, hD9⟩⟩, hS.F ht⟩) hS.2.2 dX3_isMarked_52
    · have hw := hw.2 c_569
      refine lv_aload_n hx hb dX3_isMarked_27 rfl (lv_at hl 1 rfl) ?_
      refine va_get (D := eD E) (ci := 4) (v := .ref (am 5)) (C := RX3) (T := TX3) (N := 27) hx hb hta lay_X3 hown hKE.1 hP 0 rfl rfl 24 (by decide) (hta _ tw_578) (fun _ h9 => h9) rfl dX3_isMarked_28 ?_
      refine lv_iload_n hx hb dX3_isMarked_31 rfl (lv_at hl 0 rfl) ?_
      refine lv_bipush (v := 32) hx hb dX3_isMarked_32 (by decide) ?_
      refine lv_idiv hx hb dX3_isMarked_34 (by decide) ?_
      obtain ⟨hi_570, hw⟩ := hw
      refine va_iald hx hb hKE.1 hP 5 0 rfl rfl hi_570 dX3_isMarked_35 ?_
      refine lv_iload_n hx hb dX3_isMarked_36 rfl (lv_at hl 0 rfl) ?_
      refine lv_bipush (v := 32) hx hb dX3_isMarked_37 (by decide) ?_
      refine lv_irem hx hb dX3_isMarked_39 (by decide) ?_
      refine lv_ishr hx hb dX3_isMarked_40 ?_
      refine lv_iconst (v := 1) hx hb dX3_isMarked_41 (by decide) ?_
      refine lv_iand hx hb dX3_isMarked_42 ?_
      refine lv_iconst (v := 1) hx hb dX3_isMarked_43 (by decide) ?_
      refine lv_icmp_ne (tgt := 51) hx hb dX3_isMarked_44 (by decide) (fun c_571 => ?_) (fun c_571 => ?_)
      · have hw := hw.2 c_571
        refine lv_iconst (v := 0) hx hb dX3_isMarked_51 (by decide) ?_
        have hP9 : va_P (eD E) vwCl (wM E am gm_562 ks_563 os_564 ts_565 iq_566 mk_567 me_568) H := hP
        have hD9 : va_D A (wM E am gm_562 ks_563 os_564 ts_565 iq_566 mk_567 me_568) := hD
        exact W.zret (v := 0) hx hb hr rfl (fun t ht hW => ⟨⟨0, (gm_562, ks_563, os_564, ts_565, iq_566, mk_567, me_568), rfl, hw, ⟨by rw [ht]; exact hP9, hD9⟩⟩, hS.F ht⟩) hS.2.2 dX3_isMarked_52
      · have hw := hw.1 c_571
        refine lv_iconst (v := 1) hx hb dX3_isMarked_47 (by decide) ?_
        refine lv_goto (tgt := 52) hx hb dX3_isMarked_48 (by decide) ?_
        have hP9 : va_P (eD E) vwCl (wM E am gm_562 ks_563 os_564 ts_565 iq_566 mk_567 me_568) H := hP
        have hD9 : va_D A (wM E am gm_562 ks_563 os_564 ts_565 iq_566 mk_567 me_568) := hD
        exact W.zret (v := 1) hx hb hr rfl (fun t ht hW => ⟨⟨1, (gm_562, ks_563, os_564, ts_565, iq_566, mk_567, me_568), rfl, hw, ⟨by rw [ht]; exact hP9, hD9⟩⟩, hS.F ht⟩) hS.2.2 dX3_isMarked_52
def wp_X3_bits_L4 (E : EV) (post : Int32 → Prop)   : Nat → Int32 → Int32 → Int32 → Prop
  | 0, _, _, _ => False
  | n + 1, x0, x1, x2 => ((32 ≤ x2 → post x1) ∧ (¬ (32 ≤ x2) → (wp_X3_bits_L4 E post n x0 (x1 + ((x0 >>> (x2 &&& 31)) &&& 1)) (x2 + 1))))
def wp_X3_bits (E : EV) (post : Int32 → Prop) (p0 : Int32) : Prop := (∃ n : Nat, wp_X3_bits_L4 E post n p0 0 0)
set_option maxHeartbeats 4000000 in
set_option maxRecDepth 100000 in
theorem c_X3_bits (E : EV) (l : Launch) (p0 : Int32) (post : Int32 → Prop) (hw : wp_X3_bits E post p0) : Met l yX3_bits (Cond.code yX3_bits cX3_bits 3 (some .int) :: ALLW) ({ frames := 0, cells := 0, slots := 0, locals := 0 } : Room) (va_Pc [.int p0] (preR E ([]))) (vp_Si post) 0 0 (fun _ => False) := by
  refine Met.ofW (cc := cX3_bits) (maxL := 3) (ret := (some .int)) (by decide) rfl ?_
  intro p e s m args below meth c s₁ B hml hv
  obtain ⟨rfl, hpre⟩ := hv
  have hx := B.exec
  have hb := B.bytes
  have hr := B.returns
  have hlocks := B.notSynchronized
  have hts := atoms_spec (ws := (Cond.code yX3_bits cX3_bits 3 (some .int) :: ALLW)) B.pre
  have hta : ∀ w ∈ ALLW, w.before ([.int p0] : List Value).toArray s = true := fun w h => hts w (List.mem_cons_of_mem _ h)
  have hown : s.vm.findClass RX3 = some m.cls := findClass_of_methodNamed B.named
  obtain ⟨hP, hKE⟩ := hpre
  have hP : va_P (eD E) vwCl [] s.heap := hP
  have hl := lv_entry ([.int p0]) (n := 3) (Nat.le_of_ble_eq_true rfl)
  rw [lg_entry_eq]
  generalize (lg_sl ([.int p0]) ++ List.replicate (3 - (lg_sl ([.int p0])).length) Slot.unset).toArray = ls at hl ⊢
  have hl : lv_has ls 3 [(0, .int p0)] := hl
  have loop_4 : ∀ (n : Nat) (x0 : Int32) (x1 : Int32) (x2 : Int32), wp_X3_bits_L4 E post n x0 x1 x2 → ∀ (ls : Array Slot), lv_has ls 3 [(0, .int x0), (1, .int x1), (2, .int x2)] → W p l e (headSpec (Cond.code yX3_bits cX3_bits 3 (some .int) :: ALLW) ({ frames := 0, cells := 0, slots := 0, locals := 0 } : Room)).room s m ([.int p0] : List Value).toArray below meth c s.heap [] 0 0 (MQ below (vp_Si post) ([.int p0] : List Value).toArray s 0 0 (fun _ => False)) (F0 m 4 ls []) := by
    intro n
    induction n with
    | zero => intro x0 x1 x2 hw; exact hw.elim
    | succ n ih =>
      intro x0 x1 x2 hw ls hl
      unfold wp_X3_bits_L4 at hw
      refine lv_iload_n hx hb dX3_bits_4 rfl (lv_at hl 2 rfl) ?_
      refine lv_bipush (v := 32) hx hb dX3_bits_5 (by decide) ?_
      refine lv_icmp_ge (tgt := 24) hx hb dX3_bits_7 (by decide) (fun c_572 => ?_) (fun c_572 => ?_)
      · have hw := hw.1 c_572
        refine lv_iload_n hx hb dX3_bits_24 rfl (lv_at hl 1 rfl) ?_
        exact W.iret (v := x1) hx hb hr (fun t ht hW => ⟨x1, rfl, hw, ht⟩) (fun q hq => nomatch hq) dX3_bits_25
      · have hw := hw.2 c_572
        refine lv_iload_n hx hb dX3_bits_10 rfl (lv_at hl 1 rfl) ?_
        refine lv_iload_n hx hb dX3_bits_11 rfl (lv_at hl 0 rfl) ?_
        refine lv_iload_n hx hb dX3_bits_12 rfl (lv_at hl 2 rfl) ?_
        refine lv_ishr hx hb dX3_bits_13 ?_
        refine lv_iconst (v := 1) hx hb dX3_bits_14 (by decide) ?_
        refine lv_iand hx hb dX3_bits_15 ?_
        refine lv_iadd hx hb dX3_bits_16 ?_
        refine lv_istore_n (lv' := [(1, .int (x1 + ((x0 >>> (x2 &&& 31)) &&& 1))), (0, .int x0), (2, .int x2)]) hx hb dX3_bits_17 rfl hl (by decide) rfl (fun ls hl => ?_)
        refine lv_iinc (v := (x2 + 1)) (lv' := [(2, .int (x2 + 1)), (1, .int (x1 + ((x0 >>> (x2 &&& 31)) &&& 1))), (0, .int x0)]) hx hb dX3_bits_18 hl (k := 2) rfl rfl (by decide) rfl (fun ls hl => ?_)
        refine lv_goto (tgt := 4) hx hb dX3_bits_21 (by decide) ?_
        exact ih x0 (x1 + ((x0 >>> (x2 &&& 31)) &&& 1)) (x2 + 1) hw ls (lv_sub hl [2, 1, 0] rfl)
  unfold wp_X3_bits at hw
  refine lv_iconst (v := 0) hx hb dX3_bits_0 (by decide) ?_
  refine lv_istore_n (lv' := [(1, .int 0), (0, .int p0)]) hx hb dX3_bits_1 rfl hl (by decide) rfl (fun ls hl => ?_)
  refine lv_iconst (v := 0) hx hb dX3_bits_2 (by decide) ?_
  refine lv_istore_n (lv' := [(2, .int 0), (1, .int 0), (0, .int p0)]) hx hb dX3_bits_3 rfl hl (by decide) rfl (fun ls hl => ?_)
  obtain ⟨n_573, hw⟩ := hw
  exact loop_4 n_573 p0 0 0 hw ls (lv_sub hl [2, 1, 0] rfl)
def wp_X3_marks_L9 (E : EV) (post : Int32 → (Nat → Int32) → (Nat → Int32) → (Nat → Int32) → (Nat → Int32) → (Nat → Int32) → (Nat → Int32) → (Nat → Int32) → Prop)   : Nat → (Nat → Int32) → (Nat → Int32) → (Nat → Int32) → (Nat → Int32) → (Nat → Int32) → (Nat → Int32) → (Nat → Int32) → Int32 → Int32 → Prop
  | 0, _, _, _, _, _, _, _, _, _ => False
  | n + 1, gm_L, ks_L, os_L, ts_L, iq_L, mk_L, me_L, x1, x2 => ((320 ≤ x2 → post x1 gm_L ks_L os_L ts_L iq_L mk_L me_L) ∧ (¬ (320 ≤ x2) → (vp_in x2 320 ∧ (wp_X3_bits E (fun r_576 : Int32 => (wp_X3_marks_L9 E post n gm_L ks_L os_L ts_L iq_L mk_L me_L (x1 + r_576) (x2 + 1))) (mk_L x2.toNatClampNeg)))))
def wp_X3_marks (E : EV) (post : Int32 → (Nat → Int32) → (Nat → Int32) → (Nat → Int32) → (Nat → Int32) → (Nat → Int32) → (Nat → Int32) → (Nat → Int32) → Prop) (gm : Nat → Int32) (ks : Nat → Int32) (os : Nat → Int32) (ts : Nat → Int32) (iq : Nat → Int32) (mk : Nat → Int32) (me : Nat → Int32) : Prop := (∃ n : Nat, wp_X3_marks_L9 E post n (upd gm 26 0) ks os ts iq mk me 0 0)
set_option maxHeartbeats 4000000 in
set_option maxRecDepth 100000 in
theorem c_X3_marks (E : EV) (l : Launch) (am : Nat → Nat) (gm : Nat → Int32) (ks : Nat → Int32) (os : Nat → Int32) (ts : Nat → Int32) (iq : Nat → Int32) (mk : Nat → Int32) (me : Nat → Int32) (hz : Nat) (post : Int32 → (Nat → Int32) → (Nat → Int32) → (Nat → Int32) → (Nat → Int32) → (Nat → Int32) → (Nat → Int32) → (Nat → Int32) → Prop) (hw : wp_X3_marks E post gm ks os ts iq mk me) : Met l yX3_marks (Cond.code yX3_marks cX3_marks 3 (some .int) :: ALLW) ({ frames := 1, cells := 0, slots := 0, locals := 22 } : Room) (va_Pc [.ref (am 0)] (preM E (wM E am gm ks os ts iq mk me) hz)) (va_Qi (fun (r : Int32) (u : (Nat → Int32) × (Nat → Int32) × (Nat → Int32) × (Nat → Int32) × (Nat → Int32) × (Nat → Int32) × (Nat → Int32)) => post r u.1 u.2.1 u.2.2.1 u.2.2.2.1 u.2.2.2.2.1 u.2.2.2.2.2.1 u.2.2.2.2.2.2) (fun (u : (Nat → Int32) × (Nat → Int32) × (Nat → Int32) × (Nat → Int32) × (Nat → Int32) × (Nat → Int32) × (Nat → Int32)) t => va_P (eD E) vwCl (wM E am u.1 u.2.1 u.2.2.1 u.2.2.2.1 u.2.2.2.2.1 u.2.2.2.2.2.1 u.2.2.2.2.2.2) t.heap ∧ va_D (va_A (wM E am gm ks os ts iq mk me) hz) (wM E am u.1 u.2.1 u.2.2.1 u.2.2.2.1 u.2.2.2.2.1 u.2.2.2.2.2.1 u.2.2.2.2.2.2)) (va_A (wM E am gm ks os ts iq mk me) hz)) 0 0 (va_A (wM E am gm ks os ts iq mk me) hz) := by
  refine Met.ofW (cc := cX3_marks) (maxL := 3) (ret := (some .int)) (by decide) rfl ?_
  intro p e s m args below meth c s₁ B hml hv
  obtain ⟨rfl, hpre⟩ := hv
  have hx := B.exec
  have hb := B.bytes
  have hr := B.returns
  have hlocks := B.notSynchronized
  have hts := atoms_spec (ws := (Cond.code yX3_marks cX3_marks 3 (some .int) :: ALLW)) B.pre
  have hta : ∀ w ∈ ALLW, w.before ([.ref (am 0)] : List Value).toArray s = true := fun w h => hts w (List.mem_cons_of_mem _ h)
  have hown : s.vm.findClass RX3 = some m.cls := findClass_of_methodNamed B.named
  obtain ⟨hsz, hP, hKE, hD0, hZ⟩ := hpre
  subst hsz
  have hD := hD0.self (sz := s.heap.size)
  generalize hAe : va_A (wM E am gm ks os ts iq mk me) s.heap.size = A at hD hZ ⊢
  have hA : ∀ q : Nat, s.heap.size ≤ q → A q := fun q h => by rw [← hAe]; exact Or.inr h
  have hS : va_S A s.heap s.heap [] := va_S.rf
  have hP : va_P (eD E) vwCl [((am 0), .inr (4, [.int (gm 0), .int (gm 1), .int (gm 2), .int (gm 3), .int (gm 4), .ref (am 1), .ref (am 2), .ref (am 3), .int (gm 8), .int (gm 9), .int (gm 10), .int (gm 11), .int (gm 12), .int (gm 13), .int (gm 14), .int (gm 15), .int (gm 16), .int (gm 17), .int (gm 18), .int (gm 19), .int (gm 20), .ref (am 4), .int (gm 22), .int (gm 23), .ref (am 5), .ref (am 6), .int (gm 26)])), ((am 1), .inl (eC E 0, 32, .inl ks)), ((am 2), .inl (eC E 0, 32, .inl os)), ((am 3), .inl (eC E 0, 32, .inl ts)), ((am 4), .inl (eC E 0, 3, .inl iq)), ((am 5), .inl (eC E 0, 320, .inl mk)), ((am 6), .inl (eC E 0, 320, .inl me))] s.heap := hP
  have hD : va_D A [((am 0), .inr (4, [.int (gm 0), .int (gm 1), .int (gm 2), .int (gm 3), .int (gm 4), .ref (am 1), .ref (am 2), .ref (am 3), .int (gm 8), .int (gm 9), .int (gm 10), .int (gm 11), .int (gm 12), .int (gm 13), .int (gm 14), .int (gm 15), .int (gm 16), .int (gm 17), .int (gm 18), .int (gm 19), .int (gm 20), .ref (am 4), .int (gm 22), .int (gm 23), .ref (am 5), .ref (am 6), .int (gm 26)])), ((am 1), .inl (eC E 0, 32, .inl ks)), ((am 2), .inl (eC E 0, 32, .inl os)), ((am 3), .inl (eC E 0, 32, .inl ts)), ((am 4), .inl (eC E 0, 3, .inl iq)), ((am 5), .inl (eC E 0, 320, .inl mk)), ((am 6), .inl (eC E 0, 320, .inl me))] := hD
  have hl := lv_entry ([.ref (am 0)]) (n := 3) (Nat.le_of_ble_eq_true rfl)
  rw [lg_entry_eq]
  generalize (lg_sl ([.ref (am 0)]) ++ List.replicate (3 - (lg_sl ([.ref (am 0)])).length) Slot.unset).toArray = ls at hl ⊢
  have hl : lv_has ls 3 [(0, .ref (am 0))] := hl
  have loop_9 : ∀ (n : Nat) (gm_L : Nat → Int32) (ks_L : Nat → Int32) (os_L : Nat → Int32) (ts_L : Nat → Int32) (iq_L : Nat → Int32) (mk_L : Nat → Int32) (me_L : Nat → Int32) (x1 : Int32) (x2 : Int32), wp_X3_marks_L9 E post n gm_L ks_L os_L ts_L iq_L mk_L me_L x1 x2 → ∀ (H : Heap) (locs : List Loc), va_P (eD E) vwCl [((am 0), .inr (4, [.int (gm_L 0), .int (gm_L 1), .int (gm_L 2), .int (gm_L 3), .int (gm_L 4), .ref (am 1), .ref (am 2), .ref (am 3), .int (gm_L 8), .int (gm_L 9), .int (gm_L 10), .int (gm_L 11), .int (gm_L 12), .int (gm_L 13), .int (gm_L 14), .int (gm_L 15), .int (gm_L 16), .int (gm_L 17), .int (gm_L 18), .int (gm_L 19), .int (gm_L 20), .ref (am 4), .int (gm_L 22), .int (gm_L 23), .ref (am 5), .ref (am 6), .int (gm_L 26)])), ((am 1), .inl (eC E 0, 32, .inl ks_L)), ((am 2), .inl (eC E 0, 32, .inl os_L)), ((am 3), .inl (eC E 0, 32, .inl ts_L)), ((am 4), .inl (eC E 0, 3, .inl iq_L)), ((am 5), .inl (eC E 0, 320, .inl mk_L)), ((am 6), .inl (eC E 0, 320, .inl me_L))] H → va_D A [((am 0), .inr (4, [.int (gm_L 0), .int (gm_L 1), .int (gm_L 2), .int (gm_L 3), .int (gm_L 4), .ref (am 1), .ref (am 2), .ref (am 3), .int (gm_L 8), .int (gm_L 9), .int (gm_L 10), .int (gm_L 11), .int (gm_L 12), .int (gm_L 13), .int (gm_L 14), .int (gm_L 15), .int (gm_L 16), .int (gm_L 17), .int (gm_L 18), .int (gm_L 19), .int (gm_L 20), .ref (am 4), .int (gm_L 22), .int (gm_L 23), .ref (am 5), .ref (am 6), .int (gm_L 26)])), ((am 1), .inl (eC E 0, 32, .inl ks_L)), ((am 2), .inl (eC E 0, 32, .inl os_L)), ((am 3), .inl (eC E 0, 32, .inl ts_L)), ((am 4), .inl (eC E 0, 3, .inl iq_L)), ((am 5), .inl (eC E 0, 320, .inl mk_L)), ((am 6), .inl (eC E 0, 320, .inl me_L))] → va_S A s.heap H locs → ∀ (ls : Array Slot), lv_has ls 3 [(0, .ref (am 0)), (1, .int x1), (2, .int x2)] → W p l e (headSpec (Cond.code yX3_marks cX3_marks 3 (some .int) :: ALLW) ({ frames := 1, cells := 0, slots := 0, locals := 22 } : Room)).room s m ([.ref (am 0)] : List Value).toArray below meth c H locs 0 0 (MQ below (va_Qi (fun (r : Int32) (u : (Nat → Int32) × (Nat → Int32) × (Nat → Int32) × (Nat → Int32) × (Nat → Int32) × (Nat → Int32) × (Nat → Int32)) => post r u.1 u.2.1 u.2.2.1 u.2.2.2.1 u.2.2.2.2.1 u.2.2.2.2.2.1 u.2.2.2.2.2.2) (fun (u : (Nat → Int32) × (Nat → Int32) × (Nat → Int32) × (Nat → Int32) × (Nat → Int32) × (Nat → Int32) × (Nat → Int32)) t => va_P (eD E) vwCl (wM E am u.1 u.2.1 u.2.2.1 u.2.2.2.1 u.2.2.2.2.1 u.2.2.2.2.2.1 u.2.2.2.2.2.2) t.heap ∧ va_D A (wM E am u.1 u.2.1 u.2.2.1 u.2.2.2.1 u.2.2.2.2.1 u.2.2.2.2.2.1 u.2.2.2.2.2.2)) A) ([.ref (am 0)] : List Value).toArray s 0 0 A) (F0 m 9 ls []) := by
    intro n
    induction n with
    | zero => intro gm_L ks_L os_L ts_L iq_L mk_L me_L x1 x2 hw; exact hw.elim
    | succ n ih =>
      intro gm_L ks_L os_L ts_L iq_L mk_L me_L x1 x2 hw H locs hP hD hS ls hl
      unfold wp_X3_marks_L9 at hw
      refine lv_iload_n hx hb dX3_marks_9 rfl (lv_at hl 2 rfl) ?_
      refine lv_sipush (v := 320) hx hb dX3_marks_10 (by decide) ?_
      refine lv_icmp_ge (tgt := 34) hx hb dX3_marks_13 (by decide) (fun c_574 => ?_) (fun c_574 => ?_)
      · have hw := hw.1 c_574
        refine lv_iload_n hx hb dX3_marks_34 rfl (lv_at hl 1 rfl) ?_
        have hP9 : va_P (eD E) vwCl (wM E am gm_L ks_L os_L ts_L iq_L mk_L me_L) H := hP
        have hD9 : va_D A (wM E am gm_L ks_L os_L ts_L iq_L mk_L me_L) := hD
        exact W.iret (v := x1) hx hb hr (fun t ht hW => ⟨⟨x1, (gm_L, ks_L, os_L, ts_L, iq_L, mk_L, me_L), rfl, hw, ⟨by rw [ht]; exact hP9, hD9⟩⟩, hS.F ht⟩) hS.2.2 dX3_marks_35
      · have hw := hw.2 c_574
        refine lv_iload_n hx hb dX3_marks_16 rfl (lv_at hl 1 rfl) ?_
        refine lv_aload_n hx hb dX3_marks_17 rfl (lv_at hl 0 rfl) ?_
        refine va_get (D := eD E) (ci := 4) (v := .ref (am 5)) (C := RX3) (T := TX3) (N := 27) hx hb hta lay_X3 hown hKE.1 hP 0 rfl rfl 24 (by decide) (hta _ tw_578) (fun _ h9 => h9) rfl dX3_marks_18 ?_
        refine lv_iload_n hx hb dX3_marks_21 rfl (lv_at hl 2 rfl) ?_
        obtain ⟨hi_575, hw⟩ := hw
        refine va_iald hx hb hKE.1 hP 5 0 rfl rfl hi_575 dX3_marks_22 ?_
        have hPc : va_P (eD E) vwCl [] H := va_P_nil
        refine vp_callSi (va_Run.run (va_runS (As := [.int (mk_L x2.toNatClampNeg)]) (rest := [.int x1]) ⟨hx, hb, hml, hown, hta⟩ (c_X3_bits E l (mk_L x2.toNatClampNeg) _ hw) (pcS (n := 1) hta tw_784 tw_782 tw_6 tw_783 rfl rfl hd_X3_bits ⟨Nat.le_of_ble_eq_true rfl, Nat.le_of_ble_eq_true rfl⟩) ⟨fbR, fun U hU hW => ⟨rfl, preR.mk hPc hKE hU hW⟩⟩ rfl rfl hl.1 rfl (lv_room (Nat.le_of_ble_eq_true rfl)) dX3_marks_23 ⟨Nat.le_of_ble_eq_true rfl, Nat.le_of_ble_eq_true rfl⟩)) (fun r_576 hw => ?_)
        refine lv_iadd hx hb dX3_marks_26 ?_
        refine lv_istore_n (lv' := [(1, .int (x1 + r_576)), (0, .ref (am 0)), (2, .int x2)]) hx hb dX3_marks_27 rfl hl (by decide) rfl (fun ls hl => ?_)
        refine lv_iinc (v := (x2 + 1)) (lv' := [(2, .int (x2 + 1)), (1, .int (x1 + r_576)), (0, .ref (am 0))]) hx hb dX3_marks_28 hl (k := 2) rfl rfl (by decide) rfl (fun ls hl => ?_)
        refine lv_goto (tgt := 9) hx hb dX3_marks_31 (by decide) ?_
        exact ih gm_L ks_L os_L ts_L iq_L mk_L me_L (x1 + r_576) (x2 + 1) hw _ _ hP hD hS ls (lv_sub hl [2, 1, 0] rfl)
  unfold wp_X3_marks at hw
  refine lv_aload_n hx hb dX3_marks_0 rfl (lv_at hl 0 rfl) ?_
  refine lv_iconst (v := 0) hx hb dX3_marks_1 (by decide) ?_
  refine va_put (D := eD E) (ci := 4) (v := .int 0) (ty := .int) (C := RX3) (T := TX3) (N := 27) hx hb hta lay_X3 tyX3 tyX3_ok nmX3 hown hKE.1 hP hD hS 0 rfl rfl 26 (by decide) (hta _ tw_580) (fun _ h9 => h9) rfl (by decide +kernel) rfl rfl (Nat.le_of_ble_eq_true rfl) dX3_marks_2 (fun H locs hP hD hS => ?_)
  have hP : va_P (eD E) vwCl [((am 0), .inr (4, [.int (gm 0), .int (gm 1), .int (gm 2), .int (gm 3), .int (gm 4), .ref (am 1), .ref (am 2), .ref (am 3), .int (gm 8), .int (gm 9), .int (gm 10), .int (gm 11), .int (gm 12), .int (gm 13), .int (gm 14), .int (gm 15), .int (gm 16), .int (gm 17), .int (gm 18), .int (gm 19), .int (gm 20), .ref (am 4), .int (gm 22), .int (gm 23), .ref (am 5), .ref (am 6), .int 0])), ((am 1), .inl (eC E 0, 32, .inl ks)), ((am 2), .inl (eC E 0, 32, .inl os)), ((am 3), .inl (eC E 0, 32, .inl ts)), ((am 4), .inl (eC E 0, 3, .inl iq)), ((am 5), .inl (eC E 0, 320, .inl mk)), ((am 6), .inl (eC E 0, 320, .inl me))] H := hP
  have hD : va_D A [((am 0), .inr (4, [.int (gm 0), .int (gm 1), .int (gm 2), .int (gm 3), .int (gm 4), .ref (am 1), .ref (am 2), .ref (am 3), .int (gm 8), .int (gm 9), .int (gm 10), .int (gm 11), .int (gm 12), .int (gm 13), .int (gm 14), .int (gm 15), .int (gm 16), .int (gm 17), .int (gm 18), .int (gm 19), .int (gm 20), .ref (am 4), .int (gm 22), .int (gm 23), .ref (am 5), .ref (am 6), .int 0])), ((am 1), .inl (eC E 0, 32, .inl ks)), ((am 2), .inl (eC E 0, 32, .inl os)), ((am 3), .inl (eC E 0, 32, .inl ts)), ((am 4), .inl (eC E 0, 3, .inl iq)), ((am 5), .inl (eC E 0, 320, .inl mk)), ((am 6), .inl (eC E 0, 320, .inl me))] := hD
  refine lv_iconst (v := 0) hx hb dX3_marks_5 (by decide) ?_
  refine lv_istore_n (lv' := [(1, .int 0), (0, .ref (am 0))]) hx hb dX3_marks_6 rfl hl (by decide) rfl (fun ls hl => ?_)
  refine lv_iconst (v := 0) hx hb dX3_marks_7 (by decide) ?_
  refine lv_istore_n (lv' := [(2, .int 0), (1, .int 0), (0, .ref (am 0))]) hx hb dX3_marks_8 rfl hl (by decide) rfl (fun ls hl => ?_)
  obtain ⟨n_577, hw⟩ := hw
  exact loop_9 n_577 (upd gm 26 0) ks os ts iq mk me 0 0 hw _ _ hP hD hS ls (lv_sub hl [2, 1, 0] rfl)
def wp_X3_marksInTheEnd_L9 (E : EV) (post : Int32 → (Nat → Int32) → (Nat → Int32) → (Nat → Int32) → (Nat → Int32) → (Nat → Int32) → (Nat → Int32) → (Nat → Int32) → Prop)   : Nat → (Nat → Int32) → (Nat → Int32) → (Nat → Int32) → (Nat → Int32) → (Nat → Int32) → (Nat → Int32) → (Nat → Int32) → Int32 → Int32 → Prop
  | 0, _, _, _, _, _, _, _, _, _ => False
  | n + 1, gm_L, ks_L, os_L, ts_L, iq_L, mk_L, me_L, x1, x2 => ((320 ≤ x2 → post x1 gm_L ks_L os_L ts_L iq_L mk_L me_L) ∧ (¬ (320 ≤ x2) → (vp_in x2 320 ∧ (wp_X3_bits E (fun r_580 : Int32 => (wp_X3_marksInTheEnd_L9 E post n gm_L ks_L os_L ts_L iq_L mk_L me_L (x1 + r_580) (x2 + 1))) (me_L x2.toNatClampNeg)))))
def wp_X3_marksInTheEnd (E : EV) (post : Int32 → (Nat → Int32) → (Nat → Int32) → (Nat → Int32) → (Nat → Int32) → (Nat → Int32) → (Nat → Int32) → (Nat → Int32) → Prop) (gm : Nat → Int32) (ks : Nat → Int32) (os : Nat → Int32) (ts : Nat → Int32) (iq : Nat → Int32) (mk : Nat → Int32) (me : Nat → Int32) : Prop := (∃ n : Nat, wp_X3_marksInTheEnd_L9 E post n (upd gm 26 0) ks os ts iq mk me 0 0)
set_option maxHeartbeats 4000000 in
set_option maxRecDepth 100000 in
theorem c_X3_marksInTheEnd (E : EV) (l : Launch) (am : Nat → Nat) (gm : Nat → Int32) (ks : Nat → Int32) (os : Nat → Int32) (ts : Nat → Int32) (iq : Nat → Int32) (mk : Nat → Int32) (me : Nat → Int32) (hz : Nat) (post : Int32 → (Nat → Int32) → (Nat → Int32) → (Nat → Int32) → (Nat → Int32) → (Nat → Int32) → (Nat → Int32) → (Nat → Int32) → Prop) (hw : wp_X3_marksInTheEnd E post gm ks os ts iq mk me) : Met l yX3_marksInTheEnd (Cond.code yX3_marksInTheEnd cX3_marksInTheEnd 3 (some .int) :: ALLW) ({ frames := 1, cells := 0, slots := 0, locals := 22 } : Room) (va_Pc [.ref (am 0)] (preM E (wM E am gm ks os ts iq mk me) hz)) (va_Qi (fun (r : Int32) (u : (Nat → Int32) × (Nat → Int32) × (Nat → Int32) × (Nat → Int32) × (Nat → Int32) × (Nat → Int32) × (Nat → Int32)) => post r u.1 u.2.1 u.2.2.1 u.2.2.2.1 u.2.2.2.2.1 u.2.2.2.2.2.1 u.2.2.2.2.2.2) (fun (u : (Nat → Int32) × (Nat → Int32) × (Nat → Int32) × (Nat → Int32) × (Nat → Int32) × (Nat → Int32) × (Nat → Int32)) t => va_P (eD E) vwCl (wM E am u.1 u.2.1 u.2.2.1 u.2.2.2.1 u.2.2.2.2.1 u.2.2.2.2.2.1 u.2.2.2.2.2.2) t.heap ∧ va_D (va_A (wM E am gm ks os ts iq mk me) hz) (wM E am u.1 u.2.1 u.2.2.1 u.2.2.2.1 u.2.2.2.2.1 u.2.2.2.2.2.1 u.2.2.2.2.2.2)) (va_A (wM E am gm ks os ts iq mk me) hz)) 0 0 (va_A (wM E am gm ks os ts iq mk me) hz) := by
  refine Met.ofW (cc := cX3_marksInTheEnd) (maxL := 3) (ret := (some .int)) (by decide) rfl ?_
  intro p e s m args below meth c s₁ B hml hv
  obtain ⟨rfl, hpre⟩ := hv
  have hx := B.exec
  have hb := B.bytes
  have hr := B.returns
  have hlocks := B.notSynchronized
  have hts := atoms_spec (ws := (Cond.code yX3_marksInTheEnd cX3_marksInTheEnd 3 (some .int) :: ALLW)) B.pre
  have hta : ∀ w ∈ ALLW, w.before ([.ref (am 0)] : List Value).toArray s = true := fun w h => hts w (List.mem_cons_of_mem _ h)
  have hown : s.vm.findClass RX3 = some m.cls := findClass_of_methodNamed B.named
  obtain ⟨hsz, hP, hKE, hD0, hZ⟩ := hpre
  subst hsz
  have hD := hD0.self (sz := s.heap.size)
  generalize hAe : va_A (wM E am gm ks os ts iq mk me) s.heap.size = A at hD hZ ⊢
  have hA : ∀ q : Nat, s.heap.size ≤ q → A q := fun q h => by rw [← hAe]; exact Or.inr h
  have hS : va_S A s.heap s.heap [] := va_S.rf
  have hP : va_P (eD E) vwCl [((am 0), .inr (4, [.int (gm 0), .int (gm 1), .int (gm 2), .int (gm 3), .int (gm 4), .ref (am 1), .ref (am 2), .ref (am 3), .int (gm 8), .int (gm 9), .int (gm 10), .int (gm 11), .int (gm 12), .int (gm 13), .int (gm 14), .int (gm 15), .int (gm 16), .int (gm 17), .int (gm 18), .int (gm 19), .int (gm 20), .ref (am 4), .int (gm 22), .int (gm 23), .ref (am 5), .ref (am 6), .int (gm 26)])), ((am 1), .inl (eC E 0, 32, .inl ks)), ((am 2), .inl (eC E 0, 32, .inl os)), ((am 3), .inl (eC E 0, 32, .inl ts)), ((am 4), .inl (eC E 0, 3, .inl iq)), ((am 5), .inl (eC E 0, 320, .inl mk)), ((am 6), .inl (eC E 0, 320, .inl me))] s.heap := hP
  have hD : va_D A [((am 0), .inr (4, [.int (gm 0), .int (gm 1), .int (gm 2), .int (gm 3), .int (gm 4), .ref (am 1), .ref (am 2), .ref (am 3), .int (gm 8), .int (gm 9), .int (gm 10), .int (gm 11), .int (gm 12), .int (gm 13), .int (gm 14), .int (gm 15), .int (gm 16), .int (gm 17), .int (gm 18), .int (gm 19), .int (gm 20), .ref (am 4), .int (gm 22), .int (gm 23), .ref (am 5), .ref (am 6), .int (gm 26)])), ((am 1), .inl (eC E 0, 32, .inl ks)), ((am 2), .inl (eC E 0, 32, .inl os)), ((am 3), .inl (eC E 0, 32, .inl ts)), ((am 4), .inl (eC E 0, 3, .inl iq)), ((am 5), .inl (eC E 0, 320, .inl mk)), ((am 6), .inl (eC E 0, 320, .inl me))] := hD
  have hl := lv_entry ([.ref (am 0)]) (n := 3) (Nat.le_of_ble_eq_true rfl)
  rw [lg_entry_eq]
  generalize (lg_sl ([.ref (am 0)]) ++ List.replicate (3 - (lg_sl ([.ref (am 0)])).length) Slot.unset).toArray = ls at hl ⊢
  have hl : lv_has ls 3 [(0, .ref (am 0))] := hl
  have loop_9 : ∀ (n : Nat) (gm_L : Nat → Int32) (ks_L : Nat → Int32) (os_L : Nat → Int32) (ts_L : Nat → Int32) (iq_L : Nat → Int32) (mk_L : Nat → Int32) (me_L : Nat → Int32) (x1 : Int32) (x2 : Int32), wp_X3_marksInTheEnd_L9 E post n gm_L ks_L os_L ts_L iq_L mk_L me_L x1 x2 → ∀ (H : Heap) (locs : List Loc), va_P (eD E) vwCl [((am 0), .inr (4, [.int (gm_L 0), .int (gm_L 1), .int (gm_L 2), .int (gm_L 3), .int (gm_L 4), .ref (am 1), .ref (am 2), .ref (am 3), .int (gm_L 8), .int (gm_L 9), .int (gm_L 10), .int (gm_L 11), .int (gm_L 12), .int (gm_L 13), .int (gm_L 14), .int (gm_L 15), .int (gm_L 16), .int (gm_L 17), .int (gm_L 18), .int (gm_L 19), .int (gm_L 20), .ref (am 4), .int (gm_L 22), .int (gm_L 23), .ref (am 5), .ref (am 6), .int (gm_L 26)])), ((am 1), .inl (eC E 0, 32, .inl ks_L)), ((am 2), .inl (eC E 0, 32, .inl os_L)), ((am 3), .inl (eC E 0, 32, .inl ts_L)), ((am 4), .inl (eC E 0, 3, .inl iq_L)), ((am 5), .inl (eC E 0, 320, .inl mk_L)), ((am 6), .inl (eC E 0, 320, .inl me_L))] H → va_D A [((am 0), .inr (4, [.int (gm_L 0), .int (gm_L 1), .int (gm_L 2), .int (gm_L 3), .int (gm_L 4), .ref (am 1), .ref (am 2), .ref (am 3), .int (gm_L 8), .int (gm_L 9), .int (gm_L 10), .int (gm_L 11), .int (gm_L 12), .int (gm_L 13), .int (gm_L 14), .int (gm_L 15), .int (gm_L 16), .int (gm_L 17), .int (gm_L 18), .int (gm_L 19), .int (gm_L 20), .ref (am 4), .int (gm_L 22), .int (gm_L 23), .ref (am 5), .ref (am 6), .int (gm_L 26)])), ((am 1), .inl (eC E 0, 32, .inl ks_L)), ((am 2), .inl (eC E 0, 32, .inl os_L)), ((am 3), .inl (eC E 0, 32, .inl ts_L)), ((am 4), .inl (eC E 0, 3, .inl iq_L)), ((am 5), .inl (eC E 0, 320, .inl mk_L)), ((am 6), .inl (eC E 0, 320, .inl me_L))] → va_S A s.heap H locs → ∀ (ls : Array Slot), lv_has ls 3 [(0, .ref (am 0)), (1, .int x1), (2, .int x2)] → W p l e (headSpec (Cond.code yX3_marksInTheEnd cX3_marksInTheEnd 3 (some .int) :: ALLW) ({ frames := 1, cells := 0, slots := 0, locals := 22 } : Room)).room s m ([.ref (am 0)] : List Value).toArray below meth c H locs 0 0 (MQ below (va_Qi (fun (r : Int32) (u : (Nat → Int32) × (Nat → Int32) × (Nat → Int32) × (Nat → Int32) × (Nat → Int32) × (Nat → Int32) × (Nat → Int32)) => post r u.1 u.2.1 u.2.2.1 u.2.2.2.1 u.2.2.2.2.1 u.2.2.2.2.2.1 u.2.2.2.2.2.2) (fun (u : (Nat → Int32) × (Nat → Int32) × (Nat → Int32) × (Nat → Int32) × (Nat → Int32) × (Nat → Int32) × (Nat → Int32)) t => va_P (eD E) vwCl (wM E am u.1 u.2.1 u.2.2.1 u.2.2.2.1 u.2.2.2.2.1 u.2.2.2.2.2.1 u.2.2.2.2.2.2) t.heap ∧ va_D A (wM E am u.1 u.2.1 u.2.2.1 u.2.2.2.1 u.2.2.2.2.1 u.2.2.2.2.2.1 u.2.2.2.2.2.2)) A) ([.ref (am 0)] : List Value).toArray s 0 0 A) (F0 m 9 ls []) := by
    intro n
    induction n with
    | zero => intro gm_L ks_L os_L ts_L iq_L mk_L me_L x1 x2 hw; exact hw.elim
    | succ n ih =>
      intro gm_L ks_L os_L ts_L iq_L mk_L me_L x1 x2 hw H locs hP hD hS ls hl
      unfold wp_X3_marksInTheEnd_L9 at hw
      refine lv_iload_n hx hb dX3_marksInTheEnd_9 rfl (lv_at hl 2 rfl) ?_
      refine lv_sipush (v := 320) hx hb dX3_marksInTheEnd_10 (by decide) ?_
      refine lv_icmp_ge (tgt := 34) hx hb dX3_marksInTheEnd_13 (by decide) (fun c_578 => ?_) (fun c_578 => ?_)
      · have hw := hw.1 c_578
        refine lv_iload_n hx hb dX3_marksInTheEnd_34 rfl (lv_at hl 1 rfl) ?_
        have hP9 : va_P (eD E) vwCl (wM E am gm_L ks_L os_L ts_L iq_L mk_L me_L) H := hP
        have hD9 : va_D A (wM E am gm_L ks_L os_L ts_L iq_L mk_L me_L) := hD
        exact W.iret (v := x1) hx hb hr (fun t ht hW => ⟨⟨x1, (gm_L, ks_L, os_L, ts_L, iq_L, mk_L, me_L), rfl, hw, ⟨by rw [ht]; exact hP9, hD9⟩⟩, hS.F ht⟩) hS.2.2 dX3_marksInTheEnd_35
      · have hw := hw.2 c_578
        refine lv_iload_n hx hb dX3_marksInTheEnd_16 rfl (lv_at hl 1 rfl) ?_
        refine lv_aload_n hx hb dX3_marksInTheEnd_17 rfl (lv_at hl 0 rfl) ?_
        refine va_get (D := eD E) (ci := 4) (v := .ref (am 6)) (C := RX3) (T := TX3) (N := 27) hx hb hta lay_X3 hown hKE.1 hP 0 rfl rfl 25 (by decide) (hta _ tw_579) (fun _ h9 => h9) rfl dX3_marksInTheEnd_18 ?_
        refine lv_iload_n hx hb dX3_marksInTheEnd_21 rfl (lv_at hl 2 rfl) ?_
        obtain ⟨hi_579, hw⟩ := hw
        refine va_iald hx hb hKE.1 hP 6 0 rfl rfl hi_579 dX3_marksInTheEnd_22 ?_
        have hPc : va_P (eD E) vwCl [] H := va_P_nil
        refine vp_callSi (va_Run.run (va_runS (As := [.int (me_L x2.toNatClampNeg)]) (rest := [.int x1]) ⟨hx, hb, hml, hown, hta⟩ (c_X3_bits E l (me_L x2.toNatClampNeg) _ hw) (pcS (n := 1) hta tw_784 tw_782 tw_6 tw_783 rfl rfl hd_X3_bits ⟨Nat.le_of_ble_eq_true rfl, Nat.le_of_ble_eq_true rfl⟩) ⟨fbR, fun U hU hW => ⟨rfl, preR.mk hPc hKE hU hW⟩⟩ rfl rfl hl.1 rfl (lv_room (Nat.le_of_ble_eq_true rfl)) dX3_marksInTheEnd_23 ⟨Nat.le_of_ble_eq_true rfl, Nat.le_of_ble_eq_true rfl⟩)) (fun r_580 hw => ?_)
        refine lv_iadd hx hb dX3_marksInTheEnd_26 ?_
        refine lv_istore_n (lv' := [(1, .int (x1 + r_580)), (0, .ref (am 0)), (2, .int x2)]) hx hb dX3_marksInTheEnd_27 rfl hl (by decide) rfl (fun ls hl => ?_)
        refine lv_iinc (v := (x2 + 1)) (lv' := [(2, .int (x2 + 1)), (1, .int (x1 + r_580)), (0, .ref (am 0))]) hx hb dX3_marksInTheEnd_28 hl (k := 2) rfl rfl (by decide) rfl (fun ls hl => ?_)
        refine lv_goto (tgt := 9) hx hb dX3_marksInTheEnd_31 (by decide) ?_
        exact ih gm_L ks_L os_L ts_L iq_L mk_L me_L (x1 + r_580) (x2 + 1) hw _ _ hP hD hS ls (lv_sub hl [2, 1, 0] rfl)
  unfold wp_X3_marksInTheEnd at hw
  refine lv_aload_n hx hb dX3_marksInTheEnd_0 rfl (lv_at hl 0 rfl) ?_
  refine lv_iconst (v := 0) hx hb dX3_marksInTheEnd_1 (by decide) ?_
  refine va_put (D := eD E) (ci := 4) (v := .int 0) (ty := .int) (C := RX3) (T := TX3) (N := 27) hx hb hta lay_X3 tyX3 tyX3_ok nmX3 hown hKE.1 hP hD hS 0 rfl rfl 26 (by decide) (hta _ tw_580) (fun _ h9 => h9) rfl (by decide +kernel) rfl rfl (Nat.le_of_ble_eq_true rfl) dX3_marksInTheEnd_2 (fun H locs hP hD hS => ?_)
  have hP : va_P (eD E) vwCl [((am 0), .inr (4, [.int (gm 0), .int (gm 1), .int (gm 2), .int (gm 3), .int (gm 4), .ref (am 1), .ref (am 2), .ref (am 3), .int (gm 8), .int (gm 9), .int (gm 10), .int (gm 11), .int (gm 12), .int (gm 13), .int (gm 14), .int (gm 15), .int (gm 16), .int (gm 17), .int (gm 18), .int (gm 19), .int (gm 20), .ref (am 4), .int (gm 22), .int (gm 23), .ref (am 5), .ref (am 6), .int 0])), ((am 1), .inl (eC E 0, 32, .inl ks)), ((am 2), .inl (eC E 0, 32, .inl os)), ((am 3), .inl (eC E 0, 32, .inl ts)), ((am 4), .inl (eC E 0, 3, .inl iq)), ((am 5), .inl (eC E 0, 320, .inl mk)), ((am 6), .inl (eC E 0, 320, .inl me))] H := hP
  have hD : va_D A [((am 0), .inr (4, [.int (gm 0), .int (gm 1), .int (gm 2), .int (gm 3), .int (gm 4), .ref (am 1), .ref (am 2), .ref (am 3), .int (gm 8), .int (gm 9), .int (gm 10), .int (gm 11), .int (gm 12), .int (gm 13), .int (gm 14), .int (gm 15), .int (gm 16), .int (gm 17), .int (gm 18), .int (gm 19), .int (gm 20), .ref (am 4), .int (gm 22), .int (gm 23), .ref (am 5), .ref (am 6), .int 0])), ((am 1), .inl (eC E 0, 32, .inl ks)), ((am 2), .inl (eC E 0, 32, .inl os)), ((am 3), .inl (eC E 0, 32, .inl ts)), ((am 4), .inl (eC E 0, 3, .inl iq)), ((am 5), .inl (eC E 0, 320, .inl mk)), ((am 6), .inl (eC E 0, 320, .inl me))] := hD
  refine lv_iconst (v := 0) hx hb dX3_marksInTheEnd_5 (by decide) ?_
  refine lv_istore_n (lv' := [(1, .int 0), (0, .ref (am 0))]) hx hb dX3_marksInTheEnd_6 rfl hl (by decide) rfl (fun ls hl => ?_)
  refine lv_iconst (v := 0) hx hb dX3_marksInTheEnd_7 (by decide) ?_
  refine lv_istore_n (lv' := [(2, .int 0), (1, .int 0), (0, .ref (am 0))]) hx hb dX3_marksInTheEnd_8 rfl hl (by decide) rfl (fun ls hl => ?_)
  obtain ⟨n_581, hw⟩ := hw
  exact loop_9 n_581 (upd gm 26 0) ks os ts iq mk me 0 0 hw _ _ hP hD hS ls (lv_sub hl [2, 1, 0] rfl)
