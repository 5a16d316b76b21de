def wp_X3_feed (E : EV) (post : Int32 → (Nat → Int32) → (Nat → Int32) → (Nat → Int32) → (Nat → Int32) → (Nat → Int32) → (Nat → Int32) → (Nat → Int32) → Prop) (gm : Nat → Int32) (ks : Nat → Int32) (os : Nat → Int32) (ts : Nat → Int32) (iq : Nat → Int32) (mk : Nat → Int32) (me : Nat → Int32) (p0 : Int32) : Prop := (wp_X3_isIn E (fun r_214 : Int32 => ((r_214 = 0 → (wp_X3_goes E (fun (r_216 : Int32) (gm_217 : Nat → Int32) (ks_218 : Nat → Int32) (os_219 : Nat → Int32) (ts_220 : Nat → Int32) (iq_221 : Nat → Int32) (mk_222 : Nat → Int32) (me_223 : Nat → Int32) => ((r_216 = 0 → post 0 gm_217 ks_218 os_219 ts_220 iq_221 mk_222 me_223) ∧ (¬ (r_216 = 0) → (((gm_217 4) < 8 → (((gm_217 0) = 0 → (wp_X3_isIn E (fun r_245 : Int32 => ((r_245 = 0 → ((p0 = 0 → post 1 (upd (upd (upd gm_217 0 0) 1 p0) 3 ((gm_217 3) + 0)) ks_218 os_219 ts_220 iq_221 mk_222 me_223) ∧ (¬ (p0 = 0) → post 1 (upd (upd (upd gm_217 0 0) 1 p0) 3 ((gm_217 3) + 1)) ks_218 os_219 ts_220 iq_221 mk_222 me_223))) ∧ (¬ (r_245 = 0) → post 1 (upd (upd (upd gm_217 0 1) 1 p0) 3 ((gm_217 3) + 0)) ks_218 os_219 ts_220 iq_221 mk_222 me_223))) p0 1 4)) ∧ (¬ (gm_217 0) = 0 → (((gm_217 0) = 1 → ((2 < (gm_217 1) → (wp_X3_isWhole E (fun (gm_238 : Nat → Int32) (ks_239 : Nat → Int32) (os_240 : Nat → Int32) (ts_241 : Nat → Int32) (iq_242 : Nat → Int32) (mk_243 : Nat → Int32) (me_244 : Nat → Int32) => post 1 gm_238 ks_239 os_240 ts_241 iq_242 mk_243 me_244) gm_217 ks_218 os_219 ts_220 iq_221 mk_222 me_223 p0)) ∧ (¬ (2 < (gm_217 1)) → post 1 (upd (upd gm_217 0 2) 2 p0) ks_218 os_219 ts_220 iq_221 mk_222 me_223))) ∧ (¬ (gm_217 0) = 1 → (wp_X3_isWhole E (fun (gm_229 : Nat → Int32) (ks_230 : Nat → Int32) (os_231 : Nat → Int32) (ts_232 : Nat → Int32) (iq_233 : Nat → Int32) (mk_234 : Nat → Int32) (me_235 : Nat → Int32) => post 1 gm_229 ks_230 os_231 ts_232 iq_233 mk_234 me_235) gm_217 ks_218 os_219 ts_220 iq_221 mk_222 me_223 p0)))))) ∧ (¬ (gm_217 4) < 8 → post 0 gm_217 ks_218 os_219 ts_220 iq_221 mk_222 me_223))))) gm ks os ts iq mk me 1)) ∧ (¬ (r_214 = 0) → (wp_X3_goes E (fun (r_248 : Int32) (gm_249 : Nat → Int32) (ks_250 : Nat → Int32) (os_251 : Nat → Int32) (ts_252 : Nat → Int32) (iq_253 : Nat → Int32) (mk_254 : Nat → Int32) (me_255 : Nat → Int32) => ((r_248 = 0 → post 0 gm_249 ks_250 os_251 ts_252 iq_253 mk_254 me_255) ∧ (¬ (r_248 = 0) → (((gm_249 4) < 8 → (((gm_249 0) = 0 → (wp_X3_isIn E (fun r_277 : Int32 => ((r_277 = 0 → ((p0 = 0 → post 1 (upd (upd (upd gm_249 0 0) 1 p0) 3 ((gm_249 3) + 0)) ks_250 os_251 ts_252 iq_253 mk_254 me_255) ∧ (¬ (p0 = 0) → post 1 (upd (upd (upd gm_249 0 0) 1 p0) 3 ((gm_249 3) + 1)) ks_250 os_251 ts_252 iq_253 mk_254 me_255))) ∧ (¬ (r_277 = 0) → post 1 (upd (upd (upd gm_249 0 1) 1 p0) 3 ((gm_249 3) + 0)) ks_250 os_251 ts_252 iq_253 mk_254 me_255))) p0 1 4)) ∧ (¬ (gm_249 0) = 0 → (((gm_249 0) = 1 → ((2 < (gm_249 1) → (wp_X3_isWhole E (fun (gm_270 : Nat → Int32) (ks_271 : Nat → Int32) (os_272 : Nat → Int32) (ts_273 : Nat → Int32) (iq_274 : Nat → Int32) (mk_275 : Nat → Int32) (me_276 : Nat → Int32) => post 1 gm_270 ks_271 os_272 ts_273 iq_274 mk_275 me_276) gm_249 ks_250 os_251 ts_252 iq_253 mk_254 me_255 p0)) ∧ (¬ (2 < (gm_249 1)) → post 1 (upd (upd gm_249 0 2) 2 p0) ks_250 os_251 ts_252 iq_253 mk_254 me_255))) ∧ (¬ (gm_249 0) = 1 → (wp_X3_isWhole E (fun (gm_261 : Nat → Int32) (ks_262 : Nat → Int32) (os_263 : Nat → Int32) (ts_264 : Nat → Int32) (iq_265 : Nat → Int32) (mk_266 : Nat → Int32) (me_267 : Nat → Int32) => post 1 gm_261 ks_262 os_263 ts_264 iq_265 mk_266 me_267) gm_249 ks_250 os_251 ts_252 iq_253 mk_254 me_255 p0)))))) ∧ (¬ (gm_249 4) < 8 → post 0 gm_249 ks_250 os_251 ts_252 iq_253 mk_254 me_255))))) gm ks os ts iq mk me 0)))) p0 0 255)
set_option maxHeartbeats 4000000 in
set_option maxRecDepth 100000 in
theorem c_X3_feed (E : EV) (l : Launch) (am : Nat → Nat) (gm : Nat → Int32) (ks : Nat → Int32) (os : Nat → Int32) (ts : Nat → Int32) (iq : Nat → Int32) (mk : Nat → Int32) (me : Nat → Int32) (p0 : Int32) (hz : Nat) (post : Int32 → (Nat → Int32) → (Nat → Int32) → (Nat → Int32) → (Nat → Int32) → (Nat → Int32) → (Nat → Int32) → (Nat → Int32) → Prop) (hw : wp_X3_feed E post gm ks os ts iq mk me p0) : Met l yX3_feed (Cond.code yX3_feed cX3_feed 3 (some .boolean) :: ALLW) ({ frames := 6, cells := 0, slots := 0, locals := 134 } : Room) (va_Pc [.ref (am 0), .int p0] (preM E (wM E am gm ks os ts iq mk me) hz)) (va_Qi (fun (r : Int32) (u : (Nat → Int32) × (Nat → Int32) × (Nat → Int32) × (Nat → Int32) × (Nat → Int32) × (Nat → Int32) × (Nat → Int32)) => post r u.1 u.2.1 u.2.2.1 u.2.2.2.1 u.2.2.2.2.1 u.2.2.2.2.2.1 u.2.2.2.2.2.2) (fun (u : (Nat → Int32) × (Nat → Int32) × (Nat → Int32) × (Nat → Int32) × (Nat → Int32) × (Nat → Int32) × (Nat → Int32)) t => va_P (eD E) vwCl (wM E am u.1 u.2.1 u.2.2.1 u.2.2.2.1 u.2.2.2.2.1 u.2.2.2.2.2.1 u.2.2.2.2.2.2) t.heap ∧ va_D (va_A (wM E am gm ks os ts iq mk me) hz) (wM E am u.1 u.2.1 u.2.2.1 u.2.2.2.1 u.2.2.2.2.1 u.2.2.2.2.2.1 u.2.2.2.2.2.2)) (va_A (wM E am gm ks os ts iq mk me) hz)) 0 0 (va_A (wM E am gm ks os ts iq mk me) hz) := by
  refine Met.ofW (cc := cX3_feed) (maxL := 3) (ret := (some .boolean)) (by decide) rfl ?_
  intro p e s m args below meth c s₁ B hml hv
  obtain ⟨rfl, hpre⟩ := hv
  have hx := B.exec
  have hb := B.bytes
  have hr := B.returns
  have hlocks := B.notSynchronized
  have hts := atoms_spec (ws := (Cond.code yX3_feed cX3_feed 3 (some .boolean) :: ALLW)) B.pre
  have hta : ∀ w ∈ ALLW, w.before ([.ref (am 0), .int p0] : List Value).toArray s = true := fun w h => hts w (List.mem_cons_of_mem _ h)
  have hown : s.vm.findClass RX3 = some m.cls := findClass_of_methodNamed B.named
  obtain ⟨hsz, hP, hKE, hD0, hZ⟩ := hpre
  subst hsz
  have hD := hD0.self (sz := s.heap.size)
  generalize hAe : va_A (wM E am gm ks os ts iq mk me) s.heap.size = A at hD hZ ⊢
  have hA : ∀ q : Nat, s.heap.size ≤ q → A q := fun q h => by rw [← hAe]; exact Or.inr h
  have hS : va_S A s.heap s.heap [] := va_S.rf
  have hP : va_P (eD E) vwCl [((am 0), .inr (4, [.int (gm 0), .int (gm 1), .int (gm 2), .int (gm 3), .int (gm 4), .ref (am 1), .ref (am 2), .ref (am 3), .int (gm 8), .int (gm 9), .int (gm 10), .int (gm 11), .int (gm 12), .int (gm 13), .int (gm 14), .int (gm 15), .int (gm 16), .int (gm 17), .int (gm 18), .int (gm 19), .int (gm 20), .ref (am 4), .int (gm 22), .int (gm 23), .ref (am 5), .ref (am 6), .int (gm 26)])), ((am 1), .inl (eC E 0, 32, .inl ks)), ((am 2), .inl (eC E 0, 32, .inl os)), ((am 3), .inl (eC E 0, 32, .inl ts)), ((am 4), .inl (eC E 0, 3, .inl iq)), ((am 5), .inl (eC E 0, 320, .inl mk)), ((am 6), .inl (eC E 0, 320, .inl me))] s.heap := hP
  have hD : va_D A [((am 0), .inr (4, [.int (gm 0), .int (gm 1), .int (gm 2), .int (gm 3), .int (gm 4), .ref (am 1), .ref (am 2), .ref (am 3), .int (gm 8), .int (gm 9), .int (gm 10), .int (gm 11), .int (gm 12), .int (gm 13), .int (gm 14), .int (gm 15), .int (gm 16), .int (gm 17), .int (gm 18), .int (gm 19), .int (gm 20), .ref (am 4), .int (gm 22), .int (gm 23), .ref (am 5), .ref (am 6), .int (gm 26)])), ((am 1), .inl (eC E 0, 32, .inl ks)), ((am 2), .inl (eC E 0, 32, .inl os)), ((am 3), .inl (eC E 0, 32, .inl ts)), ((am 4), .inl (eC E 0, 3, .inl iq)), ((am 5), .inl (eC E 0, 320, .inl mk)), ((am 6), .inl (eC E 0, 320, .inl me))] := hD
  have hl := lv_entry ([.ref (am 0), .int p0]) (n := 3) (Nat.le_of_ble_eq_true rfl)
  rw [lg_entry_eq]
  generalize (lg_sl ([.ref (am 0), .int p0]) ++ List.replicate (3 - (lg_sl ([.ref (am 0), .int p0])).length) Slot.unset).toArray = ls at hl ⊢
  have hl : lv_has ls 3 [(0, .ref (am 0)), (1, .int p0)] := hl
  unfold wp_X3_feed at hw
  refine lv_aload_n hx hb dX3_feed_0 rfl (lv_at hl 0 rfl) ?_
  refine lv_iload_n hx hb dX3_feed_1 rfl (lv_at hl 1 rfl) ?_
  refine lv_iconst (v := 0) hx hb dX3_feed_2 (by decide) ?_
  refine lv_sipush (v := 255) hx hb dX3_feed_3 (by decide) ?_
  have hPc : va_P (eD E) vwCl [] s.heap := va_P_nil
  refine vp_callSi (va_Run.run (va_runS (As := [.int p0, .int 0, .int 255]) (rest := [.ref (am 0)]) ⟨hx, hb, hml, hown, hta⟩ (c_X3_isIn E l p0 0 255 _ hw) (pcS (n := 3) hta tw_646 tw_644 tw_6 tw_645 rfl rfl hd_X3_isIn ⟨Nat.le_of_ble_eq_true rfl, Nat.le_of_ble_eq_true rfl⟩) ⟨fbR, fun U hU hW => ⟨rfl, preR.mk hPc hKE hU hW⟩⟩ rfl rfl hl.1 rfl (lv_room (Nat.le_of_ble_eq_true rfl)) dX3_feed_6 ⟨Nat.le_of_ble_eq_true rfl, Nat.le_of_ble_eq_true rfl⟩)) (fun r_214 hw => ?_)
  refine lv_if_eq (tgt := 16) hx hb dX3_feed_9 (by decide) (fun c_215 => ?_) (fun c_215 => ?_)
  · have hw := hw.1 c_215
    refine lv_iconst (v := 1) hx hb dX3_feed_16 (by decide) ?_
    have hPc : va_P (eD E) vwCl (wM E am gm ks os ts iq mk me) s.heap := hP
    have hDc : va_D A (wM E am gm ks os ts iq mk me) := hD
    have hFc : ∀ q, va_A (wM E am gm ks os ts iq mk me) s.heap.size q → A q := frS hDc hS hA
    refine va_calli (va_runV (As := [.int 1]) (rest := []) ⟨hx, hb, hml, hown, hta⟩ (c_X3_goes E l am gm ks os ts iq mk me 1 s.heap.size _ hw) (pcV (n := 1) hta tw_650 tw_647 tw_6 tw_649 tp_32 rfl rfl hd_X3_goes ⟨Nat.le_of_ble_eq_true rfl, Nat.le_of_ble_eq_true rfl⟩) ⟨fbM, va_recv hKE.1 hP (ci := 4) (q0 := 0) rfl rfl, fun U hU hW => ⟨rfl, preM.mk hPc hKE hDc hZ hS hFc hU hW⟩⟩ rfl rfl hl.1 rfl (lv_room (Nat.le_of_ble_eq_true rfl)) dX3_feed_17 ⟨Nat.le_of_ble_eq_true rfl, Nat.le_of_ble_eq_true rfl⟩) hS (fun q _ h => hFc q h) hFc (fun r_216 u t H locs ht hvm hw hB hz1 hk1 hS => ?_)
    obtain ⟨gm_217, ks_218, os_219, ts_220, iq_221, mk_222, me_223⟩ := u
    obtain ⟨hP1, hD1⟩ := hB
    rw [ht] at hP1
    try dsimp only at hw hP1 hD1
    have hP : va_P (eD E) vwCl [((am 0), .inr (4, [.int (gm_217 0), .int (gm_217 1), .int (gm_217 2), .int (gm_217 3), .int (gm_217 4), .ref (am 1), .ref (am 2), .ref (am 3), .int (gm_217 8), .int (gm_217 9), .int (gm_217 10), .int (gm_217 11), .int (gm_217 12), .int (gm_217 13), .int (gm_217 14), .int (gm_217 15), .int (gm_217 16), .int (gm_217 17), .int (gm_217 18), .int (gm_217 19), .int (gm_217 20), .ref (am 4), .int (gm_217 22), .int (gm_217 23), .ref (am 5), .ref (am 6), .int (gm_217 26)])), ((am 1), .inl (eC E 0, 32, .inl ks_218)), ((am 2), .inl (eC E 0, 32, .inl os_219)), ((am 3), .inl (eC E 0, 32, .inl ts_220)), ((am 4), .inl (eC E 0, 3, .inl iq_221)), ((am 5), .inl (eC E 0, 320, .inl mk_222)), ((am 6), .inl (eC E 0, 320, .inl me_223))] H := hP1
    have hD : va_D A [((am 0), .inr (4, [.int (gm_217 0), .int (gm_217 1), .int (gm_217 2), .int (gm_217 3), .int (gm_217 4), .ref (am 1), .ref (am 2), .ref (am 3), .int (gm_217 8), .int (gm_217 9), .int (gm_217 10), .int (gm_217 11), .int (gm_217 12), .int (gm_217 13), .int (gm_217 14), .int (gm_217 15), .int (gm_217 16), .int (gm_217 17), .int (gm_217 18), .int (gm_217 19), .int (gm_217 20), .ref (am 4), .int (gm_217 22), .int (gm_217 23), .ref (am 5), .ref (am 6), .int (gm_217 26)])), ((am 1), .inl (eC E 0, 32, .inl ks_218)), ((am 2), .inl (eC E 0, 32, .inl os_219)), ((am 3), .inl (eC E 0, 32, .inl ts_220)), ((am 4), .inl (eC E 0, 3, .inl iq_221)), ((am 5), .inl (eC E 0, 320, .inl mk_222)), ((am 6), .inl (eC E 0, 320, .inl me_223))] := hD1.weaken (fun _ q _ h => hFc q.1 h)
    refine lv_if_eq (tgt := 32) hx hb dX3_feed_20 (by decide) (fun c_224 => ?_) (fun c_224 => ?_)
    · have hw := hw.1 c_224
      refine lv_iconst (v := 0) hx hb dX3_feed_32 (by decide) ?_
      have hP9 : va_P (eD E) vwCl (wM E am gm_217 ks_218 os_219 ts_220 iq_221 mk_222 me_223) H := hP
      have hD9 : va_D A (wM E am gm_217 ks_218 os_219 ts_220 iq_221 mk_222 me_223) := hD
      exact W.zret (v := 0) hx hb hr rfl (fun t ht hW => ⟨⟨0, (gm_217, ks_218, os_219, ts_220, iq_221, mk_222, me_223), rfl, hw, ⟨by rw [ht]; exact hP9, hD9⟩⟩, hS.F ht⟩) hS.2.2 dX3_feed_33
    · have hw := hw.2 c_224
      refine lv_aload_n hx hb dX3_feed_23 rfl (lv_at hl 0 rfl) ?_
      refine va_get (D := eD E) (ci := 4) (v := .int (gm_217 4)) (C := RX3) (T := TX3) (N := 27) hx hb hta lay_X3 hown hKE.1 hP 0 rfl rfl 4 (by decide) (hta _ tw_558) (fun _ h9 => h9) rfl dX3_feed_24 ?_
      refine lv_bipush (v := 8) hx hb dX3_feed_27 (by decide) ?_
      refine lv_icmp_lt (tgt := 34) hx hb dX3_feed_29 (by decide) (fun c_225 => ?_) (fun c_225 => ?_)
      · have hw := hw.1 c_225
        refine lv_aload_n hx hb dX3_feed_34 rfl (lv_at hl 0 rfl) ?_
        refine va_get (D := eD E) (ci := 4) (v := .int (gm_217 0)) (C := RX3) (T := TX3) (N := 27) hx hb hta lay_X3 hown hKE.1 hP 0 rfl rfl 0 (by decide) (hta _ tw_554) (fun _ h9 => h9) rfl dX3_feed_35 ?_
        refine lv_if_ne (tgt := 91) hx hb dX3_feed_38 (by decide) (fun c_226 => ?_) (fun c_226 => ?_)
        · have hw := hw.2 c_226
          refine lv_aload_n hx hb dX3_feed_91 rfl (lv_at hl 0 rfl) ?_
          refine va_get (D := eD E) (ci := 4) (v := .int (gm_217 0)) (C := RX3) (T := TX3) (N := 27) hx hb hta lay_X3 hown hKE.1 hP 0 rfl rfl 0 (by decide) (hta _ tw_554) (fun _ h9 => h9) rfl dX3_feed_92 ?_
          refine lv_iconst (v := 1) hx hb dX3_feed_95 (by decide) ?_
          refine lv_icmp_ne (tgt := 120) hx hb dX3_feed_96 (by decide) (fun c_227 => ?_) (fun c_227 => ?_)
          · have hw := hw.2 c_227
            refine lv_aload_n hx hb dX3_feed_120 rfl (lv_at hl 0 rfl) ?_
            refine lv_iload_n hx hb dX3_feed_121 rfl (lv_at hl 1 rfl) ?_
            have hPc : va_P (eD E) vwCl (wM E am gm_217 ks_218 os_219 ts_220 iq_221 mk_222 me_223) H := hP
            have hDc : va_D A (wM E am gm_217 ks_218 os_219 ts_220 iq_221 mk_222 me_223) := hD
            have hFc : ∀ q, va_A (wM E am gm_217 ks_218 os_219 ts_220 iq_221 mk_222 me_223) H.size q → A q := frS hDc hS hA
            refine va_callv (va_runV (As := [.int p0]) (rest := []) ⟨hx, hb, hml, hown, hta⟩ (c_X3_isWhole E l am gm_217 ks_218 os_219 ts_220 iq_221 mk_222 me_223 p0 H.size _ hw) (pcV (n := 1) hta tw_654 tw_651 tw_6 tw_653 tp_33 rfl rfl hd_X3_isWhole ⟨Nat.le_of_ble_eq_true rfl, Nat.le_of_ble_eq_true rfl⟩) ⟨fbM, va_recv hKE.1 hP (ci := 4) (q0 := 0) rfl rfl, fun U hU hW => ⟨rfl, preM.mk hPc hKE hDc hZ hS hFc hU hW⟩⟩ rfl rfl hl.1 rfl (lv_room (Nat.le_of_ble_eq_true rfl)) dX3_feed_122 ⟨Nat.le_of_ble_eq_true rfl, Nat.le_of_ble_eq_true rfl⟩) hS (fun q _ h => hFc q h) hFc (fun u t H locs ht hvm hw hB hz1 hk1 hS => ?_)
            obtain ⟨gm_229, ks_230, os_231, ts_232, iq_233, mk_234, me_235⟩ := u
            obtain ⟨hP1, hD1⟩ := hB
            rw [ht] at hP1
            try dsimp only at hw hP1 hD1
            have hP : va_P (eD E) vwCl [((am 0), .inr (4, [.int (gm_229 0), .int (gm_229 1), .int (gm_229 2), .int (gm_229 3), .int (gm_229 4), .ref (am 1), .ref (am 2), .ref (am 3), .int (gm_229 8), .int (gm_229 9), .int (gm_229 10), .int (gm_229 11), .int (gm_229 12), .int (gm_229 13), .int (gm_229 14), .int (gm_229 15), .int (gm_229 16), .int (gm_229 17), .int (gm_229 18), .int (gm_229 19), .int (gm_229 20), .ref (am 4), .int (gm_229 22), .int (gm_229 23), .ref (am 5), .ref (am 6), .int (gm_229 26)])), ((am 1), .inl (eC E 0, 32, .inl ks_230)), ((am 2), .inl (eC E 0, 32, .inl os_231)), ((am 3), .inl (eC E 0, 32, .inl ts_232)), ((am 4), .inl (eC E 0, 3, .inl iq_233)), ((am 5), .inl (eC E 0, 320, .inl mk_234)), ((am 6), .inl (eC E 0, 320, .inl me_235))] H := hP1
            have hD : va_D A [((am 0), .inr (4, [.int (gm_229 0), .int (gm_229 1), .int (gm_229 2), .int (gm_229 3), .int (gm_229 4), .ref (am 1), .ref (am 2), .ref (am 3), .int (gm_229 8), .int (gm_229 9), .int (gm_229 10), .int (gm_229 11), .int (gm_229 12), .int (gm_229 13), .int (gm_229 14), .int (gm_229 15), .int (gm_229 16), .int (gm_229 17), .int (gm_229 18), .int (gm_229 19), .int (gm_229 20), .ref (am 4), .int (gm_229 22), .int (gm_229 23), .ref (am 5), .ref (am 6), .int (gm_229 26)])), ((am 1), .inl (eC E 0, 32, .inl ks_230)), ((am 2), .inl (eC E 0, 32, .inl os_231)), ((am 3), .inl (eC E 0, 32, .inl ts_232)), ((am 4), .inl (eC E 0, 3, .inl iq_233)), ((am 5), .inl (eC E 0, 320, .inl mk_234)), ((am 6), .inl (eC E 0, 320, .inl me_235))] := hD1.weaken (fun _ q _ h => hFc q.1 h)
            refine lv_iconst (v := 1) hx hb dX3_feed_125 (by decide) ?_
            have hP9 : va_P (eD E) vwCl (wM E am gm_229 ks_230 os_231 ts_232 iq_233 mk_234 me_235) H := hP
            have hD9 : va_D A (wM E am gm_229 ks_230 os_231 ts_232 iq_233 mk_234 me_235) := hD
            exact W.zret (v := 1) hx hb hr rfl (fun t ht hW => ⟨⟨1, (gm_229, ks_230, os_231, ts_232, iq_233, mk_234, me_235), rfl, hw, ⟨by rw [ht]; exact hP9, hD9⟩⟩, hS.F ht⟩) hS.2.2 dX3_feed_126
          · have hw := hw.1 c_227
            refine lv_aload_n hx hb dX3_feed_99 rfl (lv_at hl 0 rfl) ?_
            refine va_get (D := eD E) (ci := 4) (v := .int (gm_217 1)) (C := RX3) (T := TX3) (N := 27) hx hb hta lay_X3 hown hKE.1 hP 0 rfl rfl 1 (by decide) (hta _ tw_555) (fun _ h9 => h9) rfl dX3_feed_100 ?_
            refine lv_iconst (v := 2) hx hb dX3_feed_103 (by decide) ?_
            refine lv_icmp_gt (tgt := 120) hx hb dX3_feed_104 (by decide) (fun c_236 => ?_) (fun c_236 => ?_)
            · have hw := hw.1 c_236
              refine lv_aload_n hx hb dX3_feed_120 rfl (lv_at hl 0 rfl) ?_
              refine lv_iload_n hx hb dX3_feed_121 rfl (lv_at hl 1 rfl) ?_
              have hPc : va_P (eD E) vwCl (wM E am gm_217 ks_218 os_219 ts_220 iq_221 mk_222 me_223) H := hP
              have hDc : va_D A (wM E am gm_217 ks_218 os_219 ts_220 iq_221 mk_222 me_223) := hD
              have hFc : ∀ q, va_A (wM E am gm_217 ks_218 os_219 ts_220 iq_221 mk_222 me_223) H.size q → A q := frS hDc hS hA
              refine va_callv (va_runV (As := [.int p0]) (rest := []) ⟨hx, hb, hml, hown, hta⟩ (c_X3_isWhole E l am gm_217 ks_218 os_219 ts_220 iq_221 mk_222 me_223 p0 H.size _ hw) (pcV (n := 1) hta tw_654 tw_651 tw_6 tw_653 tp_33 rfl rfl hd_X3_isWhole ⟨Nat.le_of_ble_eq_true rfl, Nat.le_of_ble_eq_true rfl⟩) ⟨fbM, va_recv hKE.1 hP (ci := 4) (q0 := 0) rfl rfl, fun U hU hW => ⟨rfl, preM.mk hPc hKE hDc hZ hS hFc hU hW⟩⟩ rfl rfl hl.1 rfl (lv_room (Nat.le_of_ble_eq_true rfl)) dX3_feed_122 ⟨Nat.le_of_ble_eq_true rfl, Nat.le_of_ble_eq_true rfl⟩) hS (fun q _ h => hFc q h) hFc (fun u t H locs ht hvm hw hB hz1 hk1 hS => ?_)
              obtain ⟨gm_238, ks_239, os_240, ts_241, iq_242, mk_243, me_244⟩ := u
              obtain ⟨hP1, hD1⟩ := hB
              rw [ht] at hP1
              try dsimp only at hw hP1 hD1
              have hP : va_P (eD E) vwCl [((am 0), .inr (4, [.int (gm_238 0), .int (gm_238 1), .int (gm_238 2), .int (gm_238 3), .int (gm_238 4), .ref (am 1), .ref (am 2), .ref (am 3), .int (gm_238 8), .int (gm_238 9), .int (gm_238 10), .int (gm_238 11), .int (gm_238 12), .int (gm_238 13), .int (gm_238 14), .int (gm_238 15), .int (gm_238 16), .int (gm_238 17), .int (gm_238 18), .int (gm_238 19), .int (gm_238 20), .ref (am 4), .int (gm_238 22), .int (gm_238 23), .ref (am 5), .ref (am 6), .int (gm_238 26)])), ((am 1), .inl (eC E 0, 32, .inl ks_239)), ((am 2), .inl (eC E 0, 32, .inl os_240)), ((am 3), .inl (eC E 0, 32, .inl ts_241)), ((am 4), .inl (eC E 0, 3, .inl iq_242)), ((am 5), .inl (eC E 0, 320, .inl mk_243)), ((am 6), .inl (eC E 0, 320, .inl me_244))] H := hP1
              have hD : va_D A [((am 0), .inr (4, [.int (gm_238 0), .int (gm_238 1), .int (gm_238 2), .int (gm_238 3), .int (gm_238 4), .ref (am 1), .ref (am 2), .ref (am 3), .int (gm_238 8), .int (gm_238 9), .int (gm_238 10), .int (gm_238 11), .int (gm_238 12), .int (gm_238 13), .int (gm_238 14), .int (gm_238 15), .int (gm_238 16), .int (gm_238 17), .int (gm_238 18), .int (gm_238 19), .int (gm_238 20), .ref (am 4), .int (gm_238 22), .int (gm_238 23), .ref (am 5), .ref (am 6), .int (gm_238 26)])), ((am 1), .inl (eC E 0, 32, .inl ks_239)), ((am 2), .inl (eC E 0, 32, .inl os_240)), ((am 3), .inl (eC E 0, 32, .inl ts_241)), ((am 4), .inl (eC E 0, 3, .inl iq_242)), ((am 5), .inl (eC E 0, 320, .inl mk_243)), ((am 6), .inl (eC E 0, 320, .inl me_244))] := hD1.weaken (fun _ q _ h => hFc q.1 h)
              refine lv_iconst (v := 1) hx hb dX3_feed_125 (by decide) ?_
              have hP9 : va_P (eD E) vwCl (wM E am gm_238 ks_239 os_240 ts_241 iq_242 mk_243 me_244) H := hP
              have hD9 : va_D A (wM E am gm_238 ks_239 os_240 ts_241 iq_242 mk_243 me_244) := hD
              exact W.zret (v := 1) hx hb hr rfl (fun t ht hW => ⟨⟨1, (gm_238, ks_239, os_240, ts_241, iq_242, mk_243, me_244), rfl, hw, ⟨by rw [ht]; exact hP9, hD9⟩⟩, hS.F ht⟩) hS.2.2 dX3_feed_126
            · have hw := hw.2 c_236
              refine lv_aload_n hx hb dX3_feed_107 rfl (lv_at hl 0 rfl) ?_
              refine lv_iload_n hx hb dX3_feed_108 rfl (lv_at hl 1 rfl) ?_
              refine va_put (D := eD E) (ci := 4) (v := .int p0) (ty := .int) (C := RX3) (T := TX3) (N := 27) hx hb hta lay_X3 tyX3 tyX3_ok nmX3 hown hKE.1 hP hD hS 0 rfl rfl 2 (by decide) (hta _ tw_556) (fun _ h9 => h9) rfl (by decide +kernel) rfl rfl (Nat.le_of_ble_eq_true rfl) dX3_feed_109 (fun H locs hP hD hS => ?_)
              have hP : va_P (eD E) vwCl [((am 0), .inr (4, [.int (gm_217 0), .int (gm_217 1), .int p0, .int (gm_217 3), .int (gm_217 4), .ref (am 1), .ref (am 2), .ref (am 3), .int (gm_217 8), .int (gm_217 9), .int (gm_217 10), .int (gm_217 11), .int (gm_217 12), .int (gm_217 13), .int (gm_217 14), .int (gm_217 15), .int (gm_217 16), .int (gm_217 17), .int (gm_217 18), .int (gm_217 19), .int (gm_217 20), .ref (am 4), .int (gm_217 22), .int (gm_217 23), .ref (am 5), .ref (am 6), .int (gm_217 26)])), ((am 1), .inl (eC E 0, 32, .inl ks_218)), ((am 2), .inl (eC E 0, 32, .inl os_219)), ((am 3), .inl (eC E 0, 32, .inl ts_220)), ((am 4), .inl (eC E 0, 3, .inl iq_221)), ((am 5), .inl (eC E 0, 320, .inl mk_222)), ((am 6), .inl (eC E 0, 320, .inl me_223))] H := hP
              have hD : va_D A [((am 0), .inr (4, [.int (gm_217 0), .int (gm_217 1), .int p0, .int (gm_217 3), .int (gm_217 4), .ref (am 1), .ref (am 2), .ref (am 3), .int (gm_217 8), .int (gm_217 9), .int (gm_217 10), .int (gm_217 11), .int (gm_217 12), .int (gm_217 13), .int (gm_217 14), .int (gm_217 15), .int (gm_217 16), .int (gm_217 17), .int (gm_217 18), .int (gm_217 19), .int (gm_217 20), .ref (am 4), .int (gm_217 22), .int (gm_217 23), .ref (am 5), .ref (am 6), .int (gm_217 26)])), ((am 1), .inl (eC E 0, 32, .inl ks_218)), ((am 2), .inl (eC E 0, 32, .inl os_219)), ((am 3), .inl (eC E 0, 32, .inl ts_220)), ((am 4), .inl (eC E 0, 3, .inl iq_221)), ((am 5), .inl (eC E 0, 320, .inl mk_222)), ((am 6), .inl (eC E 0, 320, .inl me_223))] := hD
              refine lv_aload_n hx hb dX3_feed_112 rfl (lv_at hl 0 rfl) ?_
              refine lv_iconst (v := 2) hx hb dX3_feed_113 (by decide) ?_
              refine va_put (D := eD E) (ci := 4) (v := .int 2) (ty := .int) (C := RX3) (T := TX3) (N := 27) hx hb hta lay_X3 tyX3 tyX3_ok nmX3 hown hKE.1 hP hD hS 0 rfl rfl 0 (by decide) (hta _ tw_554) (fun _ h9 => h9) rfl (by decide +kernel) rfl rfl (Nat.le_of_ble_eq_true rfl) dX3_feed_114 (fun H locs hP hD hS => ?_)
              have hP : va_P (eD E) vwCl [((am 0), .inr (4, [.int 2, .int (gm_217 1), .int p0, .int (gm_217 3), .int (gm_217 4), .ref (am 1), .ref (am 2), .ref (am 3), .int (gm_217 8), .int (gm_217 9), .int (gm_217 10), .int (gm_217 11), .int (gm_217 12), .int (gm_217 13), .int (gm_217 14), .int (gm_217 15), .int (gm_217 16), .int (gm_217 17), .int (gm_217 18), .int (gm_217 19), .int (gm_217 20), .ref (am 4), .int (gm_217 22), .int (gm_217 23), .ref (am 5), .ref (am 6), .int (gm_217 26)])), ((am 1), .inl (eC E 0, 32, .inl ks_218)), ((am 2), .inl (eC E 0, 32, .inl os_219)), ((am 3), .inl (eC E 0, 32, .inl ts_220)), ((am 4), .inl (eC E 0, 3, .inl iq_221)), ((am 5), .inl (eC E 0, 320, .inl mk_222)), ((am 6), .inl (eC E 0, 320, .inl me_223))] H := hP
              have hD : va_D A [((am 0), .inr (4, [.int 2, .int (gm_217 1), .int p0, .int (gm_217 3), .int (gm_217 4), .ref (am 1), .ref (am 2), .ref (am 3), .int (gm_217 8), .int (gm_217 9), .int (gm_217 10), .int (gm_217 11), .int (gm_217 12), .int (gm_217 13), .int (gm_217 14), .int (gm_217 15), .int (gm_217 16), .int (gm_217 17), .int (gm_217 18), .int (gm_217 19), .int (gm_217 20), .ref (am 4), .int (gm_217 22), .int (gm_217 23), .ref (am 5), .ref (am 6), .int (gm_217 26)])), ((am 1), .inl (eC E 0, 32, .inl ks_218)), ((am 2), .inl (eC E 0, 32, .inl os_219)), ((am 3), .inl (eC E 0, 32, .inl ts_220)), ((am 4), .inl (eC E 0, 3, .inl iq_221)), ((am 5), .inl (eC E 0, 320, .inl mk_222)), ((am 6), .inl (eC E 0, 320, .inl me_223))] := hD
              refine lv_goto (tgt := 125) hx hb dX3_feed_117 (by decide) ?_
              refine lv_iconst (v := 1) hx hb dX3_feed_125 (by decide) ?_
              have hP9 : va_P (eD E) vwCl (wM E am (upd (upd gm_217 0 2) 2 p0) ks_218 os_219 ts_220 iq_221 mk_222 me_223) H := hP
              have hD9 : va_D A (wM E am (upd (upd gm_217 0 2) 2 p0) ks_218 os_219 ts_220 iq_221 mk_222 me_223) := hD
              exact W.zret (v := 1) hx hb hr rfl (fun t ht hW => ⟨⟨1, ((upd (upd gm_217 0 2) 2 p0), ks_218, os_219, ts_220, iq_221, mk_222, me_223), rfl, hw, ⟨by rw [ht]; exact hP9, hD9⟩⟩, hS.F ht⟩) hS.2.2 dX3_feed_126
        · have hw := hw.1 c_226
          refine lv_iload_n hx hb dX3_feed_41 rfl (lv_at hl 1 rfl) ?_
          refine lv_iconst (v := 1) hx hb dX3_feed_42 (by decide) ?_
          refine lv_iconst (v := 4) hx hb dX3_feed_43 (by decide) ?_
          have hPc : va_P (eD E) vwCl [] H := va_P_nil
          refine vp_callSi (va_Run.run (va_runS (As := [.int p0, .int 1, .int 4]) (rest := []) ⟨hx, hb, hml, hown, hta⟩ (c_X3_isIn E l p0 1 4 _ hw) (pcS (n := 3) hta tw_646 tw_644 tw_6 tw_645 rfl rfl hd_X3_isIn ⟨Nat.le_of_ble_eq_true rfl, Nat.le_of_ble_eq_true rfl⟩) ⟨fbR, fun U hU hW => ⟨rfl, preR.mk hPc hKE hU hW⟩⟩ rfl rfl hl.1 rfl (lv_room (Nat.le_of_ble_eq_true rfl)) dX3_feed_44 ⟨Nat.le_of_ble_eq_true rfl, Nat.le_of_ble_eq_true rfl⟩)) (fun r_245 hw => ?_)
          refine lv_istore_n (lv' := [(2, .int r_245), (0, .ref (am 0)), (1, .int p0)]) hx hb dX3_feed_47 rfl hl (by decide) rfl (fun ls hl => ?_)
          refine lv_aload_n hx hb dX3_feed_48 rfl (lv_at hl 1 rfl) ?_
          refine lv_iload_n hx hb dX3_feed_49 rfl (lv_at hl 2 rfl) ?_
          refine va_put (D := eD E) (ci := 4) (v := .int p0) (ty := .int) (C := RX3) (T := TX3) (N := 27) hx hb hta lay_X3 tyX3 tyX3_ok nmX3 hown hKE.1 hP hD hS 0 rfl rfl 1 (by decide) (hta _ tw_555) (fun _ h9 => h9) rfl (by decide +kernel) rfl rfl (Nat.le_of_ble_eq_true rfl) dX3_feed_50 (fun H locs hP hD hS => ?_)
          have hP : va_P (eD E) vwCl [((am 0), .inr (4, [.int (gm_217 0), .int p0, .int (gm_217 2), .int (gm_217 3), .int (gm_217 4), .ref (am 1), .ref (am 2), .ref (am 3), .int (gm_217 8), .int (gm_217 9), .int (gm_217 10), .int (gm_217 11), .int (gm_217 12), .int (gm_217 13), .int (gm_217 14), .int (gm_217 15), .int (gm_217 16), .int (gm_217 17), .int (gm_217 18), .int (gm_217 19), .int (gm_217 20), .ref (am 4), .int (gm_217 22), .int (gm_217 23), .ref (am 5), .ref (am 6), .int (gm_217 26)])), ((am 1), .inl (eC E 0, 32, .inl ks_218)), ((am 2), .inl (eC E 0, 32, .inl os_219)), ((am 3), .inl (eC E 0, 32, .inl ts_220)), ((am 4), .inl (eC E 0, 3, .inl iq_221)), ((am 5), .inl (eC E 0, 320, .inl mk_222)), ((am 6), .inl (eC E 0, 320, .inl me_223))] H := hP
          have hD : va_D A [((am 0), .inr (4, [.int (gm_217 0), .int p0, .int (gm_217 2), .int (gm_217 3), .int (gm_217 4), .ref (am 1), .ref (am 2), .ref (am 3), .int (gm_217 8), .int (gm_217 9), .int (gm_217 10), .int (gm_217 11), .int (gm_217 12), .int (gm_217 13), .int (gm_217 14), .int (gm_217 15), .int (gm_217 16), .int (gm_217 17), .int (gm_217 18), .int (gm_217 19), .int (gm_217 20), .ref (am 4), .int (gm_217 22), .int (gm_217 23), .ref (am 5), .ref (am 6), .int (gm_217 26)])), ((am 1), .inl (eC E 0, 32, .inl ks_218)), ((am 2), .inl (eC E 0, 32, .inl os_219)), ((am 3), .inl (eC E 0, 32, .inl ts_220)), ((am 4), .inl (eC E 0, 3, .inl iq_221)), ((am 5), .inl (eC E 0, 320, .inl mk_222)), ((am 6), .inl (eC E 0, 320, .inl me_223))] := hD
          refine lv_aload_n hx hb dX3_feed_53 rfl (lv_at hl 1 rfl) ?_
          refine lv_iload_n hx hb dX3_feed_54 rfl (lv_at hl 0 rfl) ?_
          refine lv_if_eq (tgt := 62) hx hb dX3_feed_55 (by decide) (fun c_246 => ?_) (fun c_246 => ?_)
          · have hw := hw.1 c_246
            refine lv_iconst (v := 0) hx hb dX3_feed_62 (by decide) ?_
            refine va_put (D := eD E) (ci := 4) (v := .int 0) (ty := .int) (C := RX3) (T := TX3) (N := 27) hx hb hta lay_X3 tyX3 tyX3_ok nmX3 hown hKE.1 hP hD hS 0 rfl rfl 0 (by decide) (hta _ tw_554) (fun _ h9 => h9) rfl (by decide +kernel) rfl rfl (Nat.le_of_ble_eq_true rfl) dX3_feed_63 (fun H locs hP hD hS => ?_)
            have hP : va_P (eD E) vwCl [((am 0), .inr (4, [.int 0, .int p0, .int (gm_217 2), .int (gm_217 3), .int (gm_217 4), .ref (am 1), .ref (am 2), .ref (am 3), .int (gm_217 8), .int (gm_217 9), .int (gm_217 10), .int (gm_217 11), .int (gm_217 12), .int (gm_217 13), .int (gm_217 14), .int (gm_217 15), .int (gm_217 16), .int (gm_217 17), .int (gm_217 18), .int (gm_217 19), .int (gm_217 20), .ref (am 4), .int (gm_217 22), .int (gm_217 23), .ref (am 5), .ref (am 6), .int (gm_217 26)])), ((am 1), .inl (eC E 0, 32, .inl ks_218)), ((am 2), .inl (eC E 0, 32, .inl os_219)), ((am 3), .inl (eC E 0, 32, .inl ts_220)), ((am 4), .inl (eC E 0, 3, .inl iq_221)), ((am 5), .inl (eC E 0, 320, .inl mk_222)), ((am 6), .inl (eC E 0, 320, .inl me_223))] H := hP
            have hD : va_D A [((am 0), .inr (4, [.int 0, .int p0, .int (gm_217 2), .int (gm_217 3), .int (gm_217 4), .ref (am 1), .ref (am 2), .ref (am 3), .int (gm_217 8), .int (gm_217 9), .int (gm_217 10), .int (gm_217 11), .int (gm_217 12), .int (gm_217 13), .int (gm_217 14), .int (gm_217 15), .int (gm_217 16), .int (gm_217 17), .int (gm_217 18), .int (gm_217 19), .int (gm_217 20), .ref (am 4), .int (gm_217 22), .int (gm_217 23), .ref (am 5), .ref (am 6), .int (gm_217 26)])), ((am 1), .inl (eC E 0, 32, .inl ks_218)), ((am 2), .inl (eC E 0, 32, .inl os_219)), ((am 3), .inl (eC E 0, 32, .inl ts_220)), ((am 4), .inl (eC E 0, 3, .inl iq_221)), ((am 5), .inl (eC E 0, 320, .inl mk_222)), ((am 6), .inl (eC E 0, 320, .inl me_223))] := hD
            refine lv_aload_n hx hb dX3_feed_66 rfl (lv_at hl 1 rfl) ?_
            refine lv_dup hx hb dX3_feed_67 rfl ?_
            refine va_get (D := eD E) (ci := 4) (v := .int (gm_217 3)) (C := RX3) (T := TX3) (N := 27) hx hb hta lay_X3 hown hKE.1 hP 0 rfl rfl 3 (by decide) (hta _ tw_557) (fun _ h9 => h9) rfl dX3_feed_68 ?_
            refine lv_iload_n hx hb dX3_feed_71 rfl (lv_at hl 0 rfl) ?_
            refine lv_if_ne (tgt := 79) hx hb dX3_feed_72 (by decide) (fun c9 => absurd c_246 c9) (fun _ => ?_)
            refine lv_iload_n hx hb dX3_feed_75 rfl (lv_at hl 2 rfl) ?_
            refine lv_if_ne (tgt := 83) hx hb dX3_feed_76 (by decide) (fun c_247 => ?_) (fun c_247 => ?_)
            · have hw := hw.2 c_247
              refine lv_iconst (v := 1) hx hb dX3_feed_83 (by decide) ?_
              refine lv_iadd hx hb dX3_feed_84 ?_
              refine va_put (D := eD E) (ci := 4) (v := .int ((gm_217 3) + 1)) (ty := .int) (C := RX3) (T := TX3) (N := 27) hx hb hta lay_X3 tyX3 tyX3_ok nmX3 hown hKE.1 hP hD hS 0 rfl rfl 3 (by decide) (hta _ tw_557) (fun _ h9 => h9) rfl (by decide +kernel) rfl rfl (Nat.le_of_ble_eq_true rfl) dX3_feed_85 (fun H locs hP hD hS => ?_)
              have hP : va_P (eD E) vwCl [((am 0), .inr (4, [.int 0, .int p0, .int (gm_217 2), .int ((gm_217 3) + 1), .int (gm_217 4), .ref (am 1), .ref (am 2), .ref (am 3), .int (gm_217 8), .int (gm_217 9), .int (gm_217 10), .int (gm_217 11), .int (gm_217 12), .int (gm_217 13), .int (gm_217 14), .int (gm_217 15), .int (gm_217 16), .int (gm_217 17), .int (gm_217 18), .int (gm_217 19), .int (gm_217 20), .ref (am 4), .int (gm_217 22), .int (gm_217 23), .ref (am 5), .ref (am 6), .int (gm_217 26)])), ((am 1), .inl (eC E 0, 32, .inl ks_218)), ((am 2), .inl (eC E 0, 32, .inl os_219)), ((am 3), .inl (eC E 0, 32, .inl ts_220)), ((am 4), .inl (eC E 0, 3, .inl iq_221)), ((am 5), .inl (eC E 0, 320, .inl mk_222)), ((am 6), .inl (eC E 0, 320, .inl me_223))] H := hP
              have hD : va_D A [((am 0), .inr (4, [.int 0, .int p0, .int (gm_217 2), .int ((gm_217 3) + 1), .int (gm_217 4), .ref (am 1), .ref (am 2), .ref (am 3), .int (gm_217 8), .int (gm_217 9), .int (gm_217 10), .int (gm_217 11), .int (gm_217 12), .int (gm_217 13), .int (gm_217 14), .int (gm_217 15), .int (gm_217 16), .int (gm_217 17), .int (gm_217 18), .int (gm_217 19), .int (gm_217 20), .ref (am 4), .int (gm_217 22), .int (gm_217 23), .ref (am 5), .ref (am 6), .int (gm_217 26)])), ((am 1), .inl (eC E 0, 32, .inl ks_218)), ((am 2), .inl (eC E 0, 32, .inl os_219)), ((am 3), .inl (eC E 0, 32, .inl ts_220)), ((am 4), .inl (eC E 0, 3, .inl iq_221)), ((am 5), .inl (eC E 0, 320, .inl mk_222)), ((am 6), .inl (eC E 0, 320, .inl me_223))] := hD
              refine lv_goto (tgt := 125) hx hb dX3_feed_88 (by decide) ?_
              refine lv_iconst (v := 1) hx hb dX3_feed_125 (by decide) ?_
              have hP9 : va_P (eD E) vwCl (wM E am (upd (upd (upd gm_217 0 0) 1 p0) 3 ((gm_217 3) + 1)) ks_218 os_219 ts_220 iq_221 mk_222 me_223) H := hP
              have hD9 : va_D A (wM E am (upd (upd (upd gm_217 0 0) 1 p0) 3 ((gm_217 3) + 1)) ks_218 os_219 ts_220 iq_221 mk_222 me_223) := hD
              exact W.zret (v := 1) hx hb hr rfl (fun t ht hW => ⟨⟨1, ((upd (upd (upd gm_217 0 0) 1 p0) 3 ((gm_217 3) + 1)), ks_218, os_219, ts_220, iq_221, mk_222, me_223), rfl, hw, ⟨by rw [ht]; exact hP9, hD9⟩⟩, hS.F ht⟩) hS.2.2 dX3_feed_126
            · have hw := hw.1 c_247
              refine lv_iconst (v := 0) hx hb dX3_feed_79 (by decide) ?_
              refine lv_goto (tgt := 84) hx hb dX3_feed_80 (by decide) ?_
              refine lv_iadd hx hb dX3_feed_84 ?_
              refine va_put (D := eD E) (ci := 4) (v := .int ((gm_217 3) + 0)) (ty := .int) (C := RX3) (T := TX3) (N := 27) hx hb hta lay_X3 tyX3 tyX3_ok nmX3 hown hKE.1 hP hD hS 0 rfl rfl 3 (by decide) (hta _ tw_557) (fun _ h9 => h9) rfl (by decide +kernel) rfl rfl (Nat.le_of_ble_eq_true rfl) dX3_feed_85 (fun H locs hP hD hS => ?_)
              have hP : va_P (eD E) vwCl [((am 0), .inr (4, [.int 0, .int p0, .int (gm_217 2), .int ((gm_217 3) + 0), .int (gm_217 4), .ref (am 1), .ref (am 2), .ref (am 3), .int (gm_217 8), .int (gm_217 9), .int (gm_217 10), .int (gm_217 11), .int (gm_217 12), .int (gm_217 13), .int (gm_217 14), .int (gm_217 15), .int (gm_217 16), .int (gm_217 17), .int (gm_217 18), .int (gm_217 19), .int (gm_217 20), .ref (am 4), .int (gm_217 22), .int (gm_217 23), .ref (am 5), .ref (am 6), .int (gm_217 26)])), ((am 1), .inl (eC E 0, 32, .inl ks_218)), ((am 2), .inl (eC E 0, 32, .inl os_219)), ((am 3), .inl (eC E 0, 32, .inl ts_220)), ((am 4), .inl (eC E 0, 3, .inl iq_221)), ((am 5), .inl (eC E 0, 320, .inl mk_222)), ((am 6), .inl (eC E 0, 320, .inl me_223))] H := hP
              have hD : va_D A [((am 0), .inr (4, [.int 0, .int p0, .int (gm_217 2), .int ((gm_217 3) + 0), .int (gm_217 4), .ref (am 1), .ref (am 2), .ref (am 3), .int (gm_217 8), .int (gm_217 9), .int (gm_217 10), .int (gm_217 11), .int (gm_217 12), .int (gm_217 13), .int (gm_217 14), .int (gm_217 15), .int (gm_217 16), .int (gm_217 17), .int (gm_217 18), .int (gm_217 19), .int (gm_217 20), .ref (am 4), .int (gm_217 22), .int (gm_217 23), .ref (am 5), .ref (am 6), .int (gm_217 26)])), ((am 1), .inl (eC E 0, 32, .inl ks_218)), ((am 2), .inl (eC E 0, 32, .inl os_219)), ((am 3), .inl (eC E 0, 32, .inl ts_220)), ((am 4), .inl (eC E 0, 3, .inl iq_221)), ((am 5), .inl (eC E 0, 320, .inl mk_222)), ((am 6), .inl (eC E 0, 320, .inl me_223))] := hD
              refine lv_goto (tgt := 125) hx hb dX3_feed_88 (by decide) ?_
              refine lv_iconst (v := 1) hx hb dX3_feed_125 (by decide) ?_
              have hP9 : va_P (eD E) vwCl (wM E am (upd (upd (upd gm_217 0 0) 1 p0) 3 ((gm_217 3) + 0)) ks_218 os_219 ts_220 iq_221 mk_222 me_223) H := hP
              have hD9 : va_D A (wM E am (upd (upd (upd gm_217 0 0) 1 p0) 3 ((gm_217 3) + 0)) ks_218 os_219 ts_220 iq_221 mk_222 me_223) := hD
              exact W.zret (v := 1) hx hb hr rfl (fun t ht hW => ⟨⟨1, ((upd (upd (upd gm_217 0 0) 1 p0) 3 ((gm_217 3) + 0)), ks_218, os_219, ts_220, iq_221, mk_222, me_223), rfl, hw, ⟨by rw [ht]; exact hP9, hD9⟩⟩, hS.F ht⟩) hS.2.2 dX3_feed_126
          · have hw := hw.2 c_246
            refine lv_iconst (v := 1) hx hb dX3_feed_58 (by decide) ?_
            refine lv_goto (tgt := 63) hx hb dX3_feed_59 (by decide) ?_
            refine va_put (D := eD E) (ci := 4) (v := .int 1) (ty := .int) (C := RX3) (T := TX3) (N := 27) hx hb hta lay_X3 tyX3 tyX3_ok nmX3 hown hKE.1 hP hD hS 0 rfl rfl 0 (by decide) (hta _ tw_554) (fun _ h9 => h9) rfl (by decide +kernel) rfl rfl (Nat.le_of_ble_eq_true rfl) dX3_feed_63 (fun H locs hP hD hS => ?_)
            have hP : va_P (eD E) vwCl [((am 0), .inr (4, [.int 1, .int p0, .int (gm_217 2), .int (gm_217 3), .int (gm_217 4), .ref (am 1), .ref (am 2), .ref (am 3), .int (gm_217 8), .int (gm_217 9), .int (gm_217 10), .int (gm_217 11), .int (gm_217 12), .int (gm_217 13), .int (gm_217 14), .int (gm_217 15), .int (gm_217 16), .int (gm_217 17), .int (gm_217 18), .int (gm_217 19), .int (gm_217 20), .ref (am 4), .int (gm_217 22), .int (gm_217 23), .ref (am 5), .ref (am 6), .int (gm_217 26)])), ((am 1), .inl (eC E 0, 32, .inl ks_218)), ((am 2), .inl (eC E 0, 32, .inl os_219)), ((am 3), .inl (eC E 0, 32, .inl ts_220)), ((am 4), .inl (eC E 0, 3, .inl iq_221)), ((am 5), .inl (eC E 0, 320, .inl mk_222)), ((am 6), .inl (eC E 0, 320, .inl me_223))] H := hP
            have hD : va_D A [((am 0), .inr (4, [.int 1, .int p0, .int (gm_217 2), .int (gm_217 3), .int (gm_217 4), .ref (am 1), .ref (am 2), .ref (am 3), .int (gm_217 8), .int (gm_217 9), .int (gm_217 10), .int (gm_217 11), .int (gm_217 12), .int (gm_217 13), .int (gm_217 14), .int (gm_217 15), .int (gm_217 16), .int (gm_217 17), .int (gm_217 18), .int (gm_217 19), .int (gm_217 20), .ref (am 4), .int (gm_217 22), .int (gm_217 23), .ref (am 5), .ref (am 6), .int (gm_217 26)])), ((am 1), .inl (eC E 0, 32, .inl ks_218)), ((am 2), .inl (eC E 0, 32, .inl os_219)), ((am 3), .inl (eC E 0, 32, .inl ts_220)), ((am 4), .inl (eC E 0, 3, .inl iq_221)), ((am 5), .inl (eC E 0, 320, .inl mk_222)), ((am 6), .inl (eC E 0, 320, .inl me_223))] := hD
            refine lv_aload_n hx hb dX3_feed_66 rfl (lv_at hl 1 rfl) ?_
            refine lv_dup hx hb dX3_feed_67 rfl ?_
            refine va_get (D := eD E) (ci := 4) (v := .int (gm_217 3)) (C := RX3) (T := TX3) (N := 27) hx hb hta lay_X3 hown hKE.1 hP 0 rfl rfl 3 (by decide) (hta _ tw_557) (fun _ h9 => h9) rfl dX3_feed_68 ?_
            refine lv_iload_n hx hb dX3_feed_71 rfl (lv_at hl 0 rfl) ?_
            refine lv_if_ne (tgt := 79) hx hb dX3_feed_72 (by decide) (fun _ => ?_) (fun c9 => absurd c9 c_246)
            refine lv_iconst (v := 0) hx hb dX3_feed_79 (by decide) ?_
            refine lv_goto (tgt := 84) hx hb dX3_feed_80 (by decide) ?_
            refine lv_iadd hx hb dX3_feed_84 ?_
            refine va_put (D := eD E) (ci := 4) (v := .int ((gm_217 3) + 0)) (ty := .int) (C := RX3) (T := TX3) (N := 27) hx hb hta lay_X3 tyX3 tyX3_ok nmX3 hown hKE.1 hP hD hS 0 rfl rfl 3 (by decide) (hta _ tw_557) (fun _ h9 => h9) rfl (by decide +kernel) rfl rfl (Nat.le_of_ble_eq_true rfl) dX3_feed_85 (fun H locs hP hD hS => ?_)
            have hP : va_P (eD E) vwCl [((am 0), .inr (4, [.int 1, .int p0, .int (gm_217 2), .int ((gm_217 3) + 0), .int (gm_217 4), .ref (am 1), .ref (am 2), .ref (am 3), .int (gm_217 8), .int (gm_217 9), .int (gm_217 10), .int (gm_217 11), .int (gm_217 12), .int (gm_217 13), .int (gm_217 14), .int (gm_217 15), .int (gm_217 16), .int (gm_217 17), .int (gm_217 18), .int (gm_217 19), .int (gm_217 20), .ref (am 4), .int (gm_217 22), .int (gm_217 23), .ref (am 5), .ref (am 6), .int (gm_217 26)])), ((am 1), .inl (eC E 0, 32, .inl ks_218)), ((am 2), .inl (eC E 0, 32, .inl os_219)), ((am 3), .inl (eC E 0, 32, .inl ts_220)), ((am 4), .inl (eC E 0, 3, .inl iq_221)), ((am 5), .inl (eC E 0, 320, .inl mk_222)), ((am 6), .inl (eC E 0, 320, .inl me_223))] H := hP
            have hD : va_D A [((am 0), .inr (4, [.int 1, .int p0, .int (gm_217 2), .int ((gm_217 3) + 0), .int (gm_217 4), .ref (am 1), .ref (am 2), .ref (am 3), .int (gm_217 8), .int (gm_217 9), .int (gm_217 10), .int (gm_217 11), .int (gm_217 12), .int (gm_217 13), .int (gm_217 14), .int (gm_217 15), .int (gm_217 16), .int (gm_217 17), .int (gm_217 18), .int (gm_217 19), .int (gm_217 20), .ref (am 4), .int (gm_217 22), .int (gm_217 23), .ref (am 5), .ref (am 6), .int (gm_217 26)])), ((am 1), .inl (eC E 0, 32, .inl ks_218)), ((am 2), .inl (eC E 0, 32, .inl os_219)), ((am 3), .inl (eC E 0, 32, .inl ts_220)), ((am 4), .inl (eC E 0, 3, .inl iq_221)), ((am 5), .inl (eC E 0, 320, .inl mk_222)), ((am 6), .inl (eC E 0, 320, .inl me_223))] := hD
            refine lv_goto (tgt := 125) hx hb dX3_feed_88 (by decide) ?_
            refine lv_iconst (v := 1) hx hb dX3_feed_125 (by decide) ?_
            have hP9 : va_P (eD E) vwCl (wM E am (upd (upd (upd gm_217 0 1) 1 p0) 3 ((gm_217 3) + 0)) ks_218 os_219 ts_220 iq_221 mk_222 me_223) H := hP
            have hD9 : va_D A (wM E am (upd (upd (upd gm_217 0 1) 1 p0) 3 ((gm_217 3) + 0)) ks_218 os_219 ts_220 iq_221 mk_222 me_223) := hD
            exact W.zret (v := 1) hx hb hr rfl (fun t ht hW => ⟨⟨1, ((upd (upd (upd gm_217 0 1) 1 p0) 3 ((gm_217 3) + 0)), ks_218, os_219, ts_220, iq_221, mk_222, me_223), rfl, hw, ⟨by rw [ht]; exact hP9, hD9⟩⟩, hS.F ht⟩) hS.2.2 dX3_feed_126
      · have hw := hw.2 c_225
        refine lv_iconst (v := 0) hx hb dX3_feed_32 (by decide) ?_
        have hP9 : va_P (eD E) vwCl (wM E am gm_217 ks_218 os_219 ts_220 iq_221 mk_222 me_223) H := hP
        have hD9 : va_D A (wM E am gm_217 ks_218 os_219 ts_220 iq_221 mk_222 me_223) := hD
        exact W.zret (v := 0) hx hb hr rfl (fun t ht hW => ⟨⟨0, (gm_217, ks_218, os_219, ts_220, iq_221, mk_222, me_223), rfl, hw, ⟨by rw [ht]; exact hP9, hD9⟩⟩, hS.F ht⟩) hS.2.2 dX3_feed_33
  · have hw := hw.2 c_215
    refine lv_iconst (v := 0) hx hb dX3_feed_12 (by decide) ?_
    refine lv_goto (tgt := 17) hx hb dX3_feed_13 (by decide) ?_
    have hPc : va_P (eD E) vwCl (wM E am gm ks os ts iq mk me) s.heap := hP
    have hDc : va_D A (wM E am gm ks os ts iq mk me) := hD
    have hFc : ∀ q, va_A (wM E am gm ks os ts iq mk me) s.heap.size q → A q := frS hDc hS hA
    refine va_calli (va_runV (As := [.int 0]) (rest := []) ⟨hx, hb, hml, hown, hta⟩ (c_X3_goes E l am gm ks os ts iq mk me 0 s.heap.size _ hw) (pcV (n := 1) hta tw_650 tw_647 tw_6 tw_649 tp_32 rfl rfl hd_X3_goes ⟨Nat.le_of_ble_eq_true rfl, Nat.le_of_ble_eq_true rfl⟩) ⟨fbM, va_recv hKE.1 hP (ci := 4) (q0 := 0) rfl rfl, fun U hU hW => ⟨rfl, preM.mk hPc hKE hDc hZ hS hFc hU hW⟩⟩ rfl rfl hl.1 rfl (lv_room (Nat.le_of_ble_eq_true rfl)) dX3_feed_17 ⟨Nat.le_of_ble_eq_true rfl, Nat.le_of_ble_eq_true rfl⟩) hS (fun q _ h => hFc q h) hFc (fun r_248 u t H locs ht hvm hw hB hz1 hk1 hS => ?_)
    obtain ⟨gm_249, ks_250, os_251, ts_252, iq_253, mk_254, me_255⟩ := u
    obtain ⟨hP1, hD1⟩ := hB
    rw [ht] at hP1
    try dsimp only at hw hP1 hD1
    have hP : va_P (eD E) vwCl [((am 0), .inr (4, [.int (gm_249 0), .int (gm_249 1), .int (gm_249 2), .int (gm_249 3), .int (gm_249 4), .ref (am 1), .ref (am 2), .ref (am 3), .int (gm_249 8), .int (gm_249 9), .int (gm_249 10), .int (gm_249 11), .int (gm_249 12), .int (gm_249 13), .int (gm_249 14), .int (gm_249 15), .int (gm_249 16), .int (gm_249 17), .int (gm_249 18), .int (gm_249 19), .int (gm_249 20), .ref (am 4), .int (gm_249 22), .int (gm_249 23), .ref (am 5), .ref (am 6), .int (gm_249 26)])), ((am 1), .inl (eC E 0, 32, .inl ks_250)), ((am 2), .inl (eC E 0, 32, .inl os_251)), ((am 3), .inl (eC E 0, 32, .inl ts_252)), ((am 4), .inl (eC E 0, 3, .inl iq_253)), ((am 5), .inl (eC E 0, 320, .inl mk_254)), ((am 6), .inl (eC E 0, 320, .inl me_255))] H := hP1
    have hD : va_D A [((am 0), .inr (4, [.int (gm_249 0), .int (gm_249 1), .int (gm_249 2), .int (gm_249 3), .int (gm_249 4), .ref (am 1), .ref (am 2), .ref (am 3), .int (gm_249 8), .int (gm_249 9), .int (gm_249 10), .int (gm_249 11), .int (gm_249 12), .int (gm_249 13), .int (gm_249 14), .int (gm_249 15), .int (gm_249 16), .int (gm_249 17), .int (gm_249 18), .int (gm_249 19), .int (gm_249 20), .ref (am 4), .int (gm_249 22), .int (gm_249 23), .ref (am 5), .ref (am 6), .int (gm_249 26)])), ((am 1), .inl (eC E 0, 32, .inl ks_250)), ((am 2), .inl (eC E 0, 32, .inl os_251)), ((am 3), .inl (eC E 0, 32, .inl ts_252)), ((am 4), .inl (eC E 0, 3, .inl iq_253)), ((am 5), .inl (eC E 0, 320, .inl mk_254)), ((am 6), .inl (eC E 0, 320, .inl me_255))] := hD1.weaken (fun _ q _ h => hFc q.1 h)
    refine lv_if_eq (tgt := 32) hx hb dX3_feed_20 (by decide) (fun c_256 => ?_) (fun c_256 => ?_)
    · have hw := hw.1 c_256
      refine lv_iconst (v := 0) hx hb dX3_feed_32 (by decide) ?_
      have hP9 : va_P (eD E) vwCl (wM E am gm_249 ks_250 os_251 ts_252 iq_253 mk_254 me_255) H := hP
      have hD9 : va_D A (wM E am gm_249 ks_250 os_251 ts_252 iq_253 mk_254 me_255) := hD
      exact W.zret (v := 0) hx hb hr rfl (fun t ht hW => ⟨⟨0, (gm_249, ks_250, os_251, ts_252, iq_253, mk_254, me_255), rfl, hw, ⟨by rw [ht]; exact hP9, hD9⟩⟩, hS.F ht⟩) hS.2.2 dX3_feed_33
    · have hw := hw.2 c_256
      refine lv_aload_n hx hb dX3_feed_23 rfl (lv_at hl 0 rfl) ?_
      refine va_get (D := eD E) (ci := 4) (v := .int (gm_249 4)) (C := RX3) (T := TX3) (N := 27) hx hb hta lay_X3 hown hKE.1 hP 0 rfl rfl 4 (by decide) (hta _ tw_558) (fun _ h9 => h9) rfl dX3_feed_24 ?_
      refine lv_bipush (v := 8) hx hb dX3_feed_27 (by decide) ?_
      refine lv_icmp_lt (tgt := 34) hx hb dX3_feed_29 (by decide) (fun c_257 => ?_) (fun c_257 => ?_)
      · have hw := hw.1 c_257
        refine lv_aload_n hx hb dX3_feed_34 rfl (lv_at hl 0 rfl) ?_
        refine va_get (D := eD E) (ci := 4) (v := .int (gm_249 0)) (C := RX3) (T := TX3) (N := 27) hx hb hta lay_X3 hown hKE.1 hP 0 rfl rfl 0 (by decide) (hta _ tw_554) (fun _ h9 => h9) rfl dX3_feed_35 ?_
        refine lv_if_ne (tgt := 91) hx hb dX3_feed_38 (by decide) (fun c_258 => ?_) (fun c_258 => ?_)
        · have hw := hw.2 c_258
          refine lv_aload_n hx hb dX3_feed_91 rfl (lv_at hl 0 rfl) ?_
          refine va_get (D := eD E) (ci := 4) (v := .int (gm_249 0)) (C := RX3) (T := TX3) (N := 27) hx hb hta lay_X3 hown hKE.1 hP 0 rfl rfl 0 (by decide) (hta _ tw_554) (fun _ h9 => h9) rfl dX3_feed_92 ?_
          refine lv_iconst (v := 1) hx hb dX3_feed_95 (by decide) ?_
          refine lv_icmp_ne (tgt := 120) hx hb dX3_feed_96 (by decide) (fun c_259 => ?_) (fun c_259 => ?_)
          · have hw := hw.2 c_259
            refine lv_aload_n hx hb dX3_feed_120 rfl (lv_at hl 0 rfl) ?_
            refine lv_iload_n hx hb dX3_feed_121 rfl (lv_at hl 1 rfl) ?_
            have hPc : va_P (eD E) vwCl (wM E am gm_249 ks_250 os_251 ts_252 iq_253 mk_254 me_255) H := hP
            have hDc : va_D A (wM E am gm_249 ks_250 os_251 ts_252 iq_253 mk_254 me_255) := hD
            have hFc : ∀ q, va_A (wM E am gm_249 ks_250 os_251 ts_252 iq_253 mk_254 me_255) H.size q → A q := frS hDc hS hA
            refine va_callv (va_runV (As := [.int p0]) (rest := []) ⟨hx, hb, hml, hown, hta⟩ (c_X3_isWhole E l am gm_249 ks_250 os_251 ts_252 iq_253 mk_254 me_255 p0 H.size _ hw) (pcV (n := 1) hta tw_654 tw_651 tw_6 tw_653 tp_33 rfl rfl hd_X3_isWhole ⟨Nat.le_of_ble_eq_true rfl, Nat.le_of_ble_eq_true rfl⟩) ⟨fbM, va_recv hKE.1 hP (ci := 4) (q0 := 0) rfl rfl, fun U hU hW => ⟨rfl, preM.mk hPc hKE hDc hZ hS hFc hU hW⟩⟩ rfl rfl hl.1 rfl (lv_room (Nat.le_of_ble_eq_true rfl)) dX3_feed_122 ⟨Nat.le_of_ble_eq_true rfl, Nat.le_of_ble_eq_true rfl⟩) hS (fun q _ h => hFc q h) hFc (fun u t H locs ht hvm hw hB hz1 hk1 hS => ?_)
            obtain ⟨gm_261, ks_262, os_263, ts_264, iq_265, mk_266, me_267⟩ := u
            obtain ⟨hP1, hD1⟩ := hB
            rw [ht] at hP1
            try dsimp only at hw hP1 hD1
            have hP : va_P (eD E) vwCl [((am 0), .inr (4, [.int (gm_261 0), .int (gm_261 1), .int (gm_261 2), .int (gm_261 3), .int (gm_261 4), .ref (am 1), .ref (am 2), .ref (am 3), .int (gm_261 8), .int (gm_261 9), .int (gm_261 10), .int (gm_261 11), .int (gm_261 12), .int (gm_261 13), .int (gm_261 14), .int (gm_261 15), .int (gm_261 16), .int (gm_261 17), .int (gm_261 18), .int (gm_261 19), .int (gm_261 20), .ref (am 4), .int (gm_261 22), .int (gm_261 23), .ref (am 5), .ref (am 6), .int (gm_261 26)])), ((am 1), .inl (eC E 0, 32, .inl ks_262)), ((am 2), .inl (eC E 0, 32, .inl os_263)), ((am 3), .inl (eC E 0, 32, .inl ts_264)), ((am 4), .inl (eC E 0, 3, .inl iq_265)), ((am 5), .inl (eC E 0, 320, .inl mk_266)), ((am 6), .inl (eC E 0, 320, .inl me_267))] H := hP1
            have hD : va_D A [((am 0), .inr (4, [.int (gm_261 0), .int (gm_261 1), .int (gm_261 2), .int (gm_261 3), .int (gm_261 4), .ref (am 1), .ref (am 2), .ref (am 3), .int (gm_261 8), .int (gm_261 9), .int (gm_261 10), .int (gm_261 11), .int (gm_261 12), .int (gm_261 13), .int (gm_261 14), .int (gm_261 15), .int (gm_261 16), .int (gm_261 17), .int (gm_261 18), .int (gm_261 19), .int (gm_261 20), .ref (am 4), .int (gm_261 22), .int (gm_261 23), .ref (am 5), .ref (am 6), .int (gm_261 26)])), ((am 1), .inl (eC E 0, 32, .inl ks_262)), ((am 2), .inl (eC E 0, 32, .inl os_263)), ((am 3), .inl (eC E 0, 32, .inl ts_264)), ((am 4), .inl (eC E 0, 3, .inl iq_265)), ((am 5), .inl (eC E 0, 320, .inl mk_266)), ((am 6), .inl (eC E 0, 320, .inl me_267))] := hD1.weaken (fun _ q _ h => hFc q.1 h)
            refine lv_iconst (v := 1) hx hb dX3_feed_125 (by decide) ?_
            have hP9 : va_P (eD E) vwCl (wM E am gm_261 ks_262 os_263 ts_264 iq_265 mk_266 me_267) H := hP
            have hD9 : va_D A (wM E am gm_261 ks_262 os_263 ts_264 iq_265 mk_266 me_267) := hD
            exact W.zret (v := 1) hx hb hr rfl (fun t ht hW => ⟨⟨1, (gm_261, ks_262, os_263, ts_264, iq_265, mk_266, me_267), rfl, hw, ⟨by rw [ht]; exact hP9, hD9⟩⟩, hS.F ht⟩) hS.2.2 dX3_feed_126
          · have hw := hw.1 c_259
            refine lv_aload_n hx hb dX3_feed_99 rfl (lv_at hl 0 rfl) ?_
            refine va_get (D := eD E) (ci := 4) (v := .int (gm_249 1)) (C := RX3) (T := TX3) (N := 27) hx hb hta lay_X3 hown hKE.1 hP 0 rfl rfl 1 (by decide) (hta _ tw_555) (fun _ h9 => h9) rfl dX3_feed_100 ?_
            refine lv_iconst (v := 2) hx hb dX3_feed_103 (by decide) ?_
            refine lv_icmp_gt (tgt := 120) hx hb dX3_feed_104 (by decide) (fun c_268 => ?_) (fun c_268 => ?_)
            · have hw := hw.1 c_268
              refine lv_aload_n hx hb dX3_feed_120 rfl (lv_at hl 0 rfl) ?_
              refine lv_iload_n hx hb dX3_feed_121 rfl (lv_at hl 1 rfl) ?_
              have hPc : va_P (eD E) vwCl (wM E am gm_249 ks_250 os_251 ts_252 iq_253 mk_254 me_255) H := hP
              have hDc : va_D A (wM E am gm_249 ks_250 os_251 ts_252 iq_253 mk_254 me_255) := hD
              have hFc : ∀ q, va_A (wM E am gm_249 ks_250 os_251 ts_252 iq_253 mk_254 me_255) H.size q → A q := frS hDc hS hA
              refine va_callv (va_runV (As := [.int p0]) (rest := []) ⟨hx, hb, hml, hown, hta⟩ (c_X3_isWhole E l am gm_249 ks_250 os_251 ts_252 iq_253 mk_254 me_255 p0 H.size _ hw) (pcV (n := 1) hta tw_654 tw_651 tw_6 tw_653 tp_33 rfl rfl hd_X3_isWhole ⟨Nat.le_of_ble_eq_true rfl, Nat.le_of_ble_eq_true rfl⟩) ⟨fbM, va_recv hKE.1 hP (ci := 4) (q0 := 0) rfl rfl, fun U hU hW => ⟨rfl, preM.mk hPc hKE hDc hZ hS hFc hU hW⟩⟩ rfl rfl hl.1 rfl (lv_room (Nat.le_of_ble_eq_true rfl)) dX3_feed_122 ⟨Nat.le_of_ble_eq_true rfl, Nat.le_of_ble_eq_true rfl⟩) hS (fun q _ h => hFc q h) hFc (fun u t H locs ht hvm hw hB hz1 hk1 hS => ?_)
              obtain ⟨gm_270, ks_271, os_272, ts_273, iq_274, mk_275, me_276⟩ := u
              obtain ⟨hP1, hD1⟩ := hB
              rw [ht] at hP1
              try dsimp only at hw hP1 hD1
              have hP : va_P (eD E) vwCl [((am 0), .inr (4, [.int (gm_270 0), .int (gm_270 1), .int (gm_270 2), .int (gm_270 3), .int (gm_270 4), .ref (am 1), .ref (am 2), .ref (am 3), .int (gm_270 8), .int (gm_270 9), .int (gm_270 10), .int (gm_270 11), .int (gm_270 12), .int (gm_270 13), .int (gm_270 14), .int (gm_270 15), .int (gm_270 16), .int (gm_270 17), .int (gm_270 18), .int (gm_270 19), .int (gm_270 20), .ref (am 4), .int (gm_270 22), .int (gm_270 23), .ref (am 5), .ref (am 6), .int (gm_270 26)])), ((am 1), .inl (eC E 0, 32, .inl ks_271)), ((am 2), .inl (eC E 0, 32, .inl os_272)), ((am 3), .inl (eC E 0, 32, .inl ts_273)), ((am 4), .inl (eC E 0, 3, .inl iq_274)), ((am 5), .inl (eC E 0, 320, .inl mk_275)), ((am 6), .inl (eC E 0, 320, .inl me_276))] H := hP1
              have hD : va_D A [((am 0), .inr (4, [.int (gm_270 0), .int (gm_270 1), .int (gm_270 2), .int (gm_270 3), .int (gm_270 4), .ref (am 1), .ref (am 2), .ref (am 3), .int (gm_270 8), .int (gm_270 9), .int (gm_270 10), .int (gm_270 11), .int (gm_270 12), .int (gm_270 13), .int (gm_270 14), .int (gm_270 15), .int (gm_270 16), .int (gm_270 17), .int (gm_270 18), .int (gm_270 19), .int (gm_270 20), .ref (am 4), .int (gm_270 22), .int (gm_270 23), .ref (am 5), .ref (am 6), .int (gm_270 26)])), ((am 1), .inl (eC E 0, 32, .inl ks_271)), ((am 2), .inl (eC E 0, 32, .inl os_272)), ((am 3), .inl (eC E 0, 32, .inl ts_273)), ((am 4), .inl (eC E 0, 3, .inl iq_274)), ((am 5), .inl (eC E 0, 320, .inl mk_275)), ((am 6), .inl (eC E 0, 320, .inl me_276))] := hD1.weaken (fun _ q _ h => hFc q.1 h)
              refine lv_iconst (v := 1) hx hb dX3_feed_125 (by decide) ?_
              have hP9 : va_P (eD E) vwCl (wM E am gm_270 ks_271 os_272 ts_273 iq_274 mk_275 me_276) H := hP
              have hD9 : va_D A (wM E am gm_270 ks_271 os_272 ts_273 iq_274 mk_275 me_276) := hD
              exact W.zret (v := 1) hx hb hr rfl (fun t ht hW => ⟨⟨1, (gm_270, ks_271, os_272, ts_273, iq_274, mk_275, me_276), rfl, hw, ⟨by rw [ht]; exact hP9, hD9⟩⟩, hS.F ht⟩) hS.2.2 dX3_feed_126
            · have hw := hw.2 c_268
              refine lv_aload_n hx hb dX3_feed_107 rfl (lv_at hl 0 rfl) ?_
              refine lv_iload_n hx hb dX3_feed_108 rfl (lv_at hl 1 rfl) ?_
              refine va_put (D := eD E) (ci := 4) (v := .int p0) (ty := .int) (C := RX3) (T := TX3) (N := 27) hx hb hta lay_X3 tyX3 tyX3_ok nmX3 hown hKE.1 hP hD hS 0 rfl rfl 2 (by decide) (hta _ tw_556) (fun _ h9 => h9) rfl (by decide +kernel) rfl rfl (Nat.le_of_ble_eq_true rfl) dX3_feed_109 (fun H locs hP hD hS => ?_)
              have hP : va_P (eD E) vwCl [((am 0), .inr (4, [.int (gm_249 0), .int (gm_249 1), .int p0, .int (gm_249 3), .int (gm_249 4), .ref (am 1), .ref (am 2), .ref (am 3), .int (gm_249 8), .int (gm_249 9), .int (gm_249 10), .int (gm_249 11), .int (gm_249 12), .int (gm_249 13), .int (gm_249 14), .int (gm_249 15), .int (gm_249 16), .int (gm_249 17), .int (gm_249 18), .int (gm_249 19), .int (gm_249 20), .ref (am 4), .int (gm_249 22), .int (gm_249 23), .ref (am 5), .ref (am 6), .int (gm_249 26)])), ((am 1), .inl (eC E 0, 32, .inl ks_250)), ((am 2), .inl (eC E 0, 32, .inl os_251)), ((am 3), .inl (eC E 0, 32, .inl ts_252)), ((am 4), .inl (eC E 0, 3, .inl iq_253)), ((am 5), .inl (eC E 0, 320, .inl mk_254)), ((am 6), .inl (eC E 0, 320, .inl me_255))] H := hP
              have hD : va_D A [((am 0), .inr (4, [.int (gm_249 0), .int (gm_249 1), .int p0, .int (gm_249 3), .int (gm_249 4), .ref (am 1), .ref (am 2), .ref (am 3), .int (gm_249 8), .int (gm_249 9), .int (gm_249 10), .int (gm_249 11), .int (gm_249 12), .int (gm_249 13), .int (gm_249 14), .int (gm_249 15), .int (gm_249 16), .int (gm_249 17), .int (gm_249 18), .int (gm_249 19), .int (gm_249 20), .ref (am 4), .int (gm_249 22), .int (gm_249 23), .ref (am 5), .ref (am 6), .int (gm_249 26)])), ((am 1), .inl (eC E 0, 32, .inl ks_250)), ((am 2), .inl (eC E 0, 32, .inl os_251)), ((am 3), .inl (eC E 0, 32, .inl ts_252)), ((am 4), .inl (eC E 0, 3, .inl iq_253)), ((am 5), .inl (eC E 0, 320, .inl mk_254)), ((am 6), .inl (eC E 0, 320, .inl me_255))] := hD
              refine lv_aload_n hx hb dX3_feed_112 rfl (lv_at hl 0 rfl) ?_
              refine lv_iconst (v := 2) hx hb dX3_feed_113 (by decide) ?_
              refine va_put (D := eD E) (ci := 4) (v := .int 2) (ty := .int) (C := RX3) (T := TX3) (N := 27) hx hb hta lay_X3 tyX3 tyX3_ok nmX3 hown hKE.1 hP hD hS 0 rfl rfl 0 (by decide) (hta _ tw_554) (fun _ h9 => h9) rfl (by decide +kernel) rfl rfl (Nat.le_of_ble_eq_true rfl) dX3_feed_114 (fun H locs hP hD hS => ?_)
              have hP : va_P (eD E) vwCl [((am 0), .inr (4, [.int 2, .int (gm_249 1), .int p0, .int (gm_249 3), .int (gm_249 4), .ref (am 1), .ref (am 2), .ref (am 3), .int (gm_249 8), .int (gm_249 9), .int (gm_249 10), .int (gm_249 11), .int (gm_249 12), .int (gm_249 13), .int (gm_249 14), .int (gm_249 15), .int (gm_249 16), .int (gm_249 17), .int (gm_249 18), .int (gm_249 19), .int (gm_249 20), .ref (am 4), .int (gm_249 22), .int (gm_249 23), .ref (am 5), .ref (am 6), .int (gm_249 26)])), ((am 1), .inl (eC E 0, 32, .inl ks_250)), ((am 2), .inl (eC E 0, 32, .inl os_251)), ((am 3), .inl (eC E 0, 32, .inl ts_252)), ((am 4), .inl (eC E 0, 3, .inl iq_253)), ((am 5), .inl (eC E 0, 320, .inl mk_254)), ((am 6), .inl (eC E 0, 320, .inl me_255))] H := hP
              have hD : va_D A [((am 0), .inr (4, [.int 2, .int (gm_249 1), .int p0, .int (gm_249 3), .int (gm_249 4), .ref (am 1), .ref (am 2), .ref (am 3), .int (gm_249 8), .int (gm_249 9), .int (gm_249 10), .int (gm_249 11), .int (gm_249 12), .int (gm_249 13), .int (gm_249 14), .int (gm_249 15), .int (gm_249 16), .int (gm_249 17), .int (gm_249 18), .int (gm_249 19), .int (gm_249 20), .ref (am 4), .int (gm_249 22), .int (gm_249 23), .ref (am 5), .ref (am 6), .int (gm_249 26)])), ((am 1), .inl (eC E 0, 32, .inl ks_250)), ((am 2), .inl (eC E 0, 32, .inl os_251)), ((am 3), .inl (eC E 0, 32, .inl ts_252)), ((am 4), .inl (eC E 0, 3, .inl iq_253)), ((am 5), .inl (eC E 0, 320, .inl mk_254)), ((am 6), .inl (eC E 0, 320, .inl me_255))] := hD
              refine lv_goto (tgt := 125) hx hb dX3_feed_117 (by decide) ?_
              refine lv_iconst (v := 1) hx hb dX3_feed_125 (by decide) ?_
              have hP9 : va_P (eD E) vwCl (wM E am (upd (upd gm_249 0 2) 2 p0) ks_250 os_251 ts_252 iq_253 mk_254 me_255) H := hP
              have hD9 : va_D A (wM E am (upd (upd gm_249 0 2) 2 p0) ks_250 os_251 ts_252 iq_253 mk_254 me_255) := hD
              exact W.zret (v := 1) hx hb hr rfl (fun t ht hW => ⟨⟨1, ((upd (upd gm_249 0 2) 2 p0), ks_250, os_251, ts_252, iq_253, mk_254, me_255), rfl, hw, ⟨by rw [ht]; exact hP9, hD9⟩⟩, hS.F ht⟩) hS.2.2 dX3_feed_126
        · have hw := hw.1 c_258
          refine lv_iload_n hx hb dX3_feed_41 rfl (lv_at hl 1 rfl) ?_
          refine lv_iconst (v := 1) hx hb dX3_feed_42 (by decide) ?_
          refine lv_iconst (v := 4) hx hb dX3_feed_43 (by decide) ?_
          have hPc : va_P (eD E) vwCl [] H := va_P_nil
          refine vp_callSi (va_Run.run (va_runS (As := [.int p0, .int 1, .int 4]) (rest := []) ⟨hx, hb, hml, hown, hta⟩ (c_X3_isIn E l p0 1 4 _ hw) (pcS (n := 3) hta tw_646 tw_644 tw_6 tw_645 rfl rfl hd_X3_isIn ⟨Nat.le_of_ble_eq_true rfl, Nat.le_of_ble_eq_true rfl⟩) ⟨fbR, fun U hU hW => ⟨rfl, preR.mk hPc hKE hU hW⟩⟩ rfl rfl hl.1 rfl (lv_room (Nat.le_of_ble_eq_true rfl)) dX3_feed_44 ⟨Nat.le_of_ble_eq_true rfl, Nat.le_of_ble_eq_true rfl⟩)) (fun r_277 hw => ?_)
          refine lv_istore_n (lv' := [(2, .int r_277), (0, .ref (am 0)), (1, .int p0)]) hx hb dX3_feed_47 rfl hl (by decide) rfl (fun ls hl => ?_)
          refine lv_aload_n hx hb dX3_feed_48 rfl (lv_at hl 1 rfl) ?_
          refine lv_iload_n hx hb dX3_feed_49 rfl (lv_at hl 2 rfl) ?_
          refine va_put (D := eD E) (ci := 4) (v := .int p0) (ty := .int) (C := RX3) (T := TX3) (N := 27) hx hb hta lay_X3 tyX3 tyX3_ok nmX3 hown hKE.1 hP hD hS 0 rfl rfl 1 (by decide) (hta _ tw_555) (fun _ h9 => h9) rfl (by decide +kernel) rfl rfl (Nat.le_of_ble_eq_true rfl) dX3_feed_50 (fun H locs hP hD hS => ?_)
          have hP : va_P (eD E) vwCl [((am 0), .inr (4, [.int (gm_249 0), .int p0, .int (gm_249 2), .int (gm_249 3), .int (gm_249 4), .ref (am 1), .ref (am 2), .ref (am 3), .int (gm_249 8), .int (gm_249 9), .int (gm_249 10), .int (gm_249 11), .int (gm_249 12), .int (gm_249 13), .int (gm_249 14), .int (gm_249 15), .int (gm_249 16), .int (gm_249 17), .int (gm_249 18), .int (gm_249 19), .int (gm_249 20), .ref (am 4), .int (gm_249 22), .int (gm_249 23), .ref (am 5), .ref (am 6), .int (gm_249 26)])), ((am 1), .inl (eC E 0, 32, .inl ks_250)), ((am 2), .inl (eC E 0, 32, .inl os_251)), ((am 3), .inl (eC E 0, 32, .inl ts_252)), ((am 4), .inl (eC E 0, 3, .inl iq_253)), ((am 5), .inl (eC E 0, 320, .inl mk_254)), ((am 6), .inl (eC E 0, 320, .inl me_255))] H := hP
          have hD : va_D A [((am 0), .inr (4, [.int (gm_249 0), .int p0, .int (gm_249 2), .int (gm_249 3), .int (gm_249 4), .ref (am 1), .ref (am 2), .ref (am 3), .int (gm_249 8), .int (gm_249 9), .int (gm_249 10), .int (gm_249 11), .int (gm_249 12), .int (gm_249 13), .int (gm_249 14), .int (gm_249 15), .int (gm_249 16), .int (gm_249 17), .int (gm_249 18), .int (gm_249 19), .int (gm_249 20), .ref (am 4), .int (gm_249 22), .int (gm_249 23), .ref (am 5), .ref (am 6), .int (gm_249 26)])), ((am 1), .inl (eC E 0, 32, .inl ks_250)), ((am 2), .inl (eC E 0, 32, .inl os_251)), ((am 3), .inl (eC E 0, 32, .inl ts_252)), ((am 4), .inl (eC E 0, 3, .inl iq_253)), ((am 5), .inl (eC E 0, 320, .inl mk_254)), ((am 6), .inl (eC E 0, 320, .inl me_255))] := hD
          refine lv_aload_n hx hb dX3_feed_53 rfl (lv_at hl 1 rfl) ?_
          refine lv_iload_n hx hb dX3_feed_54 rfl (lv_at hl 0 rfl) ?_
          refine lv_if_eq (tgt := 62) hx hb dX3_feed_55 (by decide) (fun c_278 => ?_) (fun c_278 => ?_)
          · have hw := hw.1 c_278
            refine lv_iconst (v := 0) hx hb dX3_feed_62 (by decide) ?_
            refine va_put (D := eD E) (ci := 4) (v := .int 0) (ty := .int) (C := RX3) (T := TX3) (N := 27) hx hb hta lay_X3 tyX3 tyX3_ok nmX3 hown hKE.1 hP hD hS 0 rfl rfl 0 (by decide) (hta _ tw_554) (fun _ h9 => h9) rfl (by decide +kernel) rfl rfl (Nat.le_of_ble_eq_true rfl) dX3_feed_63 (fun H locs hP hD hS => ?_)
            have hP : va_P (eD E) vwCl [((am 0), .inr (4, [.int 0, .int p0, .int (gm_249 2), .int (gm_249 3), .int (gm_249 4), .ref (am 1), .ref (am 2), .ref (am 3), .int (gm_249 8), .int (gm_249 9), .int (gm_249 10), .int (gm_249 11), .int (gm_249 12), .int (gm_249 13), .int (gm_249 14), .int (gm_249 15), .int (gm_249 16), .int (gm_249 17), .int (gm_249 18), .int (gm_249 19), .int (gm_249 20), .ref (am 4), .int (gm_249 22), .int (gm_249 23), .ref (am 5), .ref (am 6), .int (gm_249 26)])), ((am 1), .inl (eC E 0, 32, .inl ks_250)), ((am 2), .inl (eC E 0, 32, .inl os_251)), ((am 3), .inl (eC E 0, 32, .inl ts_252)), ((am 4), .inl (eC E 0, 3, .inl iq_253)), ((am 5), .inl (eC E 0, 320, .inl mk_254)), ((am 6), .inl (eC E 0, 320, .inl me_255))] H := hP
            have hD : va_D A [((am 0), .inr (4, [.int 0, .int p0, .int (gm_249 2), .int (gm_249 3), .int (gm_249 4), .ref (am 1), .ref (am 2), .ref (am 3), .int (gm_249 8), .int (gm_249 9), .int (gm_249 10), .int (gm_249 11), .int (gm_249 12), .int (gm_249 13), .int (gm_249 14), .int (gm_249 15), .int (gm_249 16), .int (gm_249 17), .int (gm_249 18), .int (gm_249 19), .int (gm_249 20), .ref (am 4), .int (gm_249 22), .int (gm_249 23), .ref (am 5), .ref (am 6), .int (gm_249 26)])), ((am 1), .inl (eC E 0, 32, .inl ks_250)), ((am 2), .inl (eC E 0, 32, .inl os_251)), ((am 3), .inl (eC E 0, 32, .inl ts_252)), ((am 4), .inl (eC E 0, 3, .inl iq_253)), ((am 5), .inl (eC E 0, 320, .inl mk_254)), ((am 6), .inl (eC E 0, 320, .inl me_255))] := hD
            refine lv_aload_n hx hb dX3_feed_66 rfl (lv_at hl 1 rfl) ?_
            refine lv_dup hx hb dX3_feed_67 rfl ?_
            refine va_get (D := eD E) (ci := 4) (v := .int (gm_249 3)) (C := RX3) (T := TX3) (N := 27) hx hb hta lay_X3 hown hKE.1 hP 0 rfl rfl 3 (by decide) (hta _ tw_557) (fun _ h9 => h9) rfl dX3_feed_68 ?_
            refine lv_iload_n hx hb dX3_feed_71 rfl (lv_at hl 0 rfl) ?_
            refine lv_if_ne (tgt := 79) hx hb dX3_feed_72 (by decide) (fun c9 => absurd c_278 c9) (fun _ => ?_)
            refine lv_iload_n hx hb dX3_feed_75 rfl (lv_at hl 2 rfl) ?_
            refine lv_if_ne (tgt := 83) hx hb dX3_feed_76 (by decide) (fun c_279 => ?_) (fun c_279 => ?_)
            · have hw := hw.2 c_279
              refine lv_iconst (v := 1) hx hb dX3_feed_83 (by decide) ?_
              refine lv_iadd hx hb dX3_feed_84 ?_
              refine va_put (D := eD E) (ci := 4) (v := .int ((gm_249 3) + 1)) (ty := .int) (C := RX3) (T := TX3) (N := 27) hx hb hta lay_X3 tyX3 tyX3_ok nmX3 hown hKE.1 hP hD hS 0 rfl rfl 3 (by decide) (hta _ tw_557) (fun _ h9 => h9) rfl (by decide +kernel) rfl rfl (Nat.le_of_ble_eq_true rfl) dX3_feed_85 (fun H locs hP hD hS => ?_)
              have hP : va_P (eD E) vwCl [((am 0), .inr (4, [.int 0, .int p0, .int (gm_249 2), .int ((gm_249 3) + 1), .int (gm_249 4), .ref (am 1), .ref (am 2), .ref (am 3), .int (gm_249 8), .int (gm_249 9), .int (gm_249 10), .int (gm_249 11), .int (gm_249 12), .int (gm_249 13), .int (gm_249 14), .int (gm_249 15), .int (gm_249 16), .int (gm_249 17), .int (gm_249 18), .int (gm_249 19), .int (gm_249 20), .ref (am 4), .int (gm_249 22), .int (gm_249 23), .ref (am 5), .ref (am 6), .int (gm_249 26)])), ((am 1), .inl (eC E 0, 32, .inl ks_250)), ((am 2), .inl (eC E 0, 32, .inl os_251)), ((am 3), .inl (eC E 0, 32, .inl ts_252)), ((am 4), .inl (eC E 0, 3, .inl iq_253)), ((am 5), .inl (eC E 0, 320, .inl mk_254)), ((am 6), .inl (eC E 0, 320, .inl me_255))] H := hP
              have hD : va_D A [((am 0), .inr (4, [.int 0, .int p0, .int (gm_249 2), .int ((gm_249 3) + 1), .int (gm_249 4), .ref (am 1), .ref (am 2), .ref (am 3), .int (gm_249 8), .int (gm_249 9), .int (gm_249 10), .int (gm_249 11), .int (gm_249 12), .int (gm_249 13), .int (gm_249 14), .int (gm_249 15), .int (gm_249 16), .int (gm_249 17), .int (gm_249 18), .int (gm_249 19), .int (gm_249 20), .ref (am 4), .int (gm_249 22), .int (gm_249 23), .ref (am 5), .ref (am 6), .int (gm_249 26)])), ((am 1), .inl (eC E 0, 32, .inl ks_250)), ((am 2), .inl (eC E 0, 32, .inl os_251)), ((am 3), .inl (eC E 0, 32, .inl ts_252)), ((am 4), .inl (eC E 0, 3, .inl iq_253)), ((am 5), .inl (eC E 0, 320, .inl mk_254)), ((am 6), .inl (eC E 0, 320, .inl me_255))] := hD
              refine lv_goto (tgt := 125) hx hb dX3_feed_88 (by decide) ?_
              refine lv_iconst (v := 1) hx hb dX3_feed_125 (by decide) ?_
              have hP9 : va_P (eD E) vwCl (wM E am (upd (upd (upd gm_249 0 0) 1 p0) 3 ((gm_249 3) + 1)) ks_250 os_251 ts_252 iq_253 mk_254 me_255) H := hP
              have hD9 : va_D A (wM E am (upd (upd (upd gm_249 0 0) 1 p0) 3 ((gm_249 3) + 1)) ks_250 os_251 ts_252 iq_253 mk_254 me_255) := hD
              exact W.zret (v := 1) hx hb hr rfl (fun t ht hW => ⟨⟨1, ((upd (upd (upd gm_249 0 0) 1 p0) 3 ((gm_249 3) + 1)), ks_250, os_251, ts_252, iq_253, mk_254, me_255), rfl, hw, ⟨by rw [ht]; exact hP9, hD9⟩⟩, hS.F ht⟩) hS.2.2 dX3_feed_126
            · have hw := hw.1 c_279
              refine lv_iconst (v := 0) hx hb dX3_feed_79 (by decide) ?_
              refine lv_goto (tgt := 84) hx hb dX3_feed_80 (by decide) ?_
              refine lv_iadd hx hb dX3_feed_84 ?_
              refine va_put (D := eD E) (ci := 4) (v := .int ((gm_249 3) + 0)) (ty := .int) (C := RX3) (T := TX3) (N := 27) hx hb hta lay_X3 tyX3 tyX3_ok nmX3 hown hKE.1 hP hD hS 0 rfl rfl 3 (by decide) (hta _ tw_557) (fun _ h9 => h9) rfl (by decide +kernel) rfl rfl (Nat.le_of_ble_eq_true rfl) dX3_feed_85 (fun H locs hP hD hS => ?_)
              have hP : va_P (eD E) vwCl [((am 0), .inr (4, [.int 0, .int p0, .int (gm_249 2), .int ((gm_249 3) + 0), .int (gm_249 4), .ref (am 1), .ref (am 2), .ref (am 3), .int (gm_249 8), .int (gm_249 9), .int (gm_249 10), .int (gm_249 11), .int (gm_249 12), .int (gm_249 13), .int (gm_249 14), .int (gm_249 15), .int (gm_249 16), .int (gm_249 17), .int (gm_249 18), .int (gm_249 19), .int (gm_249 20), .ref (am 4), .int (gm_249 22), .int (gm_249 23), .ref (am 5), .ref (am 6), .int (gm_249 26)])), ((am 1), .inl (eC E 0, 32, .inl ks_250)), ((am 2), .inl (eC E 0, 32, .inl os_251)), ((am 3), .inl (eC E 0, 32, .inl ts_252)), ((am 4), .inl (eC E 0, 3, .inl iq_253)), ((am 5), .inl (eC E 0, 320, .inl mk_254)), ((am 6), .inl (eC E 0, 320, .inl me_255))] H := hP
              have hD : va_D A [((am 0), .inr (4, [.int 0, .int p0, .int (gm_249 2), .int ((gm_249 3) + 0), .int (gm_249 4), .ref (am 1), .ref (am 2), .ref (am 3), .int (gm_249 8), .int (gm_249 9), .int (gm_249 10), .int (gm_249 11), .int (gm_249 12), .int (gm_249 13), .int (gm_249 14), .int (gm_249 15), .int (gm_249 16), .int (gm_249 17), .int (gm_249 18), .int (gm_249 19), .int (gm_249 20), .ref (am 4), .int (gm_249 22), .int (gm_249 23), .ref (am 5), .ref (am 6), .int (gm_249 26)])), ((am 1), .inl (eC E 0, 32, .inl ks_250)), ((am 2), .inl (eC E 0, 32, .inl os_251)), ((am 3), .inl (eC E 0, 32, .inl ts_252)), ((am 4), .inl (eC E 0, 3, .inl iq_253)), ((am 5), .inl (eC E 0, 320, .inl mk_254)), ((am 6), .inl (eC E 0, 320, .inl me_255))] := hD
              refine lv_goto (tgt := 125) hx hb dX3_feed_88 (by decide) ?_
              refine lv_iconst (v := 1) hx hb dX3_feed_125 (by decide) ?_
              have hP9 : va_P (eD E) vwCl (wM E am (upd (upd (upd gm_249 0 0) 1 p0) 3 ((gm_249 3) + 0)) ks_250 os_251 ts_252 iq_253 mk_254 me_255) H := hP
              have hD9 : va_D A (wM E am (upd (upd (upd gm_249 0 0) 1 p0) 3 ((gm_249 3) + 0)) ks_250 os_251 ts_252 iq_253 mk_254 me_255) := hD
              exact W.zret (v := 1) hx hb hr rfl (fun t ht hW => ⟨⟨1, ((upd (upd (upd gm_249 0 0) 1 p0) 3 ((gm_249 3) + 0)), ks_250, os_251, ts_252, iq_253, mk_254, me_255), rfl, hw, ⟨by rw [ht]; exact hP9, hD9⟩⟩, hS.F ht⟩) hS.2.2 dX3_feed_126
          · have hw := hw.2 c_278
            refine lv_iconst (v := 1) hx hb dX3_feed_58 (by decide) ?_
            refine lv_goto (tgt := 63) hx hb dX3_feed_59 (by decide) ?_
            refine va_put (D := eD E) (ci := 4) (v := .int 1) (ty := .int) (C := RX3) (T := TX3) (N := 27) hx hb hta lay_X3 tyX3 tyX3_ok nmX3 hown hKE.1 hP hD hS 0 rfl rfl 0 (by decide) (hta _ tw_554) (fun _ h9 => h9) rfl (by decide +kernel) rfl rfl (Nat.le_of_ble_eq_true rfl) dX3_feed_63 (fun H locs hP hD hS => ?_)
            have hP : va_P (eD E) vwCl [((am 0), .inr (4, [.int 1, .int p0, .int (gm_249 2), .int (gm_249 3), .int (gm_249 4), .ref (am 1), .ref (am 2), .ref (am 3), .int (gm_249 8), .int (gm_249 9), .int (gm_249 10), .int (gm_249 11), .int (gm_249 12), .int (gm_249 13), .int (gm_249 14), .int (gm_249 15), .int (gm_249 16), .int (gm_249 17), .int (gm_249 18), .int (gm_249 19), .int (gm_249 20), .ref (am 4), .int (gm_249 22), .int (gm_249 23), .ref (am 5), .ref (am 6), .int (gm_249 26)])), ((am 1), .inl (eC E 0, 32, .inl ks_250)), ((am 2), .inl (eC E 0, 32, .inl os_251)), ((am 3), .inl (eC E 0, 32, .inl ts_252)), ((am 4), .inl (eC E 0, 3, .inl iq_253)), ((am 5), .inl (eC E 0, 320, .inl mk_254)), ((am 6), .inl (eC E 0, 320, .inl me_255))] H := hP
            have hD : va_D A [((am 0), .inr (4, [.int 1, .int p0, .int (gm_249 2), .int (gm_249 3), .int (gm_249 4), .ref (am 1), .ref (am 2), .ref (am 3), .int (gm_249 8), .int (gm_249 9), .int (gm_249 10), .int (gm_249 11), .int (gm_249 12), .int (gm_249 13), .int (gm_249 14), .int (gm_249 15), .int (gm_249 16), .int (gm_249 17), .int (gm_249 18), .int (gm_249 19), .int (gm_249 20), .ref (am 4), .int (gm_249 22), .int (gm_249 23), .ref (am 5), .ref (am 6), .int (gm_249 26)])), ((am 1), .inl (eC E 0, 32, .inl ks_250)), ((am 2), .inl (eC E 0, 32, .inl os_251)), ((am 3), .inl (eC E 0, 32, .inl ts_252)), ((am 4), .inl (eC E 0, 3, .inl iq_253)), ((am 5), .inl (eC E 0, 320, .inl mk_254)), ((am 6), .inl (eC E 0, 320, .inl me_255))] := hD
            refine lv_aload_n hx hb dX3_feed_66 rfl (lv_at hl 1 rfl) ?_
            refine lv_dup hx hb dX3_feed_67 rfl ?_
            refine va_get (D := eD E) (ci := 4) (v := .int (gm_249 3)) (C := RX3) (T := TX3) (N := 27) hx hb hta lay_X3 hown hKE.1 hP 0 rfl rfl 3 (by decide) (hta _ tw_557) (fun _ h9 => h9) rfl dX3_feed_68 ?_
            refine lv_iload_n hx hb dX3_feed_71 rfl (lv_at hl 0 rfl) ?_
            refine lv_if_ne (tgt := 79) hx hb dX3_feed_72 (by decide) (fun _ => ?_) (fun c9 => absurd c9 c_278)
            refine lv_iconst (v := 0) hx hb dX3_feed_79 (by decide) ?_
            refine lv_goto (tgt := 84) hx hb dX3_feed_80 (by decide) ?_
            refine lv_iadd hx hb dX3_feed_84 ?_
            refine va_put (D := eD E) (ci := 4) (v := .int ((gm_249 3) + 0)) (ty := .int) (C := RX3) (T := TX3) (N := 27) hx hb hta lay_X3 tyX3 tyX3_ok nmX3 hown hKE.1 hP hD hS 0 rfl rfl 3 (by decide) (hta _ tw_557) (fun _ h9 => h9) rfl (by decide +kernel) rfl rfl (Nat.le_of_ble_eq_true rfl) dX3_feed_85 (fun H locs hP hD hS => ?_)
            have hP : va_P (eD E) vwCl [((am 0), .inr (4, [.int 1, .int p0, .int (gm_249 2), .int ((gm_249 3) + 0), .int (gm_249 4), .ref (am 1), .ref (am 2), .ref (am 3), .int (gm_249 8), .int (gm_249 9), .int (gm_249 10), .int (gm_249 11), .int (gm_249 12), .int (gm_249 13), .int (gm_249 14), .int (gm_249 15), .int (gm_249 16), .int (gm_249 17), .int (gm_249 18), .int (gm_249 19), .int (gm_249 20), .ref (am 4), .int (gm_249 22), .int (gm_249 23), .ref (am 5), .ref (am 6), .int (gm_249 26)])), ((am 1), .inl (eC E 0, 32, .inl ks_250)), ((am 2), .inl (eC E 0, 32, .inl os_251)), ((am 3), .inl (eC E 0, 32, .inl ts_252)), ((am 4), .inl (eC E 0, 3, .inl iq_253)), ((am 5), .inl (eC E 0, 320, .inl mk_254)), ((am 6), .inl (eC E 0, 320, .inl me_255))] H := hP
            have hD : va_D A [((am 0), .inr (4, [.int 1, .int p0, .int (gm_249 2), .int ((gm_249 3) + 0), .int (gm_249 4), .ref (am 1), .ref (am 2), .ref (am 3), .int (gm_249 8), .int (gm_249 9), .int (gm_249 10), .int (gm_249 11), .int (gm_249 12), .int (gm_249 13), .int (gm_249 14), .int (gm_249 15), .int (gm_249 16), .int (gm_249 17), .int (gm_249 18), .int (gm_249 19), .int (gm_249 20), .ref (am 4), .int (gm_249 22), .int (gm_249 23), .ref (am 5), .ref (am 6), .int (gm_249 26)])), ((am 1), .inl (eC E 0, 32, .inl ks_250)), ((am 2), .inl (eC E 0, 32, .inl os_251)), ((am 3), .inl (eC E 0, 32, .inl ts_252)), ((am 4), .inl (eC E 0, 3, .inl iq_253)), ((am 5), .inl (eC E 0, 320, .inl mk_254)), ((am 6), .inl (eC E 0, 320, .inl me_255))] := hD
            refine lv_goto (tgt := 125) hx hb dX3_feed_88 (by decide) ?_
            refine lv_iconst (v := 1) hx hb dX3_feed_125 (by decide) ?_
            have hP9 : va_P (eD E) vwCl (wM E am (upd (upd (upd gm_249 0 1) 1 p0) 3 ((gm_249 3) + 0)) ks_250 os_251 ts_252 iq_253 mk_254 me_255) H := hP
            have hD9 : va_D A (wM E am (upd (upd (upd gm_249 0 1) 1 p0) 3 ((gm_249 3) + 0)) ks_250 os_251 ts_252 iq_253 mk_254 me_255) := hD
            exact W.zret (v := 1) hx hb hr rfl (fun t ht hW => ⟨⟨1, ((upd (upd (upd gm_249 0 1) 1 p0) 3 ((gm_249 3) + 0)), ks_250, os_251, ts_252, iq_253, mk_254, me_255), rfl, hw, ⟨by rw [ht]; exact hP9, hD9⟩⟩, hS.F ht⟩) hS.2.2 dX3_feed_126
      · have hw := hw.2 c_257
        refine lv_iconst (v := 0) hx hb dX3_feed_32 (by decide) ?_
        have hP9 : va_P (eD E) vwCl (wM E am gm_249 ks_250 os_251 ts_252 iq_253 mk_254 me_255) H := hP
        have hD9 : va_D A (wM E am gm_249 ks_250 os_251 ts_252 iq_253 mk_254 me_255) := hD
        exact W.zret (v := 0) hx hb hr rfl (fun t ht hW => ⟨⟨0, (gm_249, ks_250, os_251, ts_252, iq_253, mk_254, me_255), rfl, hw, ⟨by rw [ht]; exact hP9, hD9⟩⟩, hS.F ht⟩) hS.2.2 dX3_feed_33
def wp_X3_errors (E : EV) (post : Int32 → (Nat → Int32) → (Nat → Int32) → (Nat → Int32) → (Nat → Int32) → (Nat → Int32) → (Nat → Int32) → (Nat → Int32) → Prop) (gm : Nat → Int32) (ks : Nat → Int32) (os : Nat → Int32) (ts : Nat → Int32) (iq : Nat → Int32) (mk : Nat → Int32) (me : Nat → Int32) : Prop := post (gm 3) (upd gm 26 0) ks os ts iq mk me
set_option maxHeartbeats 4000000 in
set_option maxRecDepth 100000 in
theorem c_X3_errors (E : EV) (l : Launch) (am : Nat → Nat) (gm : Nat → Int32) (ks : Nat → Int32) (os : Nat → Int32) (ts : Nat → Int32) (iq : Nat → Int32) (mk : Nat → Int32) (me : Nat → Int32) (hz : Nat) (post : Int32 → (Nat → Int32) → (Nat → Int32) → (Nat → Int32) → (Nat → Int32) → (Nat → Int32) → (Nat → Int32) → (Nat → Int32) → Prop) (hw : wp_X3_errors E post gm ks os ts iq mk me) : Met l yX3_errors (Cond.code yX3_errors cX3_errors 1 (some .int) :: ALLW) ({ frames := 0, cells := 0, slots := 0, locals := 0 } : Room) (va_Pc [.ref (am 0)] (preM E (wM E am gm ks os ts iq mk me) hz)) (va_Qi (fun (r : Int32) (u : (Nat → Int32) × (Nat → Int32) × (Nat → Int32) × (Nat → Int32) × (Nat → Int32) × (Nat → Int32) × (Nat → Int32)) => post r u.1 u.2.1 u.2.2.1 u.2.2.2.1 u.2.2.2.2.1 u.2.2.2.2.2.1 u.2.2.2.2.2.2) (fun (u : (Nat → Int32) × (Nat → Int32) × (Nat → Int32) × (Nat → Int32) × (Nat → Int32) × (Nat → Int32) × (Nat → Int32)) t => va_P (eD E) vwCl (wM E am u.1 u.2.1 u.2.2.1 u.2.2.2.1 u.2.2.2.2.1 u.2.2.2.2.2.1 u.2.2.2.2.2.2) t.heap ∧ va_D (va_A (wM E am gm ks os ts iq mk me) hz) (wM E am u.1 u.2.1 u.2.2.1 u.2.2.2.1 u.2.2.2.2.1 u.2.2.2.2.2.1 u.2.2.2.2.2.2)) (va_A (wM E am gm ks os ts iq mk me) hz)) 0 0 (va_A (wM E am gm ks os ts iq mk me) hz) := by
  refine Met.ofW (cc := cX3_errors) (maxL := 1) (ret := (some .int)) (by decide) rfl ?_
  intro p e s m args below meth c s₁ B hml hv
  obtain ⟨rfl, hpre⟩ := hv
  have hx := B.exec
  have hb := B.bytes
  have hr := B.returns
  have hlocks := B.notSynchronized
  have hts := atoms_spec (ws := (Cond.code yX3_errors cX3_errors 1 (some .int) :: ALLW)) B.pre
  have hta : ∀ w ∈ ALLW, w.before ([.ref (am 0)] : List Value).toArray s = true := fun w h => hts w (List.mem_cons_of_mem _ h)
  have hown : s.vm.findClass RX3 = some m.cls := findClass_of_methodNamed B.named
  obtain ⟨hsz, hP, hKE, hD0, hZ⟩ := hpre
  subst hsz
  have hD := hD0.self (sz := s.heap.size)
  generalize hAe : va_A (wM E am gm ks os ts iq mk me) s.heap.size = A at hD hZ ⊢
  have hA : ∀ q : Nat, s.heap.size ≤ q → A q := fun q h => by rw [← hAe]; exact Or.inr h
  have hS : va_S A s.heap s.heap [] := va_S.rf
  have hP : va_P (eD E) vwCl [((am 0), .inr (4, [.int (gm 0), .int (gm 1), .int (gm 2), .int (gm 3), .int (gm 4), .ref (am 1), .ref (am 2), .ref (am 3), .int (gm 8), .int (gm 9), .int (gm 10), .int (gm 11), .int (gm 12), .int (gm 13), .int (gm 14), .int (gm 15), .int (gm 16), .int (gm 17), .int (gm 18), .int (gm 19), .int (gm 20), .ref (am 4), .int (gm 22), .int (gm 23), .ref (am 5), .ref (am 6), .int (gm 26)])), ((am 1), .inl (eC E 0, 32, .inl ks)), ((am 2), .inl (eC E 0, 32, .inl os)), ((am 3), .inl (eC E 0, 32, .inl ts)), ((am 4), .inl (eC E 0, 3, .inl iq)), ((am 5), .inl (eC E 0, 320, .inl mk)), ((am 6), .inl (eC E 0, 320, .inl me))] s.heap := hP
  have hD : va_D A [((am 0), .inr (4, [.int (gm 0), .int (gm 1), .int (gm 2), .int (gm 3), .int (gm 4), .ref (am 1), .ref (am 2), .ref (am 3), .int (gm 8), .int (gm 9), .int (gm 10), .int (gm 11), .int (gm 12), .int (gm 13), .int (gm 14), .int (gm 15), .int (gm 16), .int (gm 17), .int (gm 18), .int (gm 19), .int (gm 20), .ref (am 4), .int (gm 22), .int (gm 23), .ref (am 5), .ref (am 6), .int (gm 26)])), ((am 1), .inl (eC E 0, 32, .inl ks)), ((am 2), .inl (eC E 0, 32, .inl os)), ((am 3), .inl (eC E 0, 32, .inl ts)), ((am 4), .inl (eC E 0, 3, .inl iq)), ((am 5), .inl (eC E 0, 320, .inl mk)), ((am 6), .inl (eC E 0, 320, .inl me))] := hD
  have hl := lv_entry ([.ref (am 0)]) (n := 1) (Nat.le_of_ble_eq_true rfl)
  rw [lg_entry_eq]
  generalize (lg_sl ([.ref (am 0)]) ++ List.replicate (1 - (lg_sl ([.ref (am 0)])).length) Slot.unset).toArray = ls at hl ⊢
  have hl : lv_has ls 1 [(0, .ref (am 0))] := hl
  unfold wp_X3_errors at hw
  refine lv_aload_n hx hb dX3_errors_0 rfl (lv_at hl 0 rfl) ?_
  refine lv_iconst (v := 0) hx hb dX3_errors_1 (by decide) ?_
  refine va_put (D := eD E) (ci := 4) (v := .int 0) (ty := .int) (C := RX3) (T := TX3) (N := 27) hx hb hta lay_X3 tyX3 tyX3_ok nmX3 hown hKE.1 hP hD hS 0 rfl rfl 26 (by decide) (hta _ tw_580) (fun _ h9 => h9) rfl (by decide +kernel) rfl rfl (Nat.le_of_ble_eq_true rfl) dX3_errors_2 (fun H locs hP hD hS => ?_)
  have hP : va_P (eD E) vwCl [((am 0), .inr (4, [.int (gm 0), .int (gm 1), .int (gm 2), .int (gm 3), .int (gm 4), .ref (am 1), .ref (am 2), .ref (am 3), .int (gm 8), .int (gm 9), .int (gm 10), .int (gm 11), .int (gm 12), .int (gm 13), .int (gm 14), .int (gm 15), .int (gm 16), .int (gm 17), .int (gm 18), .int (gm 19), .int (gm 20), .ref (am 4), .int (gm 22), .int (gm 23), .ref (am 5), .ref (am 6), .int 0])), ((am 1), .inl (eC E 0, 32, .inl ks)), ((am 2), .inl (eC E 0, 32, .inl os)), ((am 3), .inl (eC E 0, 32, .inl ts)), ((am 4), .inl (eC E 0, 3, .inl iq)), ((am 5), .inl (eC E 0, 320, .inl mk)), ((am 6), .inl (eC E 0, 320, .inl me))] H := hP
  have hD : va_D A [((am 0), .inr (4, [.int (gm 0), .int (gm 1), .int (gm 2), .int (gm 3), .int (gm 4), .ref (am 1), .ref (am 2), .ref (am 3), .int (gm 8), .int (gm 9), .int (gm 10), .int (gm 11), .int (gm 12), .int (gm 13), .int (gm 14), .int (gm 15), .int (gm 16), .int (gm 17), .int (gm 18), .int (gm 19), .int (gm 20), .ref (am 4), .int (gm 22), .int (gm 23), .ref (am 5), .ref (am 6), .int 0])), ((am 1), .inl (eC E 0, 32, .inl ks)), ((am 2), .inl (eC E 0, 32, .inl os)), ((am 3), .inl (eC E 0, 32, .inl ts)), ((am 4), .inl (eC E 0, 3, .inl iq)), ((am 5), .inl (eC E 0, 320, .inl mk)), ((am 6), .inl (eC E 0, 320, .inl me))] := hD
  refine lv_aload_n hx hb dX3_errors_5 rfl (lv_at hl 0 rfl) ?_
  refine va_get (D := eD E) (ci := 4) (v := .int (gm 3)) (C := RX3) (T := TX3) (N := 27) hx hb hta lay_X3 hown hKE.1 hP 0 rfl rfl 3 (by decide) (hta _ tw_557) (fun _ h9 => h9) rfl dX3_errors_6 ?_
  have hP9 : va_P (eD E) vwCl (wM E am (upd gm 26 0) ks os ts iq mk me) H := hP
  have hD9 : va_D A (wM E am (upd gm 26 0) ks os ts iq mk me) := hD
  exact W.iret (v := (gm 3)) hx hb hr (fun t ht hW => ⟨⟨(gm 3), ((upd gm 26 0), ks, os, ts, iq, mk, me), rfl, hw, ⟨by rw [ht]; exact hP9, hD9⟩⟩, hS.F ht⟩) hS.2.2 dX3_errors_9
def wp_X3_queued (E : EV) (post : Int32 → (Nat → Int32) → (Nat → Int32) → (Nat → Int32) → (Nat → Int32) → (Nat → Int32) → (Nat → Int32) → (Nat → Int32) → Prop) (gm : Nat → Int32) (ks : Nat → Int32) (os : Nat → Int32) (ts : Nat → Int32) (iq : Nat → Int32) (mk : Nat → Int32) (me : Nat → Int32) : Prop := post (gm 4) (upd gm 26 0) ks os ts iq mk me
set_option maxHeartbeats 4000000 in
set_option maxRecDepth 100000 in
theorem c_X3_queued (E : EV) (l : Launch) (am : Nat → Nat) (gm : Nat → Int32) (ks : Nat → Int32) (os : Nat → Int32) (ts : Nat → Int32) (iq : Nat → Int32) (mk : Nat → Int32) (me : Nat → Int32) (hz : Nat) (post : Int32 → (Nat → Int32) → (Nat → Int32) → (Nat → Int32) → (Nat → Int32) → (Nat → Int32) → (Nat → Int32) → (Nat → Int32) → Prop) (hw : wp_X3_queued E post gm ks os ts iq mk me) : Met l yX3_queued (Cond.code yX3_queued cX3_queued 1 (some .int) :: ALLW) ({ frames := 0, cells := 0, slots := 0, locals := 0 } : Room) (va_Pc [.ref (am 0)] (preM E (wM E am gm ks os ts iq mk me) hz)) (va_Qi (fun (r : Int32) (u : (Nat → Int32) × (Nat → Int32) × (Nat → Int32) × (Nat → Int32) × (Nat → Int32) × (Nat → Int32) × (Nat → Int32)) => post r u.1 u.2.1 u.2.2.1 u.2.2.2.1 u.2.2.2.2.1 u.2.2.2.2.2.1 u.2.2.2.2.2.2) (fun (u : (Nat → Int32) × (Nat → Int32) × (Nat → Int32) × (Nat → Int32) × (Nat → Int32) × (Nat → Int32) × (Nat → Int32)) t => va_P (eD E) vwCl (wM E am u.1 u.2.1 u.2.2.1 u.2.2.2.1 u.2.2.2.2.1 u.2.2.2.2.2.1 u.2.2.2.2.2.2) t.heap ∧ va_D (va_A (wM E am gm ks os ts iq mk me) hz) (wM E am u.1 u.2.1 u.2.2.1 u.2.2.2.1 u.2.2.2.2.1 u.2.2.2.2.2.1 u.2.2.2.2.2.2)) (va_A (wM E am gm ks os ts iq mk me) hz)) 0 0 (va_A (wM E am gm ks os ts iq mk me) hz) := by
  refine Met.ofW (cc := cX3_queued) (maxL := 1) (ret := (some .int)) (by decide) rfl ?_
  intro p e s m args below meth c s₁ B hml hv
  obtain ⟨rfl, hpre⟩ := hv
  have hx := B.exec
  have hb := B.bytes
  have hr := B.returns
  have hlocks := B.notSynchronized
  have hts := atoms_spec (ws := (Cond.code yX3_queued cX3_queued 1 (some .int) :: ALLW)) B.pre
  have hta : ∀ w ∈ ALLW, w.before ([.ref (am 0)] : List Value).toArray s = true := fun w h => hts w (List.mem_cons_of_mem _ h)
  have hown : s.vm.findClass RX3 = some m.cls := findClass_of_methodNamed B.named
  obtain ⟨hsz, hP, hKE, hD0, hZ⟩ := hpre
  subst hsz
  have hD := hD0.self (sz := s.heap.size)
  generalize hAe : va_A (wM E am gm ks os ts iq mk me) s.heap.size = A at hD hZ ⊢
  have hA : ∀ q : Nat, s.heap.size ≤ q → A q := fun q h => by rw [← hAe]; exact Or.inr h
  have hS : va_S A s.heap s.heap [] := va_S.rf
  have hP : va_P (eD E) vwCl [((am 0), .inr (4, [.int (gm 0), .int (gm 1), .int (gm 2), .int (gm 3), .int (gm 4), .ref (am 1), .ref (am 2), .ref (am 3), .int (gm 8), .int (gm 9), .int (gm 10), .int (gm 11), .int (gm 12), .int (gm 13), .int (gm 14), .int (gm 15), .int (gm 16), .int (gm 17), .int (gm 18), .int (gm 19), .int (gm 20), .ref (am 4), .int (gm 22), .int (gm 23), .ref (am 5), .ref (am 6), .int (gm 26)])), ((am 1), .inl (eC E 0, 32, .inl ks)), ((am 2), .inl (eC E 0, 32, .inl os)), ((am 3), .inl (eC E 0, 32, .inl ts)), ((am 4), .inl (eC E 0, 3, .inl iq)), ((am 5), .inl (eC E 0, 320, .inl mk)), ((am 6), .inl (eC E 0, 320, .inl me))] s.heap := hP
  have hD : va_D A [((am 0), .inr (4, [.int (gm 0), .int (gm 1), .int (gm 2), .int (gm 3), .int (gm 4), .ref (am 1), .ref (am 2), .ref (am 3), .int (gm 8), .int (gm 9), .int (gm 10), .int (gm 11), .int (gm 12), .int (gm 13), .int (gm 14), .int (gm 15), .int (gm 16), .int (gm 17), .int (gm 18), .int (gm 19), .int (gm 20), .ref (am 4), .int (gm 22), .int (gm 23), .ref (am 5), .ref (am 6), .int (gm 26)])), ((am 1), .inl (eC E 0, 32, .inl ks)), ((am 2), .inl (eC E 0, 32, .inl os)), ((am 3), .inl (eC E 0, 32, .inl ts)), ((am 4), .inl (eC E 0, 3, .inl iq)), ((am 5), .inl (eC E 0, 320, .inl mk)), ((am 6), .inl (eC E 0, 320, .inl me))] := hD
  have hl := lv_entry ([.ref (am 0)]) (n := 1) (Nat.le_of_ble_eq_true rfl)
  rw [lg_entry_eq]
  generalize (lg_sl ([.ref (am 0)]) ++ List.replicate (1 - (lg_sl ([.ref (am 0)])).length) Slot.unset).toArray = ls at hl ⊢
  have hl : lv_has ls 1 [(0, .ref (am 0))] := hl
  unfold wp_X3_queued at hw
  refine lv_aload_n hx hb dX3_queued_0 rfl (lv_at hl 0 rfl) ?_
  refine lv_iconst (v := 0) hx hb dX3_queued_1 (by decide) ?_
  refine va_put (D := eD E) (ci := 4) (v := .int 0) (ty := .int) (C := RX3) (T := TX3) (N := 27) hx hb hta lay_X3 tyX3 tyX3_ok nmX3 hown hKE.1 hP hD hS 0 rfl rfl 26 (by decide) (hta _ tw_580) (fun _ h9 => h9) rfl (by decide +kernel) rfl rfl (Nat.le_of_ble_eq_true rfl) dX3_queued_2 (fun H locs hP hD hS => ?_)
  have hP : va_P (eD E) vwCl [((am 0), .inr (4, [.int (gm 0), .int (gm 1), .int (gm 2), .int (gm 3), .int (gm 4), .ref (am 1), .ref (am 2), .ref (am 3), .int (gm 8), .int (gm 9), .int (gm 10), .int (gm 11), .int (gm 12), .int (gm 13), .int (gm 14), .int (gm 15), .int (gm 16), .int (gm 17), .int (gm 18), .int (gm 19), .int (gm 20), .ref (am 4), .int (gm 22), .int (gm 23), .ref (am 5), .ref (am 6), .int 0])), ((am 1), .inl (eC E 0, 32, .inl ks)), ((am 2), .inl (eC E 0, 32, .inl os)), ((am 3), .inl (eC E 0, 32, .inl ts)), ((am 4), .inl (eC E 0, 3, .inl iq)), ((am 5), .inl (eC E 0, 320, .inl mk)), ((am 6), .inl (eC E 0, 320, .inl me))] H := hP
  have hD : va_D A [((am 0), .inr (4, [.int (gm 0), .int (gm 1), .int (gm 2), .int (gm 3), .int (gm 4), .ref (am 1), .ref (am 2), .ref (am 3), .int (gm 8), .int (gm 9), .int (gm 10), .int (gm 11), .int (gm 12), .int (gm 13), .int (gm 14), .int (gm 15), .int (gm 16), .int (gm 17), .int (gm 18), .int (gm 19), .int (gm 20), .ref (am 4), .int (gm 22), .int (gm 23), .ref (am 5), .ref (am 6), .int 0])), ((am 1), .inl (eC E 0, 32, .inl ks)), ((am 2), .inl (eC E 0, 32, .inl os)), ((am 3), .inl (eC E 0, 32, .inl ts)), ((am 4), .inl (eC E 0, 3, .inl iq)), ((am 5), .inl (eC E 0, 320, .inl mk)), ((am 6), .inl (eC E 0, 320, .inl me))] := hD
  refine lv_aload_n hx hb dX3_queued_5 rfl (lv_at hl 0 rfl) ?_
  refine va_get (D := eD E) (ci := 4) (v := .int (gm 4)) (C := RX3) (T := TX3) (N := 27) hx hb hta lay_X3 hown hKE.1 hP 0 rfl rfl 4 (by decide) (hta _ tw_558) (fun _ h9 => h9) rfl dX3_queued_6 ?_
  have hP9 : va_P (eD E) vwCl (wM E am (upd gm 26 0) ks os ts iq mk me) H := hP
  have hD9 : va_D A (wM E am (upd gm 26 0) ks os ts iq mk me) := hD
  exact W.iret (v := (gm 4)) hx hb hr (fun t ht hW => ⟨⟨(gm 4), ((upd gm 26 0), ks, os, ts, iq, mk, me), rfl, hw, ⟨by rw [ht]; exact hP9, hD9⟩⟩, hS.F ht⟩) hS.2.2 dX3_queued_9
def wp_X3_pending (E : EV) (post : Int32 → (Nat → Int32) → (Nat → Int32) → (Nat → Int32) → (Nat → Int32) → (Nat → Int32) → (Nat → Int32) → (Nat → Int32) → Prop) (gm : Nat → Int32) (ks : Nat → Int32) (os : Nat → Int32) (ts : Nat → Int32) (iq : Nat → Int32) (mk : Nat → Int32) (me : Nat → Int32) : Prop := post (gm 0) (upd gm 26 0) ks os ts iq mk me
set_option maxHeartbeats 4000000 in
set_option maxRecDepth 100000 in
theorem c_X3_pending (E : EV) (l : Launch) (am : Nat → Nat) (gm : Nat → Int32) (ks : Nat → Int32) (os : Nat → Int32) (ts : Nat → Int32) (iq : Nat → Int32) (mk : Nat → Int32) (me : Nat → Int32) (hz : Nat) (post : Int32 → (Nat → Int32) → (Nat → Int32) → (Nat → Int32) → (Nat → Int32) → (Nat → Int32) → (Nat → Int32) → (Nat → Int32) → Prop) (hw : wp_X3_pending E post gm ks os ts iq mk me) : Met l yX3_pending (Cond.code yX3_pending cX3_pending 1 (some .int) :: ALLW) ({ frames := 0, cells := 0, slots := 0, locals := 0 } : Room) (va_Pc [.ref (am 0)] (preM E (wM E am gm ks os ts iq mk me) hz)) (va_Qi (fun (r : Int32) (u : (Nat → Int32) × (Nat → Int32) × (Nat → Int32) × (Nat → Int32) × (Nat → Int32) × (Nat → Int32) × (Nat → Int32)) => post r u.1 u.2.1 u.2.2.1 u.2.2.2.1 u.2.2.2.2.1 u.2.2.2.2.2.1 u.2.2.2.2.2.2) (fun (u : (Nat → Int32) × (Nat → Int32) × (Nat → Int32) × (Nat → Int32) × (Nat → Int32) × (Nat → Int32) × (Nat → Int32)) t => va_P (eD E) vwCl (wM E am u.1 u.2.1 u.2.2.1 u.2.2.2.1 u.2.2.2.2.1 u.2.2.2.2.2.1 u.2.2.2.2.2.2) t.heap ∧ va_D (va_A (wM E am gm ks os ts iq mk me) hz) (wM E am u.1 u.2.1 u.2.2.1 u.2.2.2.1 u.2.2.2.2.1 u.2.2.2.2.2.1 u.2.2.2.2.2.2)) (va_A (wM E am gm ks os ts iq mk me) hz)) 0 0 (va_A (wM E am gm ks os ts iq mk me) hz) := by
  refine Met.ofW (cc := cX3_pending) (maxL := 1) (ret := (some .int)) (by decide) rfl ?_
  intro p e s m args below meth c s₁ B hml hv
  obtain ⟨rfl, hpre⟩ := hv
  have hx := B.exec
  have hb := B.bytes
  have hr := B.returns
  have hlocks := B.notSynchronized
  have hts := atoms_spec (ws := (Cond.code yX3_pending cX3_pending 1 (some .int) :: ALLW)) B.pre
  have hta : ∀ w ∈ ALLW, w.before ([.ref (am 0)] : List Value).toArray s = true := fun w h => hts w (List.mem_cons_of_mem _ h)
  have hown : s.vm.findClass RX3 = some m.cls := findClass_of_methodNamed B.named
  obtain ⟨hsz, hP, hKE, hD0, hZ⟩ := hpre
  subst hsz
  have hD := hD0.self (sz := s.heap.size)
  generalize hAe : va_A (wM E am gm ks os ts iq mk me) s.heap.size = A at hD hZ ⊢
  have hA : ∀ q : Nat, s.heap.size ≤ q → A q := fun q h => by rw [← hAe]; exact Or.inr h
  have hS : va_S A s.heap s.heap [] := va_S.rf
  have hP : va_P (eD E) vwCl [((am 0), .inr (4, [.int (gm 0), .int (gm 1), .int (gm 2), .int (gm 3), .int (gm 4), .ref (am 1), .ref (am 2), .ref (am 3), .int (gm 8), .int (gm 9), .int (gm 10), .int (gm 11), .int (gm 12), .int (gm 13), .int (gm 14), .int (gm 15), .int (gm 16), .int (gm 17), .int (gm 18), .int (gm 19), .int (gm 20), .ref (am 4), .int (gm 22), .int (gm 23), .ref (am 5), .ref (am 6), .int (gm 26)])), ((am 1), .inl (eC E 0, 32, .inl ks)), ((am 2), .inl (eC E 0, 32, .inl os)), ((am 3), .inl (eC E 0, 32, .inl ts)), ((am 4), .inl (eC E 0, 3, .inl iq)), ((am 5), .inl (eC E 0, 320, .inl mk)), ((am 6), .inl (eC E 0, 320, .inl me))] s.heap := hP
  have hD : va_D A [((am 0), .inr (4, [.int (gm 0), .int (gm 1), .int (gm 2), .int (gm 3), .int (gm 4), .ref (am 1), .ref (am 2), .ref (am 3), .int (gm 8), .int (gm 9), .int (gm 10), .int (gm 11), .int (gm 12), .int (gm 13), .int (gm 14), .int (gm 15), .int (gm 16), .int (gm 17), .int (gm 18), .int (gm 19), .int (gm 20), .ref (am 4), .int (gm 22), .int (gm 23), .ref (am 5), .ref (am 6), .int (gm 26)])), ((am 1), .inl (eC E 0, 32, .inl ks)), ((am 2), .inl (eC E 0, 32, .inl os)), ((am 3), .inl (eC E 0, 32, .inl ts)), ((am 4), .inl (eC E 0, 3, .inl iq)), ((am 5), .inl (eC E 0, 320, .inl mk)), ((am 6), .inl (eC E 0, 320, .inl me))] := hD
  have hl := lv_entry ([.ref (am 0)]) (n := 1) (Nat.le_of_ble_eq_true rfl)
  rw [lg_entry_eq]
  generalize (lg_sl ([.ref (am 0)]) ++ List.replicate (1 - (lg_sl ([.ref (am 0)])).length) Slot.unset).toArray = ls at hl ⊢
  have hl : lv_has ls 1 [(0, .ref (am 0))] := hl
  unfold wp_X3_pending at hw
  refine lv_aload_n hx hb dX3_pending_0 rfl (lv_at hl 0 rfl) ?_
  refine lv_iconst (v := 0) hx hb dX3_pending_1 (by decide) ?_
  refine va_put (D := eD E) (ci := 4) (v := .int 0) (ty := .int) (C := RX3) (T := TX3) (N := 27) hx hb hta lay_X3 tyX3 tyX3_ok nmX3 hown hKE.1 hP hD hS 0 rfl rfl 26 (by decide) (hta _ tw_580) (fun _ h9 => h9) rfl (by decide +kernel) rfl rfl (Nat.le_of_ble_eq_true rfl) dX3_pending_2 (fun H locs hP hD hS => ?_)
  have hP : va_P (eD E) vwCl [((am 0), .inr (4, [.int (gm 0), .int (gm 1), .int (gm 2), .int (gm 3), .int (gm 4), .ref (am 1), .ref (am 2), .ref (am 3), .int (gm 8), .int (gm 9), .int (gm 10), .int (gm 11), .int (gm 12), .int (gm 13), .int (gm 14), .int (gm 15), .int (gm 16), .int (gm 17), .int (gm 18), .int (gm 19), .int (gm 20), .ref (am 4), .int (gm 22), .int (gm 23), .ref (am 5), .ref (am 6), .int 0])), ((am 1), .inl (eC E 0, 32, .inl ks)), ((am 2), .inl (eC E 0, 32, .inl os)), ((am 3), .inl (eC E 0, 32, .inl ts)), ((am 4), .inl (eC E 0, 3, .inl iq)), ((am 5), .inl (eC E 0, 320, .inl mk)), ((am 6), .inl (eC E 0, 320, .inl me))] H := hP
  have hD : va_D A [((am 0), .inr (4, [.int (gm 0), .int (gm 1), .int (gm 2), .int (gm 3), .int (gm 4), .ref (am 1), .ref (am 2), .ref (am 3), .int (gm 8), .int (gm 9), .int (gm 10), .int (gm 11), .int (gm 12), .int (gm 13), .int (gm 14), .int (gm 15), .int (gm 16), .int (gm 17), .int (gm 18), .int (gm 19), .int (gm 20), .ref (am 4), .int (gm 22), .int (gm 23), .ref (am 5), .ref (am 6), .int 0])), ((am 1), .inl (eC E 0, 32, .inl ks)), ((am 2), .inl (eC E 0, 32, .inl os)), ((am 3), .inl (eC E 0, 32, .inl ts)), ((am 4), .inl (eC E 0, 3, .inl iq)), ((am 5), .inl (eC E 0, 320, .inl mk)), ((am 6), .inl (eC E 0, 320, .inl me))] := hD
  refine lv_aload_n hx hb dX3_pending_5 rfl (lv_at hl 0 rfl) ?_
  refine va_get (D := eD E) (ci := 4) (v := .int (gm 0)) (C := RX3) (T := TX3) (N := 27) hx hb hta lay_X3 hown hKE.1 hP 0 rfl rfl 0 (by decide) (hta _ tw_554) (fun _ h9 => h9) rfl dX3_pending_6 ?_
  have hP9 : va_P (eD E) vwCl (wM E am (upd gm 26 0) ks os ts iq mk me) H := hP
  have hD9 : va_D A (wM E am (upd gm 26 0) ks os ts iq mk me) := hD
  exact W.iret (v := (gm 0)) hx hb hr (fun t ht hW => ⟨⟨(gm 0), ((upd gm 26 0), ks, os, ts, iq, mk, me), rfl, hw, ⟨by rw [ht]; exact hP9, hD9⟩⟩, hS.F ht⟩) hS.2.2 dX3_pending_9
def wp_X3_marksCell (E : EV) (post : (Nat → Int32) → (Nat → Int32) → (Nat → Int32) → (Nat → Int32) → (Nat → Int32) → (Nat → Int32) → (Nat → Int32) → Prop) (gm : Nat → Int32) (ks : Nat → Int32) (os : Nat → Int32) (ts : Nat → Int32) (iq : Nat → Int32) (mk : Nat → Int32) (me : Nat → Int32) : Prop := (vp_in (((100 * (gm 18)) + (gm 17)) / 32) 320 ∧ post gm ks os ts iq (upd mk (((100 * (gm 18)) + (gm 17)) / 32).toNatClampNeg ((mk (((100 * (gm 18)) + (gm 17)) / 32).toNatClampNeg) ||| (1 <<< ((((100 * (gm 18)) + (gm 17)) - ((100 * (gm 18)) + (gm 17)) / 32 * 32) &&& 31)))) me)
set_option maxHeartbeats 4000000 in
set_option maxRecDepth 100000 in
theorem c_X3_marksCell (E : EV) (l : Launch) (am : Nat → Nat) (gm : Nat → Int32) (ks : Nat → Int32) (os : Nat → Int32) (ts : Nat → Int32) (iq : Nat → Int32) (mk : Nat → Int32) (me : Nat → Int32) (hz : Nat) (post : (Nat → Int32) → (Nat → Int32) → (Nat → Int32) → (Nat → Int32) → (Nat → Int32) → (Nat → Int32) → (Nat → Int32) → Prop) (hw : wp_X3_marksCell E post gm ks os ts iq mk me) : Met l yX3_marksCell (Cond.code yX3_marksCell cX3_marksCell 2 none :: ALLW) ({ frames := 0, cells := 0, slots := 0, locals := 0 } : Room) (va_Pc [.ref (am 0)] (preM E (wM E am gm ks os ts iq mk me) hz)) (va_Qv (fun (u : (Nat → Int32) × (Nat → Int32) × (Nat → Int32) × (Nat → Int32) × (Nat → Int32) × (Nat → Int32) × (Nat → Int32)) => post u.1 u.2.1 u.2.2.1 u.2.2.2.1 u.2.2.2.2.1 u.2.2.2.2.2.1 u.2.2.2.2.2.2) (fun (u : (Nat → Int32) × (Nat → Int32) × (Nat → Int32) × (Nat → Int32) × (Nat → Int32) × (Nat → Int32) × (Nat → Int32)) t => va_P (eD E) vwCl (wM E am u.1 u.2.1 u.2.2.1 u.2.2.2.1 u.2.2.2.2.1 u.2.2.2.2.2.1 u.2.2.2.2.2.2) t.heap ∧ va_D (va_A (wM E am gm ks os ts iq mk me) hz) (wM E am u.1 u.2.1 u.2.2.1 u.2.2.2.1 u.2.2.2.2.1 u.2.2.2.2.2.1 u.2.2.2.2.2.2)) (va_A (wM E am gm ks os ts iq mk me) hz)) 0 0 (va_A (wM E am gm ks os ts iq mk me) hz) := by
  refine Met.ofW (cc := cX3_marksCell) (maxL := 2) (ret := none) (by decide) rfl ?_
  intro p e s m args below meth c s₁ B hml hv
  obtain ⟨rfl, hpre⟩ := hv
  have hx := B.exec
  have hb := B.bytes
  have hr := B.returns
  have hlocks := B.notSynchronized
  have hts := atoms_spec (ws := (Cond.code yX3_marksCell cX3_marksCell 2 none :: ALLW)) B.pre
  have hta : ∀ w ∈ ALLW, w.before ([.ref (am 0)] : List Value).toArray s = true := fun w h => hts w (List.mem_cons_of_mem _ h)
  have hown : s.vm.findClass RX3 = some m.cls := findClass_of_methodNamed B.named
  obtain ⟨hsz, hP, hKE, hD0, hZ⟩ := hpre
  subst hsz
  have hD := hD0.self (sz := s.heap.size)
  generalize hAe : va_A (wM E am gm ks os ts iq mk me) s.heap.size = A at hD hZ ⊢
  have hA : ∀ q : Nat, s.heap.size ≤ q → A q := fun q h => by rw [← hAe]; exact Or.inr h
  have hS : va_S A s.heap s.heap [] := va_S.rf
  have hP : va_P (eD E) vwCl [((am 0), .inr (4, [.int (gm 0), .int (gm 1), .int (gm 2), .int (gm 3), .int (gm 4), .ref (am 1), .ref (am 2), .ref (am 3), .int (gm 8), .int (gm 9), .int (gm 10), .int (gm 11), .int (gm 12), .int (gm 13), .int (gm 14), .int (gm 15), .int (gm 16), .int (gm 17), .int (gm 18), .int (gm 19), .int (gm 20), .ref (am 4), .int (gm 22), .int (gm 23), .ref (am 5), .ref (am 6), .int (gm 26)])), ((am 1), .inl (eC E 0, 32, .inl ks)), ((am 2), .inl (eC E 0, 32, .inl os)), ((am 3), .inl (eC E 0, 32, .inl ts)), ((am 4), .inl (eC E 0, 3, .inl iq)), ((am 5), .inl (eC E 0, 320, .inl mk)), ((am 6), .inl (eC E 0, 320, .inl me))] s.heap := hP
  have hD : va_D A [((am 0), .inr (4, [.int (gm 0), .int (gm 1), .int (gm 2), .int (gm 3), .int (gm 4), .ref (am 1), .ref (am 2), .ref (am 3), .int (gm 8), .int (gm 9), .int (gm 10), .int (gm 11), .int (gm 12), .int (gm 13), .int (gm 14), .int (gm 15), .int (gm 16), .int (gm 17), .int (gm 18), .int (gm 19), .int (gm 20), .ref (am 4), .int (gm 22), .int (gm 23), .ref (am 5), .ref (am 6), .int (gm 26)])), ((am 1), .inl (eC E 0, 32, .inl ks)), ((am 2), .inl (eC E 0, 32, .inl os)), ((am 3), .inl (eC E 0, 32, .inl ts)), ((am 4), .inl (eC E 0, 3, .inl iq)), ((am 5), .inl (eC E 0, 320, .inl mk)), ((am 6), .inl (eC E 0, 320, .inl me))] := hD
  have hl := lv_entry ([.ref (am 0)]) (n := 2) (Nat.le_of_ble_eq_true rfl)
  rw [lg_entry_eq]
  generalize (lg_sl ([.ref (am 0)]) ++ List.replicate (2 - (lg_sl ([.ref (am 0)])).length) Slot.unset).toArray = ls at hl ⊢
  have hl : lv_has ls 2 [(0, .ref (am 0))] := hl
  unfold wp_X3_marksCell at hw
  refine lv_bipush (v := 100) hx hb dX3_marksCell_0 (by decide) ?_
  refine lv_aload_n hx hb dX3_marksCell_2 rfl (lv_at hl 0 rfl) ?_
  refine va_get (D := eD E) (ci := 4) (v := .int (gm 18)) (C := RX3) (T := TX3) (N := 27) hx hb hta lay_X3 hown hKE.1 hP 0 rfl rfl 18 (by decide) (hta _ tw_572) (fun _ h9 => h9) rfl dX3_marksCell_3 ?_
  refine lv_imul hx hb dX3_marksCell_6 ?_
  refine lv_aload_n hx hb dX3_marksCell_7 rfl (lv_at hl 0 rfl) ?_
  refine va_get (D := eD E) (ci := 4) (v := .int (gm 17)) (C := RX3) (T := TX3) (N := 27) hx hb hta lay_X3 hown hKE.1 hP 0 rfl rfl 17 (by decide) (hta _ tw_571) (fun _ h9 => h9) rfl dX3_marksCell_8 ?_
  refine lv_iadd hx hb dX3_marksCell_11 ?_
  refine lv_istore_n (lv' := [(1, .int ((100 * (gm 18)) + (gm 17))), (0, .ref (am 0))]) hx hb dX3_marksCell_12 rfl hl (by decide) rfl (fun ls hl => ?_)
  refine lv_aload_n hx hb dX3_marksCell_13 rfl (lv_at hl 1 rfl) ?_
  refine va_get (D := eD E) (ci := 4) (v := .ref (am 5)) (C := RX3) (T := TX3) (N := 27) hx hb hta lay_X3 hown hKE.1 hP 0 rfl rfl 24 (by decide) (hta _ tw_578) (fun _ h9 => h9) rfl dX3_marksCell_14 ?_
  refine lv_iload_n hx hb dX3_marksCell_17 rfl (lv_at hl 0 rfl) ?_
  refine lv_bipush (v := 32) hx hb dX3_marksCell_18 (by decide) ?_
  refine lv_idiv hx hb dX3_marksCell_20 (by decide) ?_
  refine lv_dup2_11 hx hb dX3_marksCell_21 rfl rfl ?_
  obtain ⟨hi_280, hw⟩ := hw
  refine va_iald hx hb hKE.1 hP 5 0 rfl rfl hi_280 dX3_marksCell_22 ?_
  refine lv_iconst (v := 1) hx hb dX3_marksCell_23 (by decide) ?_
  refine lv_iload_n hx hb dX3_marksCell_24 rfl (lv_at hl 0 rfl) ?_
  refine lv_bipush (v := 32) hx hb dX3_marksCell_25 (by decide) ?_
  refine lv_irem hx hb dX3_marksCell_27 (by decide) ?_
  refine lv_ishl hx hb dX3_marksCell_28 ?_
  refine lv_ior hx hb dX3_marksCell_29 ?_
  refine va_iast hx hb hKE.1 hP hD hS 5 0 rfl rfl hi_280 dX3_marksCell_30 (fun H locs hP hD hS => ?_)
  have hP : va_P (eD E) vwCl [((am 0), .inr (4, [.int (gm 0), .int (gm 1), .int (gm 2), .int (gm 3), .int (gm 4), .ref (am 1), .ref (am 2), .ref (am 3), .int (gm 8), .int (gm 9), .int (gm 10), .int (gm 11), .int (gm 12), .int (gm 13), .int (gm 14), .int (gm 15), .int (gm 16), .int (gm 17), .int (gm 18), .int (gm 19), .int (gm 20), .ref (am 4), .int (gm 22), .int (gm 23), .ref (am 5), .ref (am 6), .int (gm 26)])), ((am 1), .inl (eC E 0, 32, .inl ks)), ((am 2), .inl (eC E 0, 32, .inl os)), ((am 3), .inl (eC E 0, 32, .inl ts)), ((am 4), .inl (eC E 0, 3, .inl iq)), ((am 5), .inl (eC E 0, 320, .inl (upd mk (((100 * (gm 18)) + (gm 17)) / 32).toNatClampNeg ((mk (((100 * (gm 18)) + (gm 17)) / 32).toNatClampNeg) ||| (1 <<< ((((100 * (gm 18)) + (gm 17)) - ((100 * (gm 18)) + (gm 17)) / 32 * 32) &&& 31)))))), ((am 6), .inl (eC E 0, 320, .inl me))] H := hP
  have hD : va_D A [((am 0), .inr (4, [.int (gm 0), .int (gm 1), .int (gm 2), .int (gm 3), .int (gm 4), .ref (am 1), .ref (am 2), .ref (am 3), .int (gm 8), .int (gm 9), .int (gm 10), .int (gm 11), .int (gm 12), .int (gm 13), .int (gm 14), .int (gm 15), .int (gm 16), .int (gm 17), .int (gm 18), .int (gm 19), .int (gm 20), .ref (am 4), .int (gm 22), .int (gm 23), .ref (am 5), .ref (am 6), .int (gm 26)])), ((am 1), .inl (eC E 0, 32, .inl ks)), ((am 2), .inl (eC E 0, 32, .inl os)), ((am 3), .inl (eC E 0, 32, .inl ts)), ((am 4), .inl (eC E 0, 3, .inl iq)), ((am 5), .inl (eC E 0, 320, .inl (upd mk (((100 * (gm 18)) + (gm 17)) / 32).toNatClampNeg ((mk (((100 * (gm 18)) + (gm 17)) / 32).toNatClampNeg) ||| (1 <<< ((((100 * (gm 18)) + (gm 17)) - ((100 * (gm 18)) + (gm 17)) / 32 * 32) &&& 31)))))), ((am 6), .inl (eC E 0, 320, .inl me))] := hD
  have hP9 : va_P (eD E) vwCl (wM E am gm ks os ts iq (upd mk (((100 * (gm 18)) + (gm 17)) / 32).toNatClampNeg ((mk (((100 * (gm 18)) + (gm 17)) / 32).toNatClampNeg) ||| (1 <<< ((((100 * (gm 18)) + (gm 17)) - ((100 * (gm 18)) + (gm 17)) / 32 * 32) &&& 31)))) me) H := hP
  have hD9 : va_D A (wM E am gm ks os ts iq (upd mk (((100 * (gm 18)) + (gm 17)) / 32).toNatClampNeg ((mk (((100 * (gm 18)) + (gm 17)) / 32).toNatClampNeg) ||| (1 <<< ((((100 * (gm 18)) + (gm 17)) - ((100 * (gm 18)) + (gm 17)) / 32 * 32) &&& 31)))) me) := hD
  exact W.vret hx hb hr (fun t ht hW => ⟨⟨(gm, ks, os, ts, iq, (upd mk (((100 * (gm 18)) + (gm 17)) / 32).toNatClampNeg ((mk (((100 * (gm 18)) + (gm 17)) / 32).toNatClampNeg) ||| (1 <<< ((((100 * (gm 18)) + (gm 17)) - ((100 * (gm 18)) + (gm 17)) / 32 * 32) &&& 31)))), me), rfl, hw, ⟨by rw [ht]; exact hP9, hD9⟩⟩, hS.F ht⟩) hS.2.2 dX3_marksCell_31
def wp_X3_isDone_L12 (E : EV) (post : (Nat → Int32) → (Nat → Int32) → (Nat → Int32) → (Nat → Int32) → (Nat → Int32) → (Nat → Int32) → (Nat → Int32) → Prop)   : Nat → (Nat → Int32) → (Nat → Int32) → (Nat → Int32) → (Nat → Int32) → (Nat → Int32) → (Nat → Int32) → (Nat → Int32) → Int32 → Prop
  | 0, _, _, _, _, _, _, _, _ => False
  | n + 1, gm_L, ks_L, os_L, ts_L, iq_L, mk_L, me_L, x1 => (((gm_L 4) ≤ x1 → post (upd (upd (upd (upd gm_L 13 0) 14 0) 15 (gm_L 17)) 16 (gm_L 18)) ks_L os_L ts_L iq_L mk_L me_L) ∧ (¬ (gm_L 4) ≤ x1 → (vp_in (x1 + 1) 32 ∧ (vp_in x1 32 ∧ (wp_X3_isDone_L12 E post n gm_L (upd ks_L x1.toNatClampNeg (ks_L (x1 + 1).toNatClampNeg)) (upd os_L x1.toNatClampNeg (os_L (x1 + 1).toNatClampNeg)) (upd ts_L x1.toNatClampNeg (ts_L (x1 + 1).toNatClampNeg)) iq_L mk_L me_L (x1 + 1))))))
def wp_X3_isDone (E : EV) (post : (Nat → Int32) → (Nat → Int32) → (Nat → Int32) → (Nat → Int32) → (Nat → Int32) → (Nat → Int32) → (Nat → Int32) → Prop) (gm : Nat → Int32) (ks : Nat → Int32) (os : Nat → Int32) (ts : Nat → Int32) (iq : Nat → Int32) (mk : Nat → Int32) (me : Nat → Int32) : Prop := (∃ n : Nat, wp_X3_isDone_L12 E post n (upd gm 4 ((gm 4) - 1)) ks os ts iq mk me 0)
set_option maxHeartbeats 4000000 in
set_option maxRecDepth 100000 in
theorem c_X3_isDone (E : EV) (l : Launch) (am : Nat → Nat) (gm : Nat → Int32) (ks : Nat → Int32) (os : Nat → Int32) (ts : Nat → Int32) (iq : Nat → Int32) (mk : Nat → Int32) (me : Nat → Int32) (hz : Nat) (post : (Nat → Int32) → (Nat → Int32) → (Nat → Int32) → (Nat → Int32) → (Nat → Int32) → (Nat → Int32) → (Nat → Int32) → Prop) (hw : wp_X3_isDone E post gm ks os ts iq mk me) : Met l yX3_isDone (Cond.code yX3_isDone cX3_isDone 2 none :: ALLW) ({ frames := 0, cells := 0, slots := 0, locals := 0 } : Room) (va_Pc [.ref (am 0)] (preM E (wM E am gm ks os ts iq mk me) hz)) (va_Qv (fun (u : (Nat → Int32) × (Nat → Int32) × (Nat → Int32) × (Nat → Int32) × (Nat → Int32) × (Nat → Int32) × (Nat → Int32)) => post u.1 u.2.1 u.2.2.1 u.2.2.2.1 u.2.2.2.2.1 u.2.2.2.2.2.1 u.2.2.2.2.2.2) (fun (u : (Nat → Int32) × (Nat → Int32) × (Nat → Int32) × (Nat → Int32) × (Nat → Int32) × (Nat → Int32) × (Nat → Int32)) t => va_P (eD E) vwCl (wM E am u.1 u.2.1 u.2.2.1 u.2.2.2.1 u.2.2.2.2.1 u.2.2.2.2.2.1 u.2.2.2.2.2.2) t.heap ∧ va_D (va_A (wM E am gm ks os ts iq mk me) hz) (wM E am u.1 u.2.1 u.2.2.1 u.2.2.2.1 u.2.2.2.2.1 u.2.2.2.2.2.1 u.2.2.2.2.2.2)) (va_A (wM E am gm ks os ts iq mk me) hz)) 0 0 (va_A (wM E am gm ks os ts iq mk me) hz) := by
  refine Met.ofW (cc := cX3_isDone) (maxL := 2) (ret := none) (by decide) rfl ?_
  intro p e s m args below meth c s₁ B hml hv
  obtain ⟨rfl, hpre⟩ := hv
  have hx := B.exec
  have hb := B.bytes
  have hr := B.returns
  have hlocks := B.notSynchronized
  have hts := atoms_spec (ws := (Cond.code yX3_isDone cX3_isDone 2 none :: ALLW)) B.pre
  have hta : ∀ w ∈ ALLW, w.before ([.ref (am 0)] : List Value).toArray s = true := fun w h => hts w (List.mem_cons_of_mem _ h)
  have hown : s.vm.findClass RX3 = some m.cls := findClass_of_methodNamed B.named
  obtain ⟨hsz, hP, hKE, hD0, hZ⟩ := hpre
  subst hsz
  have hD := hD0.self (sz := s.heap.size)
  generalize hAe : va_A (wM E am gm ks os ts iq mk me) s.heap.size = A at hD hZ ⊢
  have hA : ∀ q : Nat, s.heap.size ≤ q → A q := fun q h => by rw [← hAe]; exact Or.inr h
  have hS : va_S A s.heap s.heap [] := va_S.rf
  have hP : va_P (eD E) vwCl [((am 0), .inr (4, [.int (gm 0), .int (gm 1), .int (gm 2), .int (gm 3), .int (gm 4), .ref (am 1), .ref (am 2), .ref (am 3), .int (gm 8), .int (gm 9), .int (gm 10), .int (gm 11), .int (gm 12), .int (gm 13), .int (gm 14), .int (gm 15), .int (gm 16), .int (gm 17), .int (gm 18), .int (gm 19), .int (gm 20), .ref (am 4), .int (gm 22), .int (gm 23), .ref (am 5), .ref (am 6), .int (gm 26)])), ((am 1), .inl (eC E 0, 32, .inl ks)), ((am 2), .inl (eC E 0, 32, .inl os)), ((am 3), .inl (eC E 0, 32, .inl ts)), ((am 4), .inl (eC E 0, 3, .inl iq)), ((am 5), .inl (eC E 0, 320, .inl mk)), ((am 6), .inl (eC E 0, 320, .inl me))] s.heap := hP
  have hD : va_D A [((am 0), .inr (4, [.int (gm 0), .int (gm 1), .int (gm 2), .int (gm 3), .int (gm 4), .ref (am 1), .ref (am 2), .ref (am 3), .int (gm 8), .int (gm 9), .int (gm 10), .int (gm 11), .int (gm 12), .int (gm 13), .int (gm 14), .int (gm 15), .int (gm 16), .int (gm 17), .int (gm 18), .int (gm 19), .int (gm 20), .ref (am 4), .int (gm 22), .int (gm 23), .ref (am 5), .ref (am 6), .int (gm 26)])), ((am 1), .inl (eC E 0, 32, .inl ks)), ((am 2), .inl (eC E 0, 32, .inl os)), ((am 3), .inl (eC E 0, 32, .inl ts)), ((am 4), .inl (eC E 0, 3, .inl iq)), ((am 5), .inl (eC E 0, 320, .inl mk)), ((am 6), .inl (eC E 0, 320, .inl me))] := hD
  have hl := lv_entry ([.ref (am 0)]) (n := 2) (Nat.le_of_ble_eq_true rfl)
  rw [lg_entry_eq]
  generalize (lg_sl ([.ref (am 0)]) ++ List.replicate (2 - (lg_sl ([.ref (am 0)])).length) Slot.unset).toArray = ls at hl ⊢
  have hl : lv_has ls 2 [(0, .ref (am 0))] := hl
  have loop_12 : ∀ (n : Nat) (gm_L : Nat → Int32) (ks_L : Nat → Int32) (os_L : Nat → Int32) (ts_L : Nat → Int32) (iq_L : Nat → Int32) (mk_L : Nat → Int32) (me_L : Nat → Int32) (x1 : Int32), wp_X3_isDone_L12 E post n gm_L ks_L os_L ts_L iq_L mk_L me_L x1 → ∀ (H : Heap) (locs : List Loc), va_P (eD E) vwCl [((am 0), .inr (4, [.int (gm_L 0), .int (gm_L 1), .int (gm_L 2), .int (gm_L 3), .int (gm_L 4), .ref (am 1), .ref (am 2), .ref (am 3), .int (gm_L 8), .int (gm_L 9), .int (gm_L 10), .int (gm_L 11), .int (gm_L 12), .int (gm_L 13), .int (gm_L 14), .int (gm_L 15), .int (gm_L 16), .int (gm_L 17), .int (gm_L 18), .int (gm_L 19), .int (gm_L 20), .ref (am 4), .int (gm_L 22), .int (gm_L 23), .ref (am 5), .ref (am 6), .int (gm_L 26)])), ((am 1), .inl (eC E 0, 32, .inl ks_L)), ((am 2), .inl (eC E 0, 32, .inl os_L)), ((am 3), .inl (eC E 0, 32, .inl ts_L)), ((am 4), .inl (eC E 0, 3, .inl iq_L)), ((am 5), .inl (eC E 0, 320, .inl mk_L)), ((am 6), .inl (eC E 0, 320, .inl me_L))] H → va_D A [((am 0), .inr (4, [.int (gm_L 0), .int (gm_L 1), .int (gm_L 2), .int (gm_L 3), .int (gm_L 4), .ref (am 1), .ref (am 2), .ref (am 3), .int (gm_L 8), .int (gm_L 9), .int (gm_L 10), .int (gm_L 11), .int (gm_L 12), .int (gm_L 13), .int (gm_L 14), .int (gm_L 15), .int (gm_L 16), .int (gm_L 17), .int (gm_L 18), .int (gm_L 19), .int (gm_L 20), .ref (am 4), .int (gm_L 22), .int (gm_L 23), .ref (am 5), .ref (am 6), .int (gm_L 26)])), ((am 1), .inl (eC E 0, 32, .inl ks_L)), ((am 2), .inl (eC E 0, 32, .inl os_L)), ((am 3), .inl (eC E 0, 32, .inl ts_L)), ((am 4), .inl (eC E 0, 3, .inl iq_L)), ((am 5), .inl (eC E 0, 320, .inl mk_L)), ((am 6), .inl (eC E 0, 320, .inl me_L))] → va_S A s.heap H locs → ∀ (ls : Array Slot), lv_has ls 2 [(0, .ref (am 0)), (1, .int x1)] → W p l e (headSpec (Cond.code yX3_isDone cX3_isDone 2 none :: ALLW) ({ frames := 0, cells := 0, slots := 0, locals := 0 } : Room)).room s m ([.ref (am 0)] : List Value).toArray below meth c H locs 0 0 (MQ below (va_Qv (fun (u : (Nat → Int32) × (Nat → Int32) × (Nat → Int32) × (Nat → Int32) × (Nat → Int32) × (Nat → Int32) × (Nat → Int32)) => post u.1 u.2.1 u.2.2.1 u.2.2.2.1 u.2.2.2.2.1 u.2.2.2.2.2.1 u.2.2.2.2.2.2) (fun (u : (Nat → Int32) × (Nat → Int32) × (Nat → Int32) × (Nat → Int32) × (Nat → Int32) × (Nat → Int32) × (Nat → Int32)) t => va_P (eD E) vwCl (wM E am u.1 u.2.1 u.2.2.1 u.2.2.2.1 u.2.2.2.2.1 u.2.2.2.2.2.1 u.2.2.2.2.2.2) t.heap ∧ va_D A (wM E am u.1 u.2.1 u.2.2.1 u.2.2.2.1 u.2.2.2.2.1 u.2.2.2.2.2.1 u.2.2.2.2.2.2)) A) ([.ref (am 0)] : List Value).toArray s 0 0 A) (F0 m 12 ls []) := by
    intro n
    induction n with
    | zero => intro gm_L ks_L os_L ts_L iq_L mk_L me_L x1 hw; exact hw.elim
    | succ n ih =>
      intro gm_L ks_L os_L ts_L iq_L mk_L me_L x1 hw H locs hP hD hS ls hl
      unfold wp_X3_isDone_L12 at hw
      refine lv_iload_n hx hb dX3_isDone_12 rfl (lv_at hl 1 rfl) ?_
      refine lv_aload_n hx hb dX3_isDone_13 rfl (lv_at hl 0 rfl) ?_
      refine va_get (D := eD E) (ci := 4) (v := .int (gm_L 4)) (C := RX3) (T := TX3) (N := 27) hx hb hta lay_X3 hown hKE.1 hP 0 rfl rfl 4 (by decide) (hta _ tw_558) (fun _ h9 => h9) rfl dX3_isDone_14 ?_
      refine lv_icmp_ge (tgt := 68) hx hb dX3_isDone_17 (by decide) (fun c_281 => ?_) (fun c_281 => ?_)
      · have hw := hw.1 c_281
        refine lv_aload_n hx hb dX3_isDone_68 rfl (lv_at hl 0 rfl) ?_
        refine lv_iconst (v := 0) hx hb dX3_isDone_69 (by decide) ?_
        refine va_put (D := eD E) (ci := 4) (v := .int 0) (ty := .int) (C := RX3) (T := TX3) (N := 27) hx hb hta lay_X3 tyX3 tyX3_ok nmX3 hown hKE.1 hP hD hS 0 rfl rfl 13 (by decide) (hta _ tw_567) (fun _ h9 => h9) rfl (by decide +kernel) rfl rfl (Nat.le_of_ble_eq_true rfl) dX3_isDone_70 (fun H locs hP hD hS => ?_)
        have hP : va_P (eD E) vwCl [((am 0), .inr (4, [.int (gm_L 0), .int (gm_L 1), .int (gm_L 2), .int (gm_L 3), .int (gm_L 4), .ref (am 1), .ref (am 2), .ref (am 3), .int (gm_L 8), .int (gm_L 9), .int (gm_L 10), .int (gm_L 11), .int (gm_L 12), .int 0, .int (gm_L 14), .int (gm_L 15), .int (gm_L 16), .int (gm_L 17), .int (gm_L 18), .int (gm_L 19), .int (gm_L 20), .ref (am 4), .int (gm_L 22), .int (gm_L 23), .ref (am 5), .ref (am 6), .int (gm_L 26)])), ((am 1), .inl (eC E 0, 32, .inl ks_L)), ((am 2), .inl (eC E 0, 32, .inl os_L)), ((am 3), .inl (eC E 0, 32, .inl ts_L)), ((am 4), .inl (eC E 0, 3, .inl iq_L)), ((am 5), .inl (eC E 0, 320, .inl mk_L)), ((am 6), .inl (eC E 0, 320, .inl me_L))] H := hP
        have hD : va_D A [((am 0), .inr (4, [.int (gm_L 0), .int (gm_L 1), .int (gm_L 2), .int (gm_L 3), .int (gm_L 4), .ref (am 1), .ref (am 2), .ref (am 3), .int (gm_L 8), .int (gm_L 9), .int (gm_L 10), .int (gm_L 11), .int (gm_L 12), .int 0, .int (gm_L 14), .int (gm_L 15), .int (gm_L 16), .int (gm_L 17), .int (gm_L 18), .int (gm_L 19), .int (gm_L 20), .ref (am 4), .int (gm_L 22), .int (gm_L 23), .ref (am 5), .ref (am 6), .int (gm_L 26)])), ((am 1), .inl (eC E 0, 32, .inl ks_L)), ((am 2), .inl (eC E 0, 32, .inl os_L)), ((am 3), .inl (eC E 0, 32, .inl ts_L)), ((am 4), .inl (eC E 0, 3, .inl iq_L)), ((am 5), .inl (eC E 0, 320, .inl mk_L)), ((am 6), .inl (eC E 0, 320, .inl me_L))] := hD
        refine lv_aload_n hx hb dX3_isDone_73 rfl (lv_at hl 0 rfl) ?_
        refine lv_iconst (v := 0) hx hb dX3_isDone_74 (by decide) ?_
        refine va_put (D := eD E) (ci := 4) (v := .int 0) (ty := .int) (C := RX3) (T := TX3) (N := 27) hx hb hta lay_X3 tyX3 tyX3_ok nmX3 hown hKE.1 hP hD hS 0 rfl rfl 14 (by decide) (hta _ tw_568) (fun _ h9 => h9) rfl (by decide +kernel) rfl rfl (Nat.le_of_ble_eq_true rfl) dX3_isDone_75 (fun H locs hP hD hS => ?_)
        have hP : va_P (eD E) vwCl [((am 0), .inr (4, [.int (gm_L 0), .int (gm_L 1), .int (gm_L 2), .int (gm_L 3), .int (gm_L 4), .ref (am 1), .ref (am 2), .ref (am 3), .int (gm_L 8), .int (gm_L 9), .int (gm_L 10), .int (gm_L 11), .int (gm_L 12), .int 0, .int 0, .int (gm_L 15), .int (gm_L 16), .int (gm_L 17), .int (gm_L 18), .int (gm_L 19), .int (gm_L 20), .ref (am 4), .int (gm_L 22), .int (gm_L 23), .ref (am 5), .ref (am 6), .int (gm_L 26)])), ((am 1), .inl (eC E 0, 32, .inl ks_L)), ((am 2), .inl (eC E 0, 32, .inl os_L)), ((am 3), .inl (eC E 0, 32, .inl ts_L)), ((am 4), .inl (eC E 0, 3, .inl iq_L)), ((am 5), .inl (eC E 0, 320, .inl mk_L)), ((am 6), .inl (eC E 0, 320, .inl me_L))] H := hP
        have hD : va_D A [((am 0), .inr (4, [.int (gm_L 0), .int (gm_L 1), .int (gm_L 2), .int (gm_L 3), .int (gm_L 4), .ref (am 1), .ref (am 2), .ref (am 3), .int (gm_L 8), .int (gm_L 9), .int (gm_L 10), .int (gm_L 11), .int (gm_L 12), .int 0, .int 0, .int (gm_L 15), .int (gm_L 16), .int (gm_L 17), .int (gm_L 18), .int (gm_L 19), .int (gm_L 20), .ref (am 4), .int (gm_L 22), .int (gm_L 23), .ref (am 5), .ref (am 6), .int (gm_L 26)])), ((am 1), .inl (eC E 0, 32, .inl ks_L)), ((am 2), .inl (eC E 0, 32, .inl os_L)), ((am 3), .inl (eC E 0, 32, .inl ts_L)), ((am 4), .inl (eC E 0, 3, .inl iq_L)), ((am 5), .inl (eC E 0, 320, .inl mk_L)), ((am 6), .inl (eC E 0, 320, .inl me_L))] := hD
        refine lv_aload_n hx hb dX3_isDone_78 rfl (lv_at hl 0 rfl) ?_
        refine lv_aload_n hx hb dX3_isDone_79 rfl (lv_at hl 0 rfl) ?_
        refine va_get (D := eD E) (ci := 4) (v := .int (gm_L 17)) (C := RX3) (T := TX3) (N := 27) hx hb hta lay_X3 hown hKE.1 hP 0 rfl rfl 17 (by decide) (hta _ tw_571) (fun _ h9 => h9) rfl dX3_isDone_80 ?_
        refine va_put (D := eD E) (ci := 4) (v := .int (gm_L 17)) (ty := .int) (C := RX3) (T := TX3) (N := 27) hx hb hta lay_X3 tyX3 tyX3_ok nmX3 hown hKE.1 hP hD hS 0 rfl rfl 15 (by decide) (hta _ tw_569) (fun _ h9 => h9) rfl (by decide +kernel) rfl rfl (Nat.le_of_ble_eq_true rfl) dX3_isDone_83 (fun H locs hP hD hS => ?_)
        have hP : va_P (eD E) vwCl [((am 0), .inr (4, [.int (gm_L 0), .int (gm_L 1), .int (gm_L 2), .int (gm_L 3), .int (gm_L 4), .ref (am 1), .ref (am 2), .ref (am 3), .int (gm_L 8), .int (gm_L 9), .int (gm_L 10), .int (gm_L 11), .int (gm_L 12), .int 0, .int 0, .int (gm_L 17), .int (gm_L 16), .int (gm_L 17), .int (gm_L 18), .int (gm_L 19), .int (gm_L 20), .ref (am 4), .int (gm_L 22), .int (gm_L 23), .ref (am 5), .ref (am 6), .int (gm_L 26)])), ((am 1), .inl (eC E 0, 32, .inl ks_L)), ((am 2), .inl (eC E 0, 32, .inl os_L)), ((am 3), .inl (eC E 0, 32, .inl ts_L)), ((am 4), .inl (eC E 0, 3, .inl iq_L)), ((am 5), .inl (eC E 0, 320, .inl mk_L)), ((am 6), .inl (eC E 0, 320, .inl me_L))] H := hP
        have hD : va_D A [((am 0), .inr (4, [.int (gm_L 0), .int (gm_L 1), .int (gm_L 2), .int (gm_L 3), .int (gm_L 4), .ref (am 1), .ref (am 2), .ref (am 3), .int (gm_L 8), .int (gm_L 9), .int (gm_L 10), .int (gm_L 11), .int (gm_L 12), .int 0, .int 0, .int (gm_L 17), .int (gm_L 16), .int (gm_L 17), .int (gm_L 18), .int (gm_L 19), .int (gm_L 20), .ref (am 4), .int (gm_L 22), .int (gm_L 23), .ref (am 5), .ref (am 6), .int (gm_L 26)])), ((am 1), .inl (eC E 0, 32, .inl ks_L)), ((am 2), .inl (eC E 0, 32, .inl os_L)), ((am 3), .inl (eC E 0, 32, .inl ts_L)), ((am 4), .inl (eC E 0, 3, .inl iq_L)), ((am 5), .inl (eC E 0, 320, .inl mk_L)), ((am 6), .inl (eC E 0, 320, .inl me_L))] := hD
        refine lv_aload_n hx hb dX3_isDone_86 rfl (lv_at hl 0 rfl) ?_
        refine lv_aload_n hx hb dX3_isDone_87 rfl (lv_at hl 0 rfl) ?_
        refine va_get (D := eD E) (ci := 4) (v := .int (gm_L 18)) (C := RX3) (T := TX3) (N := 27) hx hb hta lay_X3 hown hKE.1 hP 0 rfl rfl 18 (by decide) (hta _ tw_572) (fun _ h9 => h9) rfl dX3_isDone_88 ?_
        refine va_put (D := eD E) (ci := 4) (v := .int (gm_L 18)) (ty := .int) (C := RX3) (T := TX3) (N := 27) hx hb hta lay_X3 tyX3 tyX3_ok nmX3 hown hKE.1 hP hD hS 0 rfl rfl 16 (by decide) (hta _ tw_570) (fun _ h9 => h9) rfl (by decide +kernel) rfl rfl (Nat.le_of_ble_eq_true rfl) dX3_isDone_91 (fun H locs hP hD hS => ?_)
        have hP : va_P (eD E) vwCl [((am 0), .inr (4, [.int (gm_L 0), .int (gm_L 1), .int (gm_L 2), .int (gm_L 3), .int (gm_L 4), .ref (am 1), .ref (am 2), .ref (am 3), .int (gm_L 8), .int (gm_L 9), .int (gm_L 10), .int (gm_L 11), .int (gm_L 12), .int 0, .int 0, .int (gm_L 17), .int (gm_L 18), .int (gm_L 17), .int (gm_L 18), .int (gm_L 19), .int (gm_L 20), .ref (am 4), .int (gm_L 22), .int (gm_L 23), .ref (am 5), .ref (am 6), .int (gm_L 26)])), ((am 1), .inl (eC E 0, 32, .inl ks_L)), ((am 2), .inl (eC E 0, 32, .inl os_L)), ((am 3), .inl (eC E 0, 32, .inl ts_L)), ((am 4), .inl (eC E 0, 3, .inl iq_L)), ((am 5), .inl (eC E 0, 320, .inl mk_L)), ((am 6), .inl (eC E 0, 320, .inl me_L))] H := hP
        have hD : va_D A [((am 0), .inr (4, [.int (gm_L 0), .int (gm_L 1), .int (gm_L 2), .int (gm_L 3), .int (gm_L 4), .ref (am 1), .ref (am 2), .ref (am 3), .int (gm_L 8), .int (gm_L 9), .int (gm_L 10), .int (gm_L 11), .int (gm_L 12), .int 0, .int 0, .int (gm_L 17), .int (gm_L 18), .int (gm_L 17), .int (gm_L 18), .int (gm_L 19), .int (gm_L 20), .ref (am 4), .int (gm_L 22), .int (gm_L 23), .ref (am 5), .ref (am 6), .int (gm_L 26)])), ((am 1), .inl (eC E 0, 32, .inl ks_L)), ((am 2), .inl (eC E 0, 32, .inl os_L)), ((am 3), .inl (eC E 0, 32, .inl ts_L)), ((am 4), .inl (eC E 0, 3, .inl iq_L)), ((am 5), .inl (eC E 0, 320, .inl mk_L)), ((am 6), .inl (eC E 0, 320, .inl me_L))] := hD
        have hP9 : va_P (eD E) vwCl (wM E am (upd (upd (upd (upd gm_L 13 0) 14 0) 15 (gm_L 17)) 16 (gm_L 18)) ks_L os_L ts_L iq_L mk_L me_L) H := hP
        have hD9 : va_D A (wM E am (upd (upd (upd (upd gm_L 13 0) 14 0) 15 (gm_L 17)) 16 (gm_L 18)) ks_L os_L ts_L iq_L mk_L me_L) := hD
        exact W.vret hx hb hr (fun t ht hW => ⟨⟨((upd (upd (upd (upd gm_L 13 0) 14 0) 15 (gm_L 17)) 16 (gm_L 18)), ks_L, os_L, ts_L, iq_L, mk_L, me_L), rfl, hw, ⟨by rw [ht]; exact hP9, hD9⟩⟩, hS.F ht⟩) hS.2.2 dX3_isDone_94
      · have hw := hw.2 c_281
        refine lv_aload_n hx hb dX3_isDone_20 rfl (lv_at hl 0 rfl) ?_
        refine va_get (D := eD E) (ci := 4) (v := .ref (am 1)) (C := RX3) (T := TX3) (N := 27) hx hb hta lay_X3 hown hKE.1 hP 0 rfl rfl 5 (by decide) (hta _ tw_559) (fun _ h9 => h9) rfl dX3_isDone_21 ?_
        refine lv_iload_n hx hb dX3_isDone_24 rfl (lv_at hl 1 rfl) ?_
        refine lv_aload_n hx hb dX3_isDone_25 rfl (lv_at hl 0 rfl) ?_
        refine va_get (D := eD E) (ci := 4) (v := .ref (am 1)) (C := RX3) (T := TX3) (N := 27) hx hb hta lay_X3 hown hKE.1 hP 0 rfl rfl 5 (by decide) (hta _ tw_559) (fun _ h9 => h9) rfl dX3_isDone_26 ?_
        refine lv_iload_n hx hb dX3_isDone_29 rfl (lv_at hl 1 rfl) ?_
        refine lv_iconst (v := 1) hx hb dX3_isDone_30 (by decide) ?_
        refine lv_iadd hx hb dX3_isDone_31 ?_
        obtain ⟨hi_282, hw⟩ := hw
        refine va_iald hx hb hKE.1 hP 1 0 rfl rfl hi_282 dX3_isDone_32 ?_
        obtain ⟨hi_283, hw⟩ := hw
        refine va_iast hx hb hKE.1 hP hD hS 1 0 rfl rfl hi_283 dX3_isDone_33 (fun H locs hP hD hS => ?_)
        have hP : va_P (eD E) vwCl [((am 0), .inr (4, [.int (gm_L 0), .int (gm_L 1), .int (gm_L 2), .int (gm_L 3), .int (gm_L 4), .ref (am 1), .ref (am 2), .ref (am 3), .int (gm_L 8), .int (gm_L 9), .int (gm_L 10), .int (gm_L 11), .int (gm_L 12), .int (gm_L 13), .int (gm_L 14), .int (gm_L 15), .int (gm_L 16), .int (gm_L 17), .int (gm_L 18), .int (gm_L 19), .int (gm_L 20), .ref (am 4), .int (gm_L 22), .int (gm_L 23), .ref (am 5), .ref (am 6), .int (gm_L 26)])), ((am 1), .inl (eC E 0, 32, .inl (upd ks_L x1.toNatClampNeg (ks_L (x1 + 1).toNatClampNeg)))), ((am 2), .inl (eC E 0, 32, .inl os_L)), ((am 3), .inl (eC E 0, 32, .inl ts_L)), ((am 4), .inl (eC E 0, 3, .inl iq_L)), ((am 5), .inl (eC E 0, 320, .inl mk_L)), ((am 6), .inl (eC E 0, 320, .inl me_L))] H := hP
        have hD : va_D A [((am 0), .inr (4, [.int (gm_L 0), .int (gm_L 1), .int (gm_L 2), .int (gm_L 3), .int (gm_L 4), .ref (am 1), .ref (am 2), .ref (am 3), .int (gm_L 8), .int (gm_L 9), .int (gm_L 10), .int (gm_L 11), .int (gm_L 12), .int (gm_L 13), .int (gm_L 14), .int (gm_L 15), .int (gm_L 16), .int (gm_L 17), .int (gm_L 18), .int (gm_L 19), .int (gm_L 20), .ref (am 4), .int (gm_L 22), .int (gm_L 23), .ref (am 5), .ref (am 6), .int (gm_L 26)])), ((am 1), .inl (eC E 0, 32, .inl (upd ks_L x1.toNatClampNeg (ks_L (x1 + 1).toNatClampNeg)))), ((am 2), .inl (eC E 0, 32, .inl os_L)), ((am 3), .inl (eC E 0, 32, .inl ts_L)), ((am 4), .inl (eC E 0, 3, .inl iq_L)), ((am 5), .inl (eC E 0, 320, .inl mk_L)), ((am 6), .inl (eC E 0, 320, .inl me_L))] := hD
        refine lv_aload_n hx hb dX3_isDone_34 rfl (lv_at hl 0 rfl) ?_
        refine va_get (D := eD E) (ci := 4) (v := .ref (am 2)) (C := RX3) (T := TX3) (N := 27) hx hb hta lay_X3 hown hKE.1 hP 0 rfl rfl 6 (by decide) (hta _ tw_560) (fun _ h9 => h9) rfl dX3_isDone_35 ?_
        refine lv_iload_n hx hb dX3_isDone_38 rfl (lv_at hl 1 rfl) ?_
        refine lv_aload_n hx hb dX3_isDone_39 rfl (lv_at hl 0 rfl) ?_
        refine va_get (D := eD E) (ci := 4) (v := .ref (am 2)) (C := RX3) (T := TX3) (N := 27) hx hb hta lay_X3 hown hKE.1 hP 0 rfl rfl 6 (by decide) (hta _ tw_560) (fun _ h9 => h9) rfl dX3_isDone_40 ?_
        refine lv_iload_n hx hb dX3_isDone_43 rfl (lv_at hl 1 rfl) ?_
        refine lv_iconst (v := 1) hx hb dX3_isDone_44 (by decide) ?_
        refine lv_iadd hx hb dX3_isDone_45 ?_
        refine va_iald hx hb hKE.1 hP 2 0 rfl rfl hi_282 dX3_isDone_46 ?_
        refine va_iast hx hb hKE.1 hP hD hS 2 0 rfl rfl hi_283 dX3_isDone_47 (fun H locs hP hD hS => ?_)
        have hP : va_P (eD E) vwCl [((am 0), .inr (4, [.int (gm_L 0), .int (gm_L 1), .int (gm_L 2), .int (gm_L 3), .int (gm_L 4), .ref (am 1), .ref (am 2), .ref (am 3), .int (gm_L 8), .int (gm_L 9), .int (gm_L 10), .int (gm_L 11), .int (gm_L 12), .int (gm_L 13), .int (gm_L 14), .int (gm_L 15), .int (gm_L 16), .int (gm_L 17), .int (gm_L 18), .int (gm_L 19), .int (gm_L 20), .ref (am 4), .int (gm_L 22), .int (gm_L 23), .ref (am 5), .ref (am 6), .int (gm_L 26)])), ((am 1), .inl (eC E 0, 32, .inl (upd ks_L x1.toNatClampNeg (ks_L (x1 + 1).toNatClampNeg)))), ((am 2), .inl (eC E 0, 32, .inl (upd os_L x1.toNatClampNeg (os_L (x1 + 1).toNatClampNeg)))), ((am 3), .inl (eC E 0, 32, .inl ts_L)), ((am 4), .inl (eC E 0, 3, .inl iq_L)), ((am 5), .inl (eC E 0, 320, .inl mk_L)), ((am 6), .inl (eC E 0, 320, .inl me_L))] H := hP
        have hD : va_D A [((am 0), .inr (4, [.int (gm_L 0), .int (gm_L 1), .int (gm_L 2), .int (gm_L 3), .int (gm_L 4), .ref (am 1), .ref (am 2), .ref (am 3), .int (gm_L 8), .int (gm_L 9), .int (gm_L 10), .int (gm_L 11), .int (gm_L 12), .int (gm_L 13), .int (gm_L 14), .int (gm_L 15), .int (gm_L 16), .int (gm_L 17), .int (gm_L 18), .int (gm_L 19), .int (gm_L 20), .ref (am 4), .int (gm_L 22), .int (gm_L 23), .ref (am 5), .ref (am 6), .int (gm_L 26)])), ((am 1), .inl (eC E 0, 32, .inl (upd ks_L x1.toNatClampNeg (ks_L (x1 + 1).toNatClampNeg)))), ((am 2), .inl (eC E 0, 32, .inl (upd os_L x1.toNatClampNeg (os_L (x1 + 1).toNatClampNeg)))), ((am 3), .inl (eC E 0, 32, .inl ts_L)), ((am 4), .inl (eC E 0, 3, .inl iq_L)), ((am 5), .inl (eC E 0, 320, .inl mk_L)), ((am 6), .inl (eC E 0, 320, .inl me_L))] := hD
        refine lv_aload_n hx hb dX3_isDone_48 rfl (lv_at hl 0 rfl) ?_
        refine va_get (D := eD E) (ci := 4) (v := .ref (am 3)) (C := RX3) (T := TX3) (N := 27) hx hb hta lay_X3 hown hKE.1 hP 0 rfl rfl 7 (by decide) (hta _ tw_561) (fun _ h9 => h9) rfl dX3_isDone_49 ?_
        refine lv_iload_n hx hb dX3_isDone_52 rfl (lv_at hl 1 rfl) ?_
        refine lv_aload_n hx hb dX3_isDone_53 rfl (lv_at hl 0 rfl) ?_
        refine va_get (D := eD E) (ci := 4) (v := .ref (am 3)) (C := RX3) (T := TX3) (N := 27) hx hb hta lay_X3 hown hKE.1 hP 0 rfl rfl 7 (by decide) (hta _ tw_561) (fun _ h9 => h9) rfl dX3_isDone_54 ?_
        refine lv_iload_n hx hb dX3_isDone_57 rfl (lv_at hl 1 rfl) ?_
        refine lv_iconst (v := 1) hx hb dX3_isDone_58 (by decide) ?_
        refine lv_iadd hx hb dX3_isDone_59 ?_
        refine va_iald hx hb hKE.1 hP 3 0 rfl rfl hi_282 dX3_isDone_60 ?_
        refine va_iast hx hb hKE.1 hP hD hS 3 0 rfl rfl hi_283 dX3_isDone_61 (fun H locs hP hD hS => ?_)
        have hP : va_P (eD E) vwCl [((am 0), .inr (4, [.int (gm_L 0), .int (gm_L 1), .int (gm_L 2), .int (gm_L 3), .int (gm_L 4), .ref (am 1), .ref (am 2), .ref (am 3), .int (gm_L 8), .int (gm_L 9), .int (gm_L 10), .int (gm_L 11), .int (gm_L 12), .int (gm_L 13), .int (gm_L 14), .int (gm_L 15), .int (gm_L 16), .int (gm_L 17), .int (gm_L 18), .int (gm_L 19), .int (gm_L 20), .ref (am 4), .int (gm_L 22), .int (gm_L 23), .ref (am 5), .ref (am 6), .int (gm_L 26)])), ((am 1), .inl (eC E 0, 32, .inl (upd ks_L x1.toNatClampNeg (ks_L (x1 + 1).toNatClampNeg)))), ((am 2), .inl (eC E 0, 32, .inl (upd os_L x1.toNatClampNeg (os_L (x1 + 1).toNatClampNeg)))), ((am 3), .inl (eC E 0, 32, .inl (upd ts_L x1.toNatClampNeg (ts_L (x1 + 1).toNatClampNeg)))), ((am 4), .inl (eC E 0, 3, .inl iq_L)), ((am 5), .inl (eC E 0, 320, .inl mk_L)), ((am 6), .inl (eC E 0, 320, .inl me_L))] H := hP
        have hD : va_D A [((am 0), .inr (4, [.int (gm_L 0), .int (gm_L 1), .int (gm_L 2), .int (gm_L 3), .int (gm_L 4), .ref (am 1), .ref (am 2), .ref (am 3), .int (gm_L 8), .int (gm_L 9), .int (gm_L 10), .int (gm_L 11), .int (gm_L 12), .int (gm_L 13), .int (gm_L 14), .int (gm_L 15), .int (gm_L 16), .int (gm_L 17), .int (gm_L 18), .int (gm_L 19), .int (gm_L 20), .ref (am 4), .int (gm_L 22), .int (gm_L 23), .ref (am 5), .ref (am 6), .int (gm_L 26)])), ((am 1), .inl (eC E 0, 32, .inl (upd ks_L x1.toNatClampNeg (ks_L (x1 + 1).toNatClampNeg)))), ((am 2), .inl (eC E 0, 32, .inl (upd os_L x1.toNatClampNeg (os_L (x1 + 1).toNatClampNeg)))), ((am 3), .inl (eC E 0, 32, .inl (upd ts_L x1.toNatClampNeg (ts_L (x1 + 1).toNatClampNeg)))), ((am 4), .inl (eC E 0, 3, .inl iq_L)), ((am 5), .inl (eC E 0, 320, .inl mk_L)), ((am 6), .inl (eC E 0, 320, .inl me_L))] := hD
        refine lv_iinc (v := (x1 + 1)) (lv' := [(1, .int (x1 + 1)), (0, .ref (am 0))]) hx hb dX3_isDone_62 hl (k := 1) rfl rfl (by decide) rfl (fun ls hl => ?_)
        refine lv_goto (tgt := 12) hx hb dX3_isDone_65 (by decide) ?_
        exact ih gm_L (upd ks_L x1.toNatClampNeg (ks_L (x1 + 1).toNatClampNeg)) (upd os_L x1.toNatClampNeg (os_L (x1 + 1).toNatClampNeg)) (upd ts_L x1.toNatClampNeg (ts_L (x1 + 1).toNatClampNeg)) iq_L mk_L me_L (x1 + 1) hw _ _ hP hD hS ls (lv_sub hl [1, 0] rfl)
  unfold wp_X3_isDone at hw
  refine lv_aload_n hx hb dX3_isDone_0 rfl (lv_at hl 0 rfl) ?_
  refine lv_dup hx hb dX3_isDone_1 rfl ?_
  refine va_get (D := eD E) (ci := 4) (v := .int (gm 4)) (C := RX3) (T := TX3) (N := 27) hx hb hta lay_X3 hown hKE.1 hP 0 rfl rfl 4 (by decide) (hta _ tw_558) (fun _ h9 => h9) rfl dX3_isDone_2 ?_
  refine lv_iconst (v := 1) hx hb dX3_isDone_5 (by decide) ?_
  refine lv_isub hx hb dX3_isDone_6 ?_
  refine va_put (D := eD E) (ci := 4) (v := .int ((gm 4) - 1)) (ty := .int) (C := RX3) (T := TX3) (N := 27) hx hb hta lay_X3 tyX3 tyX3_ok nmX3 hown hKE.1 hP hD hS 0 rfl rfl 4 (by decide) (hta _ tw_558) (fun _ h9 => h9) rfl (by decide +kernel) rfl rfl (Nat.le_of_ble_eq_true rfl) dX3_isDone_7 (fun H locs hP hD hS => ?_)
  have hP : va_P (eD E) vwCl [((am 0), .inr (4, [.int (gm 0), .int (gm 1), .int (gm 2), .int (gm 3), .int ((gm 4) - 1), .ref (am 1), .ref (am 2), .ref (am 3), .int (gm 8), .int (gm 9), .int (gm 10), .int (gm 11), .int (gm 12), .int (gm 13), .int (gm 14), .int (gm 15), .int (gm 16), .int (gm 17), .int (gm 18), .int (gm 19), .int (gm 20), .ref (am 4), .int (gm 22), .int (gm 23), .ref (am 5), .ref (am 6), .int (gm 26)])), ((am 1), .inl (eC E 0, 32, .inl ks)), ((am 2), .inl (eC E 0, 32, .inl os)), ((am 3), .inl (eC E 0, 32, .inl ts)), ((am 4), .inl (eC E 0, 3, .inl iq)), ((am 5), .inl (eC E 0, 320, .inl mk)), ((am 6), .inl (eC E 0, 320, .inl me))] H := hP
  have hD : va_D A [((am 0), .inr (4, [.int (gm 0), .int (gm 1), .int (gm 2), .int (gm 3), .int ((gm 4) - 1), .ref (am 1), .ref (am 2), .ref (am 3), .int (gm 8), .int (gm 9), .int (gm 10), .int (gm 11), .int (gm 12), .int (gm 13), .int (gm 14), .int (gm 15), .int (gm 16), .int (gm 17), .int (gm 18), .int (gm 19), .int (gm 20), .ref (am 4), .int (gm 22), .int (gm 23), .ref (am 5), .ref (am 6), .int (gm 26)])), ((am 1), .inl (eC E 0, 32, .inl ks)), ((am 2), .inl (eC E 0, 32, .inl os)), ((am 3), .inl (eC E 0, 32, .inl ts)), ((am 4), .inl (eC E 0, 3, .inl iq)), ((am 5), .inl (eC E 0, 320, .inl mk)), ((am 6), .inl (eC E 0, 320, .inl me))] := hD
  refine lv_iconst (v := 0) hx hb dX3_isDone_10 (by decide) ?_
  refine lv_istore_n (lv' := [(1, .int 0), (0, .ref (am 0))]) hx hb dX3_isDone_11 rfl hl (by decide) rfl (fun ls hl => ?_)
  obtain ⟨n_284, hw⟩ := hw
  exact loop_12 n_284 (upd gm 4 ((gm 4) - 1)) ks os ts iq mk me 0 hw _ _ hP hD hS ls (lv_sub hl [1, 0] rfl)
def wp_X3_lifts (E : EV) (post : (Nat → Int32) → (Nat → Int32) → (Nat → Int32) → (Nat → Int32) → (Nat → Int32) → (Nat → Int32) → (Nat → Int32) → Prop) (gm : Nat → Int32) (ks : Nat → Int32) (os : Nat → Int32) (ts : Nat → Int32) (iq : Nat → Int32) (mk : Nat → Int32) (me : Nat → Int32) (p0 : Int32) : Prop := ((((gm 14) + 1) = 2 → ((p0 = 0 → (wp_X3_marksCell E (fun (gm_288 : Nat → Int32) (ks_289 : Nat → Int32) (os_290 : Nat → Int32) (ts_291 : Nat → Int32) (iq_292 : Nat → Int32) (mk_293 : Nat → Int32) (me_294 : Nat → Int32) => post gm_288 ks_289 os_290 ts_291 iq_292 mk_293 me_294) (upd (upd gm 14 0) 19 1) ks os ts iq mk me)) ∧ (¬ (p0 = 0) → post (upd (upd gm 14 0) 19 0) ks os ts iq mk me))) ∧ (¬ ((gm 14) + 1) = 2 → post (upd gm 14 ((gm 14) + 1)) ks os ts iq mk me))
set_option maxHeartbeats 4000000 in
set_option maxRecDepth 100000 in
theorem c_X3_lifts (E : EV) (l : Launch) (am : Nat → Nat) (gm : Nat → Int32) (ks : Nat → Int32) (os : Nat → Int32) (ts : Nat → Int32) (iq : Nat → Int32) (mk : Nat → Int32) (me : Nat → Int32) (p0 : Int32) (hz : Nat) (post : (Nat → Int32) → (Nat → Int32) → (Nat → Int32) → (Nat → Int32) → (Nat → Int32) → (Nat → Int32) → (Nat → Int32) → Prop) (hw : wp_X3_lifts E post gm ks os ts iq mk me p0) : Met l yX3_lifts (Cond.code yX3_lifts cX3_lifts 2 none :: ALLW) ({ frames := 1, cells := 0, slots := 0, locals := 21 } : Room) (va_Pc [.ref (am 0), .int p0] (preM E (wM E am gm ks os ts iq mk me) hz)) (va_Qv (fun (u : (Nat → Int32) × (Nat → Int32) × (Nat → Int32) × (Nat → Int32) × (Nat → Int32) × (Nat → Int32) × (Nat → Int32)) => post u.1 u.2.1 u.2.2.1 u.2.2.2.1 u.2.2.2.2.1 u.2.2.2.2.2.1 u.2.2.2.2.2.2) (fun (u : (Nat → Int32) × (Nat → Int32) × (Nat → Int32) × (Nat → Int32) × (Nat → Int32) × (Nat → Int32) × (Nat → Int32)) t => va_P (eD E) vwCl (wM E am u.1 u.2.1 u.2.2.1 u.2.2.2.1 u.2.2.2.2.1 u.2.2.2.2.2.1 u.2.2.2.2.2.2) t.heap ∧ va_D (va_A (wM E am gm ks os ts iq mk me) hz) (wM E am u.1 u.2.1 u.2.2.1 u.2.2.2.1 u.2.2.2.2.1 u.2.2.2.2.2.1 u.2.2.2.2.2.2)) (va_A (wM E am gm ks os ts iq mk me) hz)) 0 0 (va_A (wM E am gm ks os ts iq mk me) hz) := by
  refine Met.ofW (cc := cX3_lifts) (maxL := 2) (ret := none) (by decide) rfl ?_
  intro p e s m args below meth c s₁ B hml hv
  obtain ⟨rfl, hpre⟩ := hv
  have hx := B.exec
  have hb := B.bytes
  have hr := B.returns
  have hlocks := B.notSynchronized
  have hts := atoms_spec (ws := (Cond.code yX3_lifts cX3_lifts 2 none :: ALLW)) B.pre
  have hta : ∀ w ∈ ALLW, w.before ([.ref (am 0), .int p0] : List Value).toArray s = true := fun w h => hts w (List.mem_cons_of_mem _ h)
  have hown : s.vm.findClass RX3 = some m.cls := findClass_of_methodNamed B.named
  obtain ⟨hsz, hP, hKE, hD0, hZ⟩ := hpre
  subst hsz
  have hD := hD0.self (sz := s.heap.size)
  generalize hAe : va_A (wM E am gm ks os ts iq mk me) s.heap.size = A at hD hZ ⊢
  have hA : ∀ q : Nat, s.heap.size ≤ q → A q := fun q h => by rw [← hAe]; exact Or.inr h
  have hS : va_S A s.heap s.heap [] := va_S.rf
  have hP : va_P (eD E) vwCl [((am 0), .inr (4, [.int (gm 0), .int (gm 1), .int (gm 2), .int (gm 3), .int (gm 4), .ref (am 1), .ref (am 2), .ref (am 3), .int (gm 8), .int (gm 9), .int (gm 10), .int (gm 11), .int (gm 12), .int (gm 13), .int (gm 14), .int (gm 15), .int (gm 16), .int (gm 17), .int (gm 18), .int (gm 19), .int (gm 20), .ref (am 4), .int (gm 22), .int (gm 23), .ref (am 5), .ref (am 6), .int (gm 26)])), ((am 1), .inl (eC E 0, 32, .inl ks)), ((am 2), .inl (eC E 0, 32, .inl os)), ((am 3), .inl (eC E 0, 32, .inl ts)), ((am 4), .inl (eC E 0, 3, .inl iq)), ((am 5), .inl (eC E 0, 320, .inl mk)), ((am 6), .inl (eC E 0, 320, .inl me))] s.heap := hP
  have hD : va_D A [((am 0), .inr (4, [.int (gm 0), .int (gm 1), .int (gm 2), .int (gm 3), .int (gm 4), .ref (am 1), .ref (am 2), .ref (am 3), .int (gm 8), .int (gm 9), .int (gm 10), .int (gm 11), .int (gm 12), .int (gm 13), .int (gm 14), .int (gm 15), .int (gm 16), .int (gm 17), .int (gm 18), .int (gm 19), .int (gm 20), .ref (am 4), .int (gm 22), .int (gm 23), .ref (am 5), .ref (am 6), .int (gm 26)])), ((am 1), .inl (eC E 0, 32, .inl ks)), ((am 2), .inl (eC E 0, 32, .inl os)), ((am 3), .inl (eC E 0, 32, .inl ts)), ((am 4), .inl (eC E 0, 3, .inl iq)), ((am 5), .inl (eC E 0, 320, .inl mk)), ((am 6), .inl (eC E 0, 320, .inl me))] := hD
  have hl := lv_entry ([.ref (am 0), .int p0]) (n := 2) (Nat.le_of_ble_eq_true rfl)
  rw [lg_entry_eq]
  generalize (lg_sl ([.ref (am 0), .int p0]) ++ List.replicate (2 - (lg_sl ([.ref (am 0), .int p0])).length) Slot.unset).toArray = ls at hl ⊢
  have hl : lv_has ls 2 [(0, .ref (am 0)), (1, .int p0)] := hl
  unfold wp_X3_lifts at hw
  refine lv_aload_n hx hb dX3_lifts_0 rfl (lv_at hl 0 rfl) ?_
  refine lv_dup hx hb dX3_lifts_1 rfl ?_
  refine va_get (D := eD E) (ci := 4) (v := .int (gm 14)) (C := RX3) (T := TX3) (N := 27) hx hb hta lay_X3 hown hKE.1 hP 0 rfl rfl 14 (by decide) (hta _ tw_568) (fun _ h9 => h9) rfl dX3_lifts_2 ?_
  refine lv_iconst (v := 1) hx hb dX3_lifts_5 (by decide) ?_
  refine lv_iadd hx hb dX3_lifts_6 ?_
  refine va_put (D := eD E) (ci := 4) (v := .int ((gm 14) + 1)) (ty := .int) (C := RX3) (T := TX3) (N := 27) hx hb hta lay_X3 tyX3 tyX3_ok nmX3 hown hKE.1 hP hD hS 0 rfl rfl 14 (by decide) (hta _ tw_568) (fun _ h9 => h9) rfl (by decide +kernel) rfl rfl (Nat.le_of_ble_eq_true rfl) dX3_lifts_7 (fun H locs hP hD hS => ?_)
  have hP : va_P (eD E) vwCl [((am 0), .inr (4, [.int (gm 0), .int (gm 1), .int (gm 2), .int (gm 3), .int (gm 4), .ref (am 1), .ref (am 2), .ref (am 3), .int (gm 8), .int (gm 9), .int (gm 10), .int (gm 11), .int (gm 12), .int (gm 13), .int ((gm 14) + 1), .int (gm 15), .int (gm 16), .int (gm 17), .int (gm 18), .int (gm 19), .int (gm 20), .ref (am 4), .int (gm 22), .int (gm 23), .ref (am 5), .ref (am 6), .int (gm 26)])), ((am 1), .inl (eC E 0, 32, .inl ks)), ((am 2), .inl (eC E 0, 32, .inl os)), ((am 3), .inl (eC E 0, 32, .inl ts)), ((am 4), .inl (eC E 0, 3, .inl iq)), ((am 5), .inl (eC E 0, 320, .inl mk)), ((am 6), .inl (eC E 0, 320, .inl me))] H := hP
  have hD : va_D A [((am 0), .inr (4, [.int (gm 0), .int (gm 1), .int (gm 2), .int (gm 3), .int (gm 4), .ref (am 1), .ref (am 2), .ref (am 3), .int (gm 8), .int (gm 9), .int (gm 10), .int (gm 11), .int (gm 12), .int (gm 13), .int ((gm 14) + 1), .int (gm 15), .int (gm 16), .int (gm 17), .int (gm 18), .int (gm 19), .int (gm 20), .ref (am 4), .int (gm 22), .int (gm 23), .ref (am 5), .ref (am 6), .int (gm 26)])), ((am 1), .inl (eC E 0, 32, .inl ks)), ((am 2), .inl (eC E 0, 32, .inl os)), ((am 3), .inl (eC E 0, 32, .inl ts)), ((am 4), .inl (eC E 0, 3, .inl iq)), ((am 5), .inl (eC E 0, 320, .inl mk)), ((am 6), .inl (eC E 0, 320, .inl me))] := hD
  refine lv_aload_n hx hb dX3_lifts_10 rfl (lv_at hl 0 rfl) ?_
  refine va_get (D := eD E) (ci := 4) (v := .int ((gm 14) + 1)) (C := RX3) (T := TX3) (N := 27) hx hb hta lay_X3 hown hKE.1 hP 0 rfl rfl 14 (by decide) (hta _ tw_568) (fun _ h9 => h9) rfl dX3_lifts_11 ?_
  refine lv_iconst (v := 2) hx hb dX3_lifts_14 (by decide) ?_
  refine lv_icmp_ne (tgt := 44) hx hb dX3_lifts_15 (by decide) (fun c_285 => ?_) (fun c_285 => ?_)
  · have hw := hw.2 c_285
    have hP9 : va_P (eD E) vwCl (wM E am (upd gm 14 ((gm 14) + 1)) ks os ts iq mk me) H := hP
    have hD9 : va_D A (wM E am (upd gm 14 ((gm 14) + 1)) ks os ts iq mk me) := hD
    exact W.vret hx hb hr (fun t ht hW => ⟨⟨((upd gm 14 ((gm 14) + 1)), ks, os, ts, iq, mk, me), rfl, hw, ⟨by rw [ht]; exact hP9, hD9⟩⟩, hS.F ht⟩) hS.2.2 dX3_lifts_44
  · have hw := hw.1 c_285
    refine lv_aload_n hx hb dX3_lifts_18 rfl (lv_at hl 0 rfl) ?_
    refine lv_iconst (v := 0) hx hb dX3_lifts_19 (by decide) ?_
    refine va_put (D := eD E) (ci := 4) (v := .int 0) (ty := .int) (C := RX3) (T := TX3) (N := 27) hx hb hta lay_X3 tyX3 tyX3_ok nmX3 hown hKE.1 hP hD hS 0 rfl rfl 14 (by decide) (hta _ tw_568) (fun _ h9 => h9) rfl (by decide +kernel) rfl rfl (Nat.le_of_ble_eq_true rfl) dX3_lifts_20 (fun H locs hP hD hS => ?_)
    have hP : va_P (eD E) vwCl [((am 0), .inr (4, [.int (gm 0), .int (gm 1), .int (gm 2), .int (gm 3), .int (gm 4), .ref (am 1), .ref (am 2), .ref (am 3), .int (gm 8), .int (gm 9), .int (gm 10), .int (gm 11), .int (gm 12), .int (gm 13), .int 0, .int (gm 15), .int (gm 16), .int (gm 17), .int (gm 18), .int (gm 19), .int (gm 20), .ref (am 4), .int (gm 22), .int (gm 23), .ref (am 5), .ref (am 6), .int (gm 26)])), ((am 1), .inl (eC E 0, 32, .inl ks)), ((am 2), .inl (eC E 0, 32, .inl os)), ((am 3), .inl (eC E 0, 32, .inl ts)), ((am 4), .inl (eC E 0, 3, .inl iq)), ((am 5), .inl (eC E 0, 320, .inl mk)), ((am 6), .inl (eC E 0, 320, .inl me))] H := hP
    have hD : va_D A [((am 0), .inr (4, [.int (gm 0), .int (gm 1), .int (gm 2), .int (gm 3), .int (gm 4), .ref (am 1), .ref (am 2), .ref (am 3), .int (gm 8), .int (gm 9), .int (gm 10), .int (gm 11), .int (gm 12), .int (gm 13), .int 0, .int (gm 15), .int (gm 16), .int (gm 17), .int (gm 18), .int (gm 19), .int (gm 20), .ref (am 4), .int (gm 22), .int (gm 23), .ref (am 5), .ref (am 6), .int (gm 26)])), ((am 1), .inl (eC E 0, 32, .inl ks)), ((am 2), .inl (eC E 0, 32, .inl os)), ((am 3), .inl (eC E 0, 32, .inl ts)), ((am 4), .inl (eC E 0, 3, .inl iq)), ((am 5), .inl (eC E 0, 320, .inl mk)), ((am 6), .inl (eC E 0, 320, .inl me))] := hD
    refine lv_aload_n hx hb dX3_lifts_23 rfl (lv_at hl 0 rfl) ?_
    refine lv_iload_n hx hb dX3_lifts_24 rfl (lv_at hl 1 rfl) ?_
    refine lv_if_ne (tgt := 32) hx hb dX3_lifts_25 (by decide) (fun c_286 => ?_) (fun c_286 => ?_)
    · have hw := hw.2 c_286
      refine lv_iconst (v := 0) hx hb dX3_lifts_32 (by decide) ?_
      refine va_put (D := eD E) (ci := 4) (v := .int 0) (ty := .boolean) (C := RX3) (T := TX3) (N := 27) hx hb hta lay_X3 tyX3 tyX3_ok nmX3 hown hKE.1 hP hD hS 0 rfl rfl 19 (by decide) (hta _ tw_573) (fun _ h9 => h9) rfl (by decide +kernel) rfl rfl (Nat.le_of_ble_eq_true rfl) dX3_lifts_33 (fun H locs hP hD hS => ?_)
      have hP : va_P (eD E) vwCl [((am 0), .inr (4, [.int (gm 0), .int (gm 1), .int (gm 2), .int (gm 3), .int (gm 4), .ref (am 1), .ref (am 2), .ref (am 3), .int (gm 8), .int (gm 9), .int (gm 10), .int (gm 11), .int (gm 12), .int (gm 13), .int 0, .int (gm 15), .int (gm 16), .int (gm 17), .int (gm 18), .int 0, .int (gm 20), .ref (am 4), .int (gm 22), .int (gm 23), .ref (am 5), .ref (am 6), .int (gm 26)])), ((am 1), .inl (eC E 0, 32, .inl ks)), ((am 2), .inl (eC E 0, 32, .inl os)), ((am 3), .inl (eC E 0, 32, .inl ts)), ((am 4), .inl (eC E 0, 3, .inl iq)), ((am 5), .inl (eC E 0, 320, .inl mk)), ((am 6), .inl (eC E 0, 320, .inl me))] H := hP
      have hD : va_D A [((am 0), .inr (4, [.int (gm 0), .int (gm 1), .int (gm 2), .int (gm 3), .int (gm 4), .ref (am 1), .ref (am 2), .ref (am 3), .int (gm 8), .int (gm 9), .int (gm 10), .int (gm 11), .int (gm 12), .int (gm 13), .int 0, .int (gm 15), .int (gm 16), .int (gm 17), .int (gm 18), .int 0, .int (gm 20), .ref (am 4), .int (gm 22), .int (gm 23), .ref (am 5), .ref (am 6), .int (gm 26)])), ((am 1), .inl (eC E 0, 32, .inl ks)), ((am 2), .inl (eC E 0, 32, .inl os)), ((am 3), .inl (eC E 0, 32, .inl ts)), ((am 4), .inl (eC E 0, 3, .inl iq)), ((am 5), .inl (eC E 0, 320, .inl mk)), ((am 6), .inl (eC E 0, 320, .inl me))] := hD
      refine lv_iload_n hx hb dX3_lifts_36 rfl (lv_at hl 1 rfl) ?_
      refine lv_if_ne (tgt := 44) hx hb dX3_lifts_37 (by decide) (fun _ => ?_) (fun c9 => absurd c9 c_286)
      have hP9 : va_P (eD E) vwCl (wM E am (upd (upd gm 14 0) 19 0) ks os ts iq mk me) H := hP
      have hD9 : va_D A (wM E am (upd (upd gm 14 0) 19 0) ks os ts iq mk me) := hD
      exact W.vret hx hb hr (fun t ht hW => ⟨⟨((upd (upd gm 14 0) 19 0), ks, os, ts, iq, mk, me), rfl, hw, ⟨by rw [ht]; exact hP9, hD9⟩⟩, hS.F ht⟩) hS.2.2 dX3_lifts_44
    · have hw := hw.1 c_286
      refine lv_iconst (v := 1) hx hb dX3_lifts_28 (by decide) ?_
      refine lv_goto (tgt := 33) hx hb dX3_lifts_29 (by decide) ?_
      refine va_put (D := eD E) (ci := 4) (v := .int 1) (ty := .boolean) (C := RX3) (T := TX3) (N := 27) hx hb hta lay_X3 tyX3 tyX3_ok nmX3 hown hKE.1 hP hD hS 0 rfl rfl 19 (by decide) (hta _ tw_573) (fun _ h9 => h9) rfl (by decide +kernel) rfl rfl (Nat.le_of_ble_eq_true rfl) dX3_lifts_33 (fun H locs hP hD hS => ?_)
      have hP : va_P (eD E) vwCl [((am 0), .inr (4, [.int (gm 0), .int (gm 1), .int (gm 2), .int (gm 3), .int (gm 4), .ref (am 1), .ref (am 2), .ref (am 3), .int (gm 8), .int (gm 9), .int (gm 10), .int (gm 11), .int (gm 12), .int (gm 13), .int 0, .int (gm 15), .int (gm 16), .int (gm 17), .int (gm 18), .int 1, .int (gm 20), .ref (am 4), .int (gm 22), .int (gm 23), .ref (am 5), .ref (am 6), .int (gm 26)])), ((am 1), .inl (eC E 0, 32, .inl ks)), ((am 2), .inl (eC E 0, 32, .inl os)), ((am 3), .inl (eC E 0, 32, .inl ts)), ((am 4), .inl (eC E 0, 3, .inl iq)), ((am 5), .inl (eC E 0, 320, .inl mk)), ((am 6), .inl (eC E 0, 320, .inl me))] H := hP
      have hD : va_D A [((am 0), .inr (4, [.int (gm 0), .int (gm 1), .int (gm 2), .int (gm 3), .int (gm 4), .ref (am 1), .ref (am 2), .ref (am 3), .int (gm 8), .int (gm 9), .int (gm 10), .int (gm 11), .int (gm 12), .int (gm 13), .int 0, .int (gm 15), .int (gm 16), .int (gm 17), .int (gm 18), .int 1, .int (gm 20), .ref (am 4), .int (gm 22), .int (gm 23), .ref (am 5), .ref (am 6), .int (gm 26)])), ((am 1), .inl (eC E 0, 32, .inl ks)), ((am 2), .inl (eC E 0, 32, .inl os)), ((am 3), .inl (eC E 0, 32, .inl ts)), ((am 4), .inl (eC E 0, 3, .inl iq)), ((am 5), .inl (eC E 0, 320, .inl mk)), ((am 6), .inl (eC E 0, 320, .inl me))] := hD
      refine lv_iload_n hx hb dX3_lifts_36 rfl (lv_at hl 1 rfl) ?_
      refine lv_if_ne (tgt := 44) hx hb dX3_lifts_37 (by decide) (fun c9 => absurd c_286 c9) (fun _ => ?_)
      refine lv_aload_n hx hb dX3_lifts_40 rfl (lv_at hl 0 rfl) ?_
      have hPc : va_P (eD E) vwCl (wM E am (upd (upd gm 14 0) 19 1) ks os ts iq mk me) H := hP
      have hDc : va_D A (wM E am (upd (upd gm 14 0) 19 1) ks os ts iq mk me) := hD
      have hFc : ∀ q, va_A (wM E am (upd (upd gm 14 0) 19 1) ks os ts iq mk me) H.size q → A q := frS hDc hS hA
      refine va_callv (va_runV (As := []) (rest := []) ⟨hx, hb, hml, hown, hta⟩ (c_X3_marksCell E l am (upd (upd gm 14 0) 19 1) ks os ts iq mk me H.size _ hw) (pcV (n := 0) hta tw_710 tw_707 tw_6 tw_709 tp_40 rfl rfl hd_X3_marksCell ⟨Nat.le_of_ble_eq_true rfl, Nat.le_of_ble_eq_true rfl⟩) ⟨fbM, va_recv hKE.1 hP (ci := 4) (q0 := 0) rfl rfl, fun U hU hW => ⟨rfl, preM.mk hPc hKE hDc hZ hS hFc hU hW⟩⟩ rfl rfl hl.1 rfl (lv_room (Nat.le_of_ble_eq_true rfl)) dX3_lifts_41 ⟨Nat.le_of_ble_eq_true rfl, Nat.le_of_ble_eq_true rfl⟩) hS (fun q _ h => hFc q h) hFc (fun u t H locs ht hvm hw hB hz1 hk1 hS => ?_)
      obtain ⟨gm_288, ks_289, os_290, ts_291, iq_292, mk_293, me_294⟩ := u
      obtain ⟨hP1, hD1⟩ := hB
      rw [ht] at hP1
      try dsimp only at hw hP1 hD1
      have hP : va_P (eD E) vwCl [((am 0), .inr (4, [.int (gm_288 0), .int (gm_288 1), .int (gm_288 2), .int (gm_288 3), .int (gm_288 4), .ref (am 1), .ref (am 2), .ref (am 3), .int (gm_288 8), .int (gm_288 9), .int (gm_288 10), .int (gm_288 11), .int (gm_288 12), .int (gm_288 13), .int (gm_288 14), .int (gm_288 15), .int (gm_288 16), .int (gm_288 17), .int (gm_288 18), .int (gm_288 19), .int (gm_288 20), .ref (am 4), .int (gm_288 22), .int (gm_288 23), .ref (am 5), .ref (am 6), .int (gm_288 26)])), ((am 1), .inl (eC E 0, 32, .inl ks_289)), ((am 2), .inl (eC E 0, 32, .inl os_290)), ((am 3), .inl (eC E 0, 32, .inl ts_291)), ((am 4), .inl (eC E 0, 3, .inl iq_292)), ((am 5), .inl (eC E 0, 320, .inl mk_293)), ((am 6), .inl (eC E 0, 320, .inl me_294))] H := hP1
      have hD : va_D A [((am 0), .inr (4, [.int (gm_288 0), .int (gm_288 1), .int (gm_288 2), .int (gm_288 3), .int (gm_288 4), .ref (am 1), .ref (am 2), .ref (am 3), .int (gm_288 8), .int (gm_288 9), .int (gm_288 10), .int (gm_288 11), .int (gm_288 12), .int (gm_288 13), .int (gm_288 14), .int (gm_288 15), .int (gm_288 16), .int (gm_288 17), .int (gm_288 18), .int (gm_288 19), .int (gm_288 20), .ref (am 4), .int (gm_288 22), .int (gm_288 23), .ref (am 5), .ref (am 6), .int (gm_288 26)])), ((am 1), .inl (eC E 0, 32, .inl ks_289)), ((am 2), .inl (eC E 0, 32, .inl os_290)), ((am 3), .inl (eC E 0, 32, .inl ts_291)), ((am 4), .inl (eC E 0, 3, .inl iq_292)), ((am 5), .inl (eC E 0, 320, .inl mk_293)), ((am 6), .inl (eC E 0, 320, .inl me_294))] := hD1.weaken (fun _ q _ h => hFc q.1 h)
      have hP9 : va_P (eD E) vwCl (wM E am gm_288 ks_289 os_290 ts_291 iq_292 mk_293 me_294) H := hP
      have hD9 : va_D A (wM E am gm_288 ks_289 os_290 ts_291 iq_292 mk_293 me_294) := hD
      exact W.vret hx hb hr (fun t ht hW => ⟨⟨(gm_288, ks_289, os_290, ts_291, iq_292, mk_293, me_294), rfl, hw, ⟨by rw [ht]; exact hP9, hD9⟩⟩, hS.F ht⟩) hS.2.2 dX3_lifts_44
def wp_X3_changes (E : EV) (post : (Nat → Int32) → (Nat → Int32) → (Nat → Int32) → (Nat → Int32) → (Nat → Int32) → (Nat → Int32) → (Nat → Int32) → Prop) (gm : Nat → Int32) (ks : Nat → Int32) (os : Nat → Int32) (ts : Nat → Int32) (iq : Nat → Int32) (mk : Nat → Int32) (me : Nat → Int32) : Prop := ((((gm 14) + 1) = 3 → (wp_X3_isDone E (fun (gm_297 : Nat → Int32) (ks_298 : Nat → Int32) (os_299 : Nat → Int32) (ts_300 : Nat → Int32) (iq_301 : Nat → Int32) (mk_302 : Nat → Int32) (me_303 : Nat → Int32) => post gm_297 ks_298 os_299 ts_300 iq_301 mk_302 me_303) (upd (upd gm 14 ((gm 14) + 1)) 20 (os (0 : Int32).toNatClampNeg)) ks os ts iq mk me)) ∧ (¬ ((gm 14) + 1) = 3 → post (upd gm 14 ((gm 14) + 1)) ks os ts iq mk me))
set_option maxHeartbeats 4000000 in
set_option maxRecDepth 100000 in
theorem c_X3_changes (E : EV) (l : Launch) (am : Nat → Nat) (gm : Nat → Int32) (ks : Nat → Int32) (os : Nat → Int32) (ts : Nat → Int32) (iq : Nat → Int32) (mk : Nat → Int32) (me : Nat → Int32) (hz : Nat) (post : (Nat → Int32) → (Nat → Int32) → (Nat → Int32) → (Nat → Int32) → (Nat → Int32) → (Nat → Int32) → (Nat → Int32) → Prop) (hw : wp_X3_changes E post gm ks os ts iq mk me) : Met l yX3_changes (Cond.code yX3_changes cX3_changes 1 none :: ALLW) ({ frames := 1, cells := 0, slots := 0, locals := 21 } : Room) (va_Pc [.ref (am 0)] (preM E (wM E am gm ks os ts iq mk me) hz)) (va_Qv (fun (u : (Nat → Int32) × (Nat → Int32) × (Nat → Int32) × (Nat → Int32) × (Nat → Int32) × (Nat → Int32) × (Nat → Int32)) => post u.1 u.2.1 u.2.2.1 u.2.2.2.1 u.2.2.2.2.1 u.2.2.2.2.2.1 u.2.2.2.2.2.2) (fun (u : (Nat → Int32) × (Nat → Int32) × (Nat → Int32) × (Nat → Int32) × (Nat → Int32) × (Nat → Int32) × (Nat → Int32)) t => va_P (eD E) vwCl (wM E am u.1 u.2.1 u.2.2.1 u.2.2.2.1 u.2.2.2.2.1 u.2.2.2.2.2.1 u.2.2.2.2.2.2) t.heap ∧ va_D (va_A (wM E am gm ks os ts iq mk me) hz) (wM E am u.1 u.2.1 u.2.2.1 u.2.2.2.1 u.2.2.2.2.1 u.2.2.2.2.2.1 u.2.2.2.2.2.2)) (va_A (wM E am gm ks os ts iq mk me) hz)) 0 0 (va_A (wM E am gm ks os ts iq mk me) hz) := by
  refine Met.ofW (cc := cX3_changes) (maxL := 1) (ret := none) (by decide) rfl ?_
  intro p e s m args below meth c s₁ B hml hv
  obtain ⟨rfl, hpre⟩ := hv
  have hx := B.exec
  have hb := B.bytes
  have hr := B.returns
  have hlocks := B.notSynchronized
  have hts := atoms_spec (ws := (Cond.code yX3_changes cX3_changes 1 none :: ALLW)) B.pre
  have hta : ∀ w ∈ ALLW, w.before ([.ref (am 0)] : List Value).toArray s = true := fun w h => hts w (List.mem_cons_of_mem _ h)
  have hown : s.vm.findClass RX3 = some m.cls := findClass_of_methodNamed B.named
  obtain ⟨hsz, hP, hKE, hD0, hZ⟩ := hpre
  subst hsz
  have hD := hD0.self (sz := s.heap.size)
  generalize hAe : va_A (wM E am gm ks os ts iq mk me) s.heap.size = A at hD hZ ⊢
  have hA : ∀ q : Nat, s.heap.size ≤ q → A q := fun q h => by rw [← hAe]; exact Or.inr h
  have hS : va_S A s.heap s.heap [] := va_S.rf
  have hP : va_P (eD E) vwCl [((am 0), .inr (4, [.int (gm 0), .int (gm 1), .int (gm 2), .int (gm 3), .int (gm 4), .ref (am 1), .ref (am 2), .ref (am 3), .int (gm 8), .int (gm 9), .int (gm 10), .int (gm 11), .int (gm 12), .int (gm 13), .int (gm 14), .int (gm 15), .int (gm 16), .int (gm 17), .int (gm 18), .int (gm 19), .int (gm 20), .ref (am 4), .int (gm 22), .int (gm 23), .ref (am 5), .ref (am 6), .int (gm 26)])), ((am 1), .inl (eC E 0, 32, .inl ks)), ((am 2), .inl (eC E 0, 32, .inl os)), ((am 3), .inl (eC E 0, 32, .inl ts)), ((am 4), .inl (eC E 0, 3, .inl iq)), ((am 5), .inl (eC E 0, 320, .inl mk)), ((am 6), .inl (eC E 0, 320, .inl me))] s.heap := hP
  have hD : va_D A [((am 0), .inr (4, [.int (gm 0), .int (gm 1), .int (gm 2), .int (gm 3), .int (gm 4), .ref (am 1), .ref (am 2), .ref (am 3), .int (gm 8), .int (gm 9), .int (gm 10), .int (gm 11), .int (gm 12), .int (gm 13), .int (gm 14), .int (gm 15), .int (gm 16), .int (gm 17), .int (gm 18), .int (gm 19), .int (gm 20), .ref (am 4), .int (gm 22), .int (gm 23), .ref (am 5), .ref (am 6), .int (gm 26)])), ((am 1), .inl (eC E 0, 32, .inl ks)), ((am 2), .inl (eC E 0, 32, .inl os)), ((am 3), .inl (eC E 0, 32, .inl ts)), ((am 4), .inl (eC E 0, 3, .inl iq)), ((am 5), .inl (eC E 0, 320, .inl mk)), ((am 6), .inl (eC E 0, 320, .inl me))] := hD
  have hl := lv_entry ([.ref (am 0)]) (n := 1) (Nat.le_of_ble_eq_true rfl)
  rw [lg_entry_eq]
  generalize (lg_sl ([.ref (am 0)]) ++ List.replicate (1 - (lg_sl ([.ref (am 0)])).length) Slot.unset).toArray = ls at hl ⊢
  have hl : lv_has ls 1 [(0, .ref (am 0))] := hl
  unfold wp_X3_changes at hw
  refine lv_aload_n hx hb dX3_changes_0 rfl (lv_at hl 0 rfl) ?_
  refine lv_dup hx hb dX3_changes_1 rfl ?_
  refine va_get (D := eD E) (ci := 4) (v := .int (gm 14)) (C := RX3) (T := TX3) (N := 27) hx hb hta lay_X3 hown hKE.1 hP 0 rfl rfl 14 (by decide) (hta _ tw_568) (fun _ h9 => h9) rfl dX3_changes_2 ?_
  refine lv_iconst (v := 1) hx hb dX3_changes_5 (by decide) ?_
  refine lv_iadd hx hb dX3_changes_6 ?_
  refine va_put (D := eD E) (ci := 4) (v := .int ((gm 14) + 1)) (ty := .int) (C := RX3) (T := TX3) (N := 27) hx hb hta lay_X3 tyX3 tyX3_ok nmX3 hown hKE.1 hP hD hS 0 rfl rfl 14 (by decide) (hta _ tw_568) (fun _ h9 => h9) rfl (by decide +kernel) rfl rfl (Nat.le_of_ble_eq_true rfl) dX3_changes_7 (fun H locs hP hD hS => ?_)
  have hP : va_P (eD E) vwCl [((am 0), .inr (4, [.int (gm 0), .int (gm 1), .int (gm 2), .int (gm 3), .int (gm 4), .ref (am 1), .ref (am 2), .ref (am 3), .int (gm 8), .int (gm 9), .int (gm 10), .int (gm 11), .int (gm 12), .int (gm 13), .int ((gm 14) + 1), .int (gm 15), .int (gm 16), .int (gm 17), .int (gm 18), .int (gm 19), .int (gm 20), .ref (am 4), .int (gm 22), .int (gm 23), .ref (am 5), .ref (am 6), .int (gm 26)])), ((am 1), .inl (eC E 0, 32, .inl ks)), ((am 2), .inl (eC E 0, 32, .inl os)), ((am 3), .inl (eC E 0, 32, .inl ts)), ((am 4), .inl (eC E 0, 3, .inl iq)), ((am 5), .inl (eC E 0, 320, .inl mk)), ((am 6), .inl (eC E 0, 320, .inl me))] H := hP
  have hD : va_D A [((am 0), .inr (4, [.int (gm 0), .int (gm 1), .int (gm 2), .int (gm 3), .int (gm 4), .ref (am 1), .ref (am 2), .ref (am 3), .int (gm 8), .int (gm 9), .int (gm 10), .int (gm 11), .int (gm 12), .int (gm 13), .int ((gm 14) + 1), .int (gm 15), .int (gm 16), .int (gm 17), .int (gm 18), .int (gm 19), .int (gm 20), .ref (am 4), .int (gm 22), .int (gm 23), .ref (am 5), .ref (am 6), .int (gm 26)])), ((am 1), .inl (eC E 0, 32, .inl ks)), ((am 2), .inl (eC E 0, 32, .inl os)), ((am 3), .inl (eC E 0, 32, .inl ts)), ((am 4), .inl (eC E 0, 3, .inl iq)), ((am 5), .inl (eC E 0, 320, .inl mk)), ((am 6), .inl (eC E 0, 320, .inl me))] := hD
  refine lv_aload_n hx hb dX3_changes_10 rfl (lv_at hl 0 rfl) ?_
  refine va_get (D := eD E) (ci := 4) (v := .int ((gm 14) + 1)) (C := RX3) (T := TX3) (N := 27) hx hb hta lay_X3 hown hKE.1 hP 0 rfl rfl 14 (by decide) (hta _ tw_568) (fun _ h9 => h9) rfl dX3_changes_11 ?_
  refine lv_iconst (v := 3) hx hb dX3_changes_14 (by decide) ?_
  refine lv_icmp_ne (tgt := 32) hx hb dX3_changes_15 (by decide) (fun c_295 => ?_) (fun c_295 => ?_)
  · have hw := hw.2 c_295
    have hP9 : va_P (eD E) vwCl (wM E am (upd gm 14 ((gm 14) + 1)) ks os ts iq mk me) H := hP
    have hD9 : va_D A (wM E am (upd gm 14 ((gm 14) + 1)) ks os ts iq mk me) := hD
    exact W.vret hx hb hr (fun t ht hW => ⟨⟨((upd gm 14 ((gm 14) + 1)), ks, os, ts, iq, mk, me), rfl, hw, ⟨by rw [ht]; exact hP9, hD9⟩⟩, hS.F ht⟩) hS.2.2 dX3_changes_32
  · have hw := hw.1 c_295
    refine lv_aload_n hx hb dX3_changes_18 rfl (lv_at hl 0 rfl) ?_
    refine lv_aload_n hx hb dX3_changes_19 rfl (lv_at hl 0 rfl) ?_
    refine va_get (D := eD E) (ci := 4) (v := .ref (am 2)) (C := RX3) (T := TX3) (N := 27) hx hb hta lay_X3 hown hKE.1 hP 0 rfl rfl 6 (by decide) (hta _ tw_560) (fun _ h9 => h9) rfl dX3_changes_20 ?_
    refine lv_iconst (v := 0) hx hb dX3_changes_23 (by decide) ?_
    refine va_iald hx hb hKE.1 hP 2 0 rfl rfl (show vp_in 0 32 from by unfold vp_in; decide) dX3_changes_24 ?_
    refine va_put (D := eD E) (ci := 4) (v := .int (os (0 : Int32).toNatClampNeg)) (ty := .int) (C := RX3) (T := TX3) (N := 27) hx hb hta lay_X3 tyX3 tyX3_ok nmX3 hown hKE.1 hP hD hS 0 rfl rfl 20 (by decide) (hta _ tw_574) (fun _ h9 => h9) rfl (by decide +kernel) rfl rfl (Nat.le_of_ble_eq_true rfl) dX3_changes_25 (fun H locs hP hD hS => ?_)
    have hP : va_P (eD E) vwCl [((am 0), .inr (4, [.int (gm 0), .int (gm 1), .int (gm 2), .int (gm 3), .int (gm 4), .ref (am 1), .ref (am 2), .ref (am 3), .int (gm 8), .int (gm 9), .int (gm 10), .int (gm 11), .int (gm 12), .int (gm 13), .int ((gm 14) + 1), .int (gm 15), .int (gm 16), .int (gm 17), .int (gm 18), .int (gm 19), .int (os (0 : Int32).toNatClampNeg), .ref (am 4), .int (gm 22), .int (gm 23), .ref (am 5), .ref (am 6), .int (gm 26)])), ((am 1), .inl (eC E 0, 32, .inl ks)), ((am 2), .inl (eC E 0, 32, .inl os)), ((am 3), .inl (eC E 0, 32, .inl ts)), ((am 4), .inl (eC E 0, 3, .inl iq)), ((am 5), .inl (eC E 0, 320, .inl mk)), ((am 6), .inl (eC E 0, 320, .inl me))] H := hP
    have hD : va_D A [((am 0), .inr (4, [.int (gm 0), .int (gm 1), .int (gm 2), .int (gm 3), .int (gm 4), .ref (am 1), .ref (am 2), .ref (am 3), .int (gm 8), .int (gm 9), .int (gm 10), .int (gm 11), .int (gm 12), .int (gm 13), .int ((gm 14) + 1), .int (gm 15), .int (gm 16), .int (gm 17), .int (gm 18), .int (gm 19), .int (os (0 : Int32).toNatClampNeg), .ref (am 4), .int (gm 22), .int (gm 23), .ref (am 5), .ref (am 6), .int (gm 26)])), ((am 1), .inl (eC E 0, 32, .inl ks)), ((am 2), .inl (eC E 0, 32, .inl os)), ((am 3), .inl (eC E 0, 32, .inl ts)), ((am 4), .inl (eC E 0, 3, .inl iq)), ((am 5), .inl (eC E 0, 320, .inl mk)), ((am 6), .inl (eC E 0, 320, .inl me))] := hD
    refine lv_aload_n hx hb dX3_changes_28 rfl (lv_at hl 0 rfl) ?_
    have hPc : va_P (eD E) vwCl (wM E am (upd (upd gm 14 ((gm 14) + 1)) 20 (os (0 : Int32).toNatClampNeg)) ks os ts iq mk me) H := hP
    have hDc : va_D A (wM E am (upd (upd gm 14 ((gm 14) + 1)) 20 (os (0 : Int32).toNatClampNeg)) ks os ts iq mk me) := hD
    have hFc : ∀ q, va_A (wM E am (upd (upd gm 14 ((gm 14) + 1)) 20 (os (0 : Int32).toNatClampNeg)) ks os ts iq mk me) H.size q → A q := frS hDc hS hA
    refine va_callv (va_runV (As := []) (rest := []) ⟨hx, hb, hml, hown, hta⟩ (c_X3_isDone E l am (upd (upd gm 14 ((gm 14) + 1)) 20 (os (0 : Int32).toNatClampNeg)) ks os ts iq mk me H.size _ hw) (pcV (n := 0) hta tw_718 tw_715 tw_6 tw_717 tp_42 rfl rfl hd_X3_isDone ⟨Nat.le_of_ble_eq_true rfl, Nat.le_of_ble_eq_true rfl⟩) ⟨fbM, va_recv hKE.1 hP (ci := 4) (q0 := 0) rfl rfl, fun U hU hW => ⟨rfl, preM.mk hPc hKE hDc hZ hS hFc hU hW⟩⟩ rfl rfl hl.1 rfl (lv_room (Nat.le_of_ble_eq_true rfl)) dX3_changes_29 ⟨Nat.le_of_ble_eq_true rfl, Nat.le_of_ble_eq_true rfl⟩) hS (fun q _ h => hFc q h) hFc (fun u t H locs ht hvm hw hB hz1 hk1 hS => ?_)
    obtain ⟨gm_297, ks_298, os_299, ts_300, iq_301, mk_302, me_303⟩ := u
    obtain ⟨hP1, hD1⟩ := hB
    rw [ht] at hP1
    try dsimp only at hw hP1 hD1
    have hP : va_P (eD E) vwCl [((am 0), .inr (4, [.int (gm_297 0), .int (gm_297 1), .int (gm_297 2), .int (gm_297 3), .int (gm_297 4), .ref (am 1), .ref (am 2), .ref (am 3), .int (gm_297 8), .int (gm_297 9), .int (gm_297 10), .int (gm_297 11), .int (gm_297 12), .int (gm_297 13), .int (gm_297 14), .int (gm_297 15), .int (gm_297 16), .int (gm_297 17), .int (gm_297 18), .int (gm_297 19), .int (gm_297 20), .ref (am 4), .int (gm_297 22), .int (gm_297 23), .ref (am 5), .ref (am 6), .int (gm_297 26)])), ((am 1), .inl (eC E 0, 32, .inl ks_298)), ((am 2), .inl (eC E 0, 32, .inl os_299)), ((am 3), .inl (eC E 0, 32, .inl ts_300)), ((am 4), .inl (eC E 0, 3, .inl iq_301)), ((am 5), .inl (eC E 0, 320, .inl mk_302)), ((am 6), .inl (eC E 0, 320, .inl me_303))] H := hP1
    have hD : va_D A [((am 0), .inr (4, [.int (gm_297 0), .int (gm_297 1), .int (gm_297 2), .int (gm_297 3), .int (gm_297 4), .ref (am 1), .ref (am 2), .ref (am 3), .int (gm_297 8), .int (gm_297 9), .int (gm_297 10), .int (gm_297 11), .int (gm_297 12), .int (gm_297 13), .int (gm_297 14), .int (gm_297 15), .int (gm_297 16), .int (gm_297 17), .int (gm_297 18), .int (gm_297 19), .int (gm_297 20), .ref (am 4), .int (gm_297 22), .int (gm_297 23), .ref (am 5), .ref (am 6), .int (gm_297 26)])), ((am 1), .inl (eC E 0, 32, .inl ks_298)), ((am 2), .inl (eC E 0, 32, .inl os_299)), ((am 3), .inl (eC E 0, 32, .inl ts_300)), ((am 4), .inl (eC E 0, 3, .inl iq_301)), ((am 5), .inl (eC E 0, 320, .inl mk_302)), ((am 6), .inl (eC E 0, 320, .inl me_303))] := hD1.weaken (fun _ q _ h => hFc q.1 h)
    have hP9 : va_P (eD E) vwCl (wM E am gm_297 ks_298 os_299 ts_300 iq_301 mk_302 me_303) H := hP
    have hD9 : va_D A (wM E am gm_297 ks_298 os_299 ts_300 iq_301 mk_302 me_303) := hD
    exact W.vret hx hb hr (fun t ht hW => ⟨⟨(gm_297, ks_298, os_299, ts_300, iq_301, mk_302, me_303), rfl, hw, ⟨by rw [ht]; exact hP9, hD9⟩⟩, hS.F ht⟩) hS.2.2 dX3_changes_32
def wp_X3_goesTo (E : EV) (post : (Nat → Int32) → (Nat → Int32) → (Nat → Int32) → (Nat → Int32) → (Nat → Int32) → (Nat → Int32) → (Nat → Int32) → Prop) (gm : Nat → Int32) (ks : Nat → Int32) (os : Nat → Int32) (ts : Nat → Int32) (iq : Nat → Int32) (mk : Nat → Int32) (me : Nat → Int32) (p0 : Int32) : Prop := (wp_X3_steps E (fun r_304 : Int32 => ((¬ r_304 = 0) ∧ ((¬ r_304 = 0) ∧ post (upd (upd gm 17 ((gm 15) + (((os (0 : Int32).toNatClampNeg) * p0) / r_304))) 18 ((gm 16) + (((ts (0 : Int32).toNatClampNeg) * p0) / r_304))) ks os ts iq mk me))) (os (0 : Int32).toNatClampNeg) (ts (0 : Int32).toNatClampNeg))
set_option maxHeartbeats 4000000 in
set_option maxRecDepth 100000 in
theorem c_X3_goesTo (E : EV) (l : Launch) (am : Nat → Nat) (gm : Nat → Int32) (ks : Nat → Int32) (os : Nat → Int32) (ts : Nat → Int32) (iq : Nat → Int32) (mk : Nat → Int32) (me : Nat → Int32) (p0 : Int32) (hz : Nat) (post : (Nat → Int32) → (Nat → Int32) → (Nat → Int32) → (Nat → Int32) → (Nat → Int32) → (Nat → Int32) → (Nat → Int32) → Prop) (hw : wp_X3_goesTo E post gm ks os ts iq mk me p0) : Met l yX3_goesTo (Cond.code yX3_goesTo cX3_goesTo 3 none :: ALLW) ({ frames := 2, cells := 0, slots := 0, locals := 41 } : Room) (va_Pc [.ref (am 0), .int p0] (preM E (wM E am gm ks os ts iq mk me) hz)) (va_Qv (fun (u : (Nat → Int32) × (Nat → Int32) × (Nat → Int32) × (Nat → Int32) × (Nat → Int32) × (Nat → Int32) × (Nat → Int32)) => post u.1 u.2.1 u.2.2.1 u.2.2.2.1 u.2.2.2.2.1 u.2.2.2.2.2.1 u.2.2.2.2.2.2) (fun (u : (Nat → Int32) × (Nat → Int32) × (Nat → Int32) × (Nat → Int32) × (Nat → Int32) × (Nat → Int32) × (Nat → Int32)) t => va_P (eD E) vwCl (wM E am u.1 u.2.1 u.2.2.1 u.2.2.2.1 u.2.2.2.2.1 u.2.2.2.2.2.1 u.2.2.2.2.2.2) t.heap ∧ va_D (va_A (wM E am gm ks os ts iq mk me) hz) (wM E am u.1 u.2.1 u.2.2.1 u.2.2.2.1 u.2.2.2.2.1 u.2.2.2.2.2.1 u.2.2.2.2.2.2)) (va_A (wM E am gm ks os ts iq mk me) hz)) 0 0 (va_A (wM E am gm ks os ts iq mk me) hz) := by
  refine Met.ofW (cc := cX3_goesTo) (maxL := 3) (ret := none) (by decide) rfl ?_
  intro p e s m args below meth c s₁ B hml hv
  obtain ⟨rfl, hpre⟩ := hv
  have hx := B.exec
  have hb := B.bytes
  have hr := B.returns
  have hlocks := B.notSynchronized
  have hts := atoms_spec (ws := (Cond.code yX3_goesTo cX3_goesTo 3 none :: ALLW)) B.pre
  have hta : ∀ w ∈ ALLW, w.before ([.ref (am 0), .int p0] : List Value).toArray s = true := fun w h => hts w (List.mem_cons_of_mem _ h)
  have hown : s.vm.findClass RX3 = some m.cls := findClass_of_methodNamed B.named
  obtain ⟨hsz, hP, hKE, hD0, hZ⟩ := hpre
  subst hsz
  have hD := hD0.self (sz := s.heap.size)
  generalize hAe : va_A (wM E am gm ks os ts iq mk me) s.heap.size = A at hD hZ ⊢
  have hA : ∀ q : Nat, s.heap.size ≤ q → A q := fun q h => by rw [← hAe]; exact Or.inr h
  have hS : va_S A s.heap s.heap [] := va_S.rf
  have hP : va_P (eD E) vwCl [((am 0), .inr (4, [.int (gm 0), .int (gm 1), .int (gm 2), .int (gm 3), .int (gm 4), .ref (am 1), .ref (am 2), .ref (am 3), .int (gm 8), .int (gm 9), .int (gm 10), .int (gm 11), .int (gm 12), .int (gm 13), .int (gm 14), .int (gm 15), .int (gm 16), .int (gm 17), .int (gm 18), .int (gm 19), .int (gm 20), .ref (am 4), .int (gm 22), .int (gm 23), .ref (am 5), .ref (am 6), .int (gm 26)])), ((am 1), .inl (eC E 0, 32, .inl ks)), ((am 2), .inl (eC E 0, 32, .inl os)), ((am 3), .inl (eC E 0, 32, .inl ts)), ((am 4), .inl (eC E 0, 3, .inl iq)), ((am 5), .inl (eC E 0, 320, .inl mk)), ((am 6), .inl (eC E 0, 320, .inl me))] s.heap := hP
  have hD : va_D A [((am 0), .inr (4, [.int (gm 0), .int (gm 1), .int (gm 2), .int (gm 3), .int (gm 4), .ref (am 1), .ref (am 2), .ref (am 3), .int (gm 8), .int (gm 9), .int (gm 10), .int (gm 11), .int (gm 12), .int (gm 13), .int (gm 14), .int (gm 15), .int (gm 16), .int (gm 17), .int (gm 18), .int (gm 19), .int (gm 20), .ref (am 4), .int (gm 22), .int (gm 23), .ref (am 5), .ref (am 6), .int (gm 26)])), ((am 1), .inl (eC E 0, 32, .inl ks)), ((am 2), .inl (eC E 0, 32, .inl os)), ((am 3), .inl (eC E 0, 32, .inl ts)), ((am 4), .inl (eC E 0, 3, .inl iq)), ((am 5), .inl (eC E 0, 320, .inl mk)), ((am 6), .inl (eC E 0, 320, .inl me))] := hD
  have hl := lv_entry ([.ref (am 0), .int p0]) (n := 3) (Nat.le_of_ble_eq_true rfl)
  rw [lg_entry_eq]
  generalize (lg_sl ([.ref (am 0), .int p0]) ++ List.replicate (3 - (lg_sl ([.ref (am 0), .int p0])).length) Slot.unset).toArray = ls at hl ⊢
  have hl : lv_has ls 3 [(0, .ref (am 0)), (1, .int p0)] := hl
  unfold wp_X3_goesTo at hw
  refine lv_aload_n hx hb dX3_goesTo_0 rfl (lv_at hl 0 rfl) ?_
  refine va_get (D := eD E) (ci := 4) (v := .ref (am 2)) (C := RX3) (T := TX3) (N := 27) hx hb hta lay_X3 hown hKE.1 hP 0 rfl rfl 6 (by decide) (hta _ tw_560) (fun _ h9 => h9) rfl dX3_goesTo_1 ?_
  refine lv_iconst (v := 0) hx hb dX3_goesTo_4 (by decide) ?_
  refine va_iald hx hb hKE.1 hP 2 0 rfl rfl (show vp_in 0 32 from by unfold vp_in; decide) dX3_goesTo_5 ?_
  refine lv_aload_n hx hb dX3_goesTo_6 rfl (lv_at hl 0 rfl) ?_
  refine va_get (D := eD E) (ci := 4) (v := .ref (am 3)) (C := RX3) (T := TX3) (N := 27) hx hb hta lay_X3 hown hKE.1 hP 0 rfl rfl 7 (by decide) (hta _ tw_561) (fun _ h9 => h9) rfl dX3_goesTo_7 ?_
  refine lv_iconst (v := 0) hx hb dX3_goesTo_10 (by decide) ?_
  refine va_iald hx hb hKE.1 hP 3 0 rfl rfl (show vp_in 0 32 from by unfold vp_in; decide) dX3_goesTo_11 ?_
  have hPc : va_P (eD E) vwCl [] s.heap := va_P_nil
  refine vp_callSi (va_Run.run (va_runS (As := [.int (os (0 : Int32).toNatClampNeg), .int (ts (0 : Int32).toNatClampNeg)]) (rest := []) ⟨hx, hb, hml, hown, hta⟩ (c_X3_steps E l (os (0 : Int32).toNatClampNeg) (ts (0 : Int32).toNatClampNeg) _ hw) (pcS (n := 2) hta tw_672 tw_670 tw_6 tw_671 rfl rfl hd_X3_steps ⟨Nat.le_of_ble_eq_true rfl, Nat.le_of_ble_eq_true rfl⟩) ⟨fbR, fun U hU hW => ⟨rfl, preR.mk hPc hKE hU hW⟩⟩ rfl rfl hl.1 rfl (lv_room (Nat.le_of_ble_eq_true rfl)) dX3_goesTo_12 ⟨Nat.le_of_ble_eq_true rfl, Nat.le_of_ble_eq_true rfl⟩)) (fun r_304 hw => ?_)
  refine lv_istore_n (lv' := [(2, .int r_304), (0, .ref (am 0)), (1, .int p0)]) hx hb dX3_goesTo_15 rfl hl (by decide) rfl (fun ls hl => ?_)
  refine lv_aload_n hx hb dX3_goesTo_16 rfl (lv_at hl 1 rfl) ?_
  refine lv_aload_n hx hb dX3_goesTo_17 rfl (lv_at hl 1 rfl) ?_
  refine va_get (D := eD E) (ci := 4) (v := .int (gm 15)) (C := RX3) (T := TX3) (N := 27) hx hb hta lay_X3 hown hKE.1 hP 0 rfl rfl 15 (by decide) (hta _ tw_569) (fun _ h9 => h9) rfl dX3_goesTo_18 ?_
  refine lv_aload_n hx hb dX3_goesTo_21 rfl (lv_at hl 1 rfl) ?_
  refine va_get (D := eD E) (ci := 4) (v := .ref (am 2)) (C := RX3) (T := TX3) (N := 27) hx hb hta lay_X3 hown hKE.1 hP 0 rfl rfl 6 (by decide) (hta _ tw_560) (fun _ h9 => h9) rfl dX3_goesTo_22 ?_
  refine lv_iconst (v := 0) hx hb dX3_goesTo_25 (by decide) ?_
  refine va_iald hx hb hKE.1 hP 2 0 rfl rfl (show vp_in 0 32 from by unfold vp_in; decide) dX3_goesTo_26 ?_
  refine lv_iload_n hx hb dX3_goesTo_27 rfl (lv_at hl 2 rfl) ?_
  refine lv_imul hx hb dX3_goesTo_28 ?_
  refine lv_iload_n hx hb dX3_goesTo_29 rfl (lv_at hl 0 rfl) ?_
  obtain ⟨hne_305, hw⟩ := hw
  refine lv_idiv hx hb dX3_goesTo_30 hne_305 ?_
  refine lv_iadd hx hb dX3_goesTo_31 ?_
  refine va_put (D := eD E) (ci := 4) (v := .int ((gm 15) + (((os (0 : Int32).toNatClampNeg) * p0) / r_304))) (ty := .int) (C := RX3) (T := TX3) (N := 27) hx hb hta lay_X3 tyX3 tyX3_ok nmX3 hown hKE.1 hP hD hS 0 rfl rfl 17 (by decide) (hta _ tw_571) (fun _ h9 => h9) rfl (by decide +kernel) rfl rfl (Nat.le_of_ble_eq_true rfl) dX3_goesTo_32 (fun H locs hP hD hS => ?_)
  have hP : va_P (eD E) vwCl [((am 0), .inr (4, [.int (gm 0), .int (gm 1), .int (gm 2), .int (gm 3), .int (gm 4), .ref (am 1), .ref (am 2), .ref (am 3), .int (gm 8), .int (gm 9), .int (gm 10), .int (gm 11), .int (gm 12), .int (gm 13), .int (gm 14), .int (gm 15), .int (gm 16), .int ((gm 15) + (((os (0 : Int32).toNatClampNeg) * p0) / r_304)), .int (gm 18), .int (gm 19), .int (gm 20), .ref (am 4), .int (gm 22), .int (gm 23), .ref (am 5), .ref (am 6), .int (gm 26)])), ((am 1), .inl (eC E 0, 32, .inl ks)), ((am 2), .inl (eC E 0, 32, .inl os)), ((am 3), .inl (eC E 0, 32, .inl ts)), ((am 4), .inl (eC E 0, 3, .inl iq)), ((am 5), .inl (eC E 0, 320, .inl mk)), ((am 6), .inl (eC E 0, 320, .inl me))] H := hP
  have hD : va_D A [((am 0), .inr (4, [.int (gm 0), .int (gm 1), .int (gm 2), .int (gm 3), .int (gm 4), .ref (am 1), .ref (am 2), .ref (am 3), .int (gm 8), .int (gm 9), .int (gm 10), .int (gm 11), .int (gm 12), .int (gm 13), .int (gm 14), .int (gm 15), .int (gm 16), .int ((gm 15) + (((os (0 : Int32).toNatClampNeg) * p0) / r_304)), .int (gm 18), .int (gm 19), .int (gm 20), .ref (am 4), .int (gm 22), .int (gm 23), .ref (am 5), .ref (am 6), .int (gm 26)])), ((am 1), .inl (eC E 0, 32, .inl ks)), ((am 2), .inl (eC E 0, 32, .inl os)), ((am 3), .inl (eC E 0, 32, .inl ts)), ((am 4), .inl (eC E 0, 3, .inl iq)), ((am 5), .inl (eC E 0, 320, .inl mk)), ((am 6), .inl (eC E 0, 320, .inl me))] := hD
  refine lv_aload_n hx hb dX3_goesTo_35 rfl (lv_at hl 1 rfl) ?_
  refine lv_aload_n hx hb dX3_goesTo_36 rfl (lv_at hl 1 rfl) ?_
  refine va_get (D := eD E) (ci := 4) (v := .int (gm 16)) (C := RX3) (T := TX3) (N := 27) hx hb hta lay_X3 hown hKE.1 hP 0 rfl rfl 16 (by decide) (hta _ tw_570) (fun _ h9 => h9) rfl dX3_goesTo_37 ?_
  refine lv_aload_n hx hb dX3_goesTo_40 rfl (lv_at hl 1 rfl) ?_
  refine va_get (D := eD E) (ci := 4) (v := .ref (am 3)) (C := RX3) (T := TX3) (N := 27) hx hb hta lay_X3 hown hKE.1 hP 0 rfl rfl 7 (by decide) (hta _ tw_561) (fun _ h9 => h9) rfl dX3_goesTo_41 ?_
  refine lv_iconst (v := 0) hx hb dX3_goesTo_44 (by decide) ?_
  refine va_iald hx hb hKE.1 hP 3 0 rfl rfl (show vp_in 0 32 from by unfold vp_in; decide) dX3_goesTo_45 ?_
  refine lv_iload_n hx hb dX3_goesTo_46 rfl (lv_at hl 2 rfl) ?_
  refine lv_imul hx hb dX3_goesTo_47 ?_
  refine lv_iload_n hx hb dX3_goesTo_48 rfl (lv_at hl 0 rfl) ?_
  obtain ⟨hne_306, hw⟩ := hw
  refine lv_idiv hx hb dX3_goesTo_49 hne_306 ?_
  refine lv_iadd hx hb dX3_goesTo_50 ?_
  refine va_put (D := eD E) (ci := 4) (v := .int ((gm 16) + (((ts (0 : Int32).toNatClampNeg) * p0) / r_304))) (ty := .int) (C := RX3) (T := TX3) (N := 27) hx hb hta lay_X3 tyX3 tyX3_ok nmX3 hown hKE.1 hP hD hS 0 rfl rfl 18 (by decide) (hta _ tw_572) (fun _ h9 => h9) rfl (by decide +kernel) rfl rfl (Nat.le_of_ble_eq_true rfl) dX3_goesTo_51 (fun H locs hP hD hS => ?_)
  have hP : va_P (eD E) vwCl [((am 0), .inr (4, [.int (gm 0), .int (gm 1), .int (gm 2), .int (gm 3), .int (gm 4), .ref (am 1), .ref (am 2), .ref (am 3), .int (gm 8), .int (gm 9), .int (gm 10), .int (gm 11), .int (gm 12), .int (gm 13), .int (gm 14), .int (gm 15), .int (gm 16), .int ((gm 15) + (((os (0 : Int32).toNatClampNeg) * p0) / r_304)), .int ((gm 16) + (((ts (0 : Int32).toNatClampNeg) * p0) / r_304)), .int (gm 19), .int (gm 20), .ref (am 4), .int (gm 22), .int (gm 23), .ref (am 5), .ref (am 6), .int (gm 26)])), ((am 1), .inl (eC E 0, 32, .inl ks)), ((am 2), .inl (eC E 0, 32, .inl os)), ((am 3), .inl (eC E 0, 32, .inl ts)), ((am 4), .inl (eC E 0, 3, .inl iq)), ((am 5), .inl (eC E 0, 320, .inl mk)), ((am 6), .inl (eC E 0, 320, .inl me))] H := hP
  have hD : va_D A [((am 0), .inr (4, [.int (gm 0), .int (gm 1), .int (gm 2), .int (gm 3), .int (gm 4), .ref (am 1), .ref (am 2), .ref (am 3), .int (gm 8), .int (gm 9), .int (gm 10), .int (gm 11), .int (gm 12), .int (gm 13), .int (gm 14), .int (gm 15), .int (gm 16), .int ((gm 15) + (((os (0 : Int32).toNatClampNeg) * p0) / r_304)), .int ((gm 16) + (((ts (0 : Int32).toNatClampNeg) * p0) / r_304)), .int (gm 19), .int (gm 20), .ref (am 4), .int (gm 22), .int (gm 23), .ref (am 5), .ref (am 6), .int (gm 26)])), ((am 1), .inl (eC E 0, 32, .inl ks)), ((am 2), .inl (eC E 0, 32, .inl os)), ((am 3), .inl (eC E 0, 32, .inl ts)), ((am 4), .inl (eC E 0, 3, .inl iq)), ((am 5), .inl (eC E 0, 320, .inl mk)), ((am 6), .inl (eC E 0, 320, .inl me))] := hD
  have hP9 : va_P (eD E) vwCl (wM E am (upd (upd gm 17 ((gm 15) + (((os (0 : Int32).toNatClampNeg) * p0) / r_304))) 18 ((gm 16) + (((ts (0 : Int32).toNatClampNeg) * p0) / r_304))) ks os ts iq mk me) H := hP
  have hD9 : va_D A (wM E am (upd (upd gm 17 ((gm 15) + (((os (0 : Int32).toNatClampNeg) * p0) / r_304))) 18 ((gm 16) + (((ts (0 : Int32).toNatClampNeg) * p0) / r_304))) ks os ts iq mk me) := hD
  exact W.vret hx hb hr (fun t ht hW => ⟨⟨((upd (upd gm 17 ((gm 15) + (((os (0 : Int32).toNatClampNeg) * p0) / r_304))) 18 ((gm 16) + (((ts (0 : Int32).toNatClampNeg) * p0) / r_304))), ks, os, ts, iq, mk, me), rfl, hw, ⟨by rw [ht]; exact hP9, hD9⟩⟩, hS.F ht⟩) hS.2.2 dX3_goesTo_54
def wp_X3_step (E : EV) (post : Int32 → (Nat → Int32) → (Nat → Int32) → (Nat → Int32) → (Nat → Int32) → (Nat → Int32) → (Nat → Int32) → (Nat → Int32) → Prop) (gm : Nat → Int32) (ks : Nat → Int32) (os : Nat → Int32) (ts : Nat → Int32) (iq : Nat → Int32) (mk : Nat → Int32) (me : Nat → Int32) : Prop := (wp_X3_goesTo E (fun (gm_308 : Nat → Int32) (ks_309 : Nat → Int32) (os_310 : Nat → Int32) (ts_311 : Nat → Int32) (iq_312 : Nat → Int32) (mk_313 : Nat → Int32) (me_314 : Nat → Int32) => (((ks_309 (0 : Int32).toNatClampNeg) = 2 → (vp_in (gm_308 20) 3 ∧ (wp_X3_marksCell E (fun (gm_328 : Nat → Int32) (ks_329 : Nat → Int32) (os_330 : Nat → Int32) (ts_331 : Nat → Int32) (iq_332 : Nat → Int32) (mk_333 : Nat → Int32) (me_334 : Nat → Int32) => (wp_X3_steps E (fun r_335 : Int32 => (((gm_328 13) = r_335 → (wp_X3_isDone E (fun (gm_338 : Nat → Int32) (ks_339 : Nat → Int32) (os_340 : Nat → Int32) (ts_341 : Nat → Int32) (iq_342 : Nat → Int32) (mk_343 : Nat → Int32) (me_344 : Nat → Int32) => post 1 gm_338 ks_339 os_340 ts_341 iq_342 mk_343 me_344) gm_328 ks_329 os_330 ts_331 iq_332 mk_333 me_334)) ∧ (¬ (gm_328 13) = r_335 → post 1 gm_328 ks_329 os_330 ts_331 iq_332 mk_333 me_334))) (os_330 (0 : Int32).toNatClampNeg) (ts_331 (0 : Int32).toNatClampNeg))) (upd gm_308 23 ((gm_308 23) + 1)) ks_309 os_310 ts_311 (upd iq_312 (gm_308 20).toNatClampNeg ((iq_312 (gm_308 20).toNatClampNeg) - 1)) mk_313 me_314))) ∧ (¬ (ks_309 (0 : Int32).toNatClampNeg) = 2 → (wp_X3_steps E (fun r_316 : Int32 => (((gm_308 13) = r_316 → (wp_X3_isDone E (fun (gm_319 : Nat → Int32) (ks_320 : Nat → Int32) (os_321 : Nat → Int32) (ts_322 : Nat → Int32) (iq_323 : Nat → Int32) (mk_324 : Nat → Int32) (me_325 : Nat → Int32) => post 1 gm_319 ks_320 os_321 ts_322 iq_323 mk_324 me_325) (upd gm_308 22 ((gm_308 22) + 1)) ks_309 os_310 ts_311 iq_312 mk_313 me_314)) ∧ (¬ (gm_308 13) = r_316 → post 1 (upd gm_308 22 ((gm_308 22) + 1)) ks_309 os_310 ts_311 iq_312 mk_313 me_314))) (os_310 (0 : Int32).toNatClampNeg) (ts_311 (0 : Int32).toNatClampNeg))))) (upd gm 13 ((gm 13) + 1)) ks os ts iq mk me ((gm 13) + 1))
set_option maxHeartbeats 4000000 in
set_option maxRecDepth 100000 in
theorem c_X3_step (E : EV) (l : Launch) (am : Nat → Nat) (gm : Nat → Int32) (ks : Nat → Int32) (os : Nat → Int32) (ts : Nat → Int32) (iq : Nat → Int32) (mk : Nat → Int32) (me : Nat → Int32) (hz : Nat) (post : Int32 → (Nat → Int32) → (Nat → Int32) → (Nat → Int32) → (Nat → Int32) → (Nat → Int32) → (Nat → Int32) → (Nat → Int32) → Prop) (hw : wp_X3_step E post gm ks os ts iq mk me) : Met l yX3_step (Cond.code yX3_step cX3_step 1 (some .int) :: ALLW) ({ frames := 3, cells := 0, slots := 0, locals := 63 } : Room) (va_Pc [.ref (am 0)] (preM E (wM E am gm ks os ts iq mk me) hz)) (va_Qi (fun (r : Int32) (u : (Nat → Int32) × (Nat → Int32) × (Nat → Int32) × (Nat → Int32) × (Nat → Int32) × (Nat → Int32) × (Nat → Int32)) => post r u.1 u.2.1 u.2.2.1 u.2.2.2.1 u.2.2.2.2.1 u.2.2.2.2.2.1 u.2.2.2.2.2.2) (fun (u : (Nat → Int32) × (Nat → Int32) × (Nat → Int32) × (Nat → Int32) × (Nat → Int32) × (Nat → Int32) × (Nat → Int32)) t => va_P (eD E) vwCl (wM E am u.1 u.2.1 u.2.2.1 u.2.2.2.1 u.2.2.2.2.1 u.2.2.2.2.2.1 u.2.2.2.2.2.2) t.heap ∧ va_D (va_A (wM E am gm ks os ts iq mk me) hz) (wM E am u.1 u.2.1 u.2.2.1 u.2.2.2.1 u.2.2.2.2.1 u.2.2.2.2.2.1 u.2.2.2.2.2.2)) (va_A (wM E am gm ks os ts iq mk me) hz)) 0 0 (va_A (wM E am gm ks os ts iq mk me) hz) := by
  refine Met.ofW (cc := cX3_step) (maxL := 1) (ret := (some .int)) (by decide) rfl ?_
  intro p e s m args below meth c s₁ B hml hv
  obtain ⟨rfl, hpre⟩ := hv
  have hx := B.exec
  have hb := B.bytes
  have hr := B.returns
  have hlocks := B.notSynchronized
  have hts := atoms_spec (ws := (Cond.code yX3_step cX3_step 1 (some .int) :: ALLW)) B.pre
  have hta : ∀ w ∈ ALLW, w.before ([.ref (am 0)] : List Value).toArray s = true := fun w h => hts w (List.mem_cons_of_mem _ h)
  have hown : s.vm.findClass RX3 = some m.cls := findClass_of_methodNamed B.named
  obtain ⟨hsz, hP, hKE, hD0, hZ⟩ := hpre
  subst hsz
  have hD := hD0.self (sz := s.heap.size)
  generalize hAe : va_A (wM E am gm ks os ts iq mk me) s.heap.size = A at hD hZ ⊢
  have hA : ∀ q : Nat, s.heap.size ≤ q → A q := fun q h => by rw [← hAe]; exact Or.inr h
  have hS : va_S A s.heap s.heap [] := va_S.rf
  have hP : va_P (eD E) vwCl [((am 0), .inr (4, [.int (gm 0), .int (gm 1), .int (gm 2), .int (gm 3), .int (gm 4), .ref (am 1), .ref (am 2), .ref (am 3), .int (gm 8), .int (gm 9), .int (gm 10), .int (gm 11), .int (gm 12), .int (gm 13), .int (gm 14), .int (gm 15), .int (gm 16), .int (gm 17), .int (gm 18), .int (gm 19), .int (gm 20), .ref (am 4), .int (gm 22), .int (gm 23), .ref (am 5), .ref (am 6), .int (gm 26)])), ((am 1), .inl (eC E 0, 32, .inl ks)), ((am 2), .inl (eC E 0, 32, .inl os)), ((am 3), .inl (eC E 0, 32, .inl ts)), ((am 4), .inl (eC E 0, 3, .inl iq)), ((am 5), .inl (eC E 0, 320, .inl mk)), ((am 6), .inl (eC E 0, 320, .inl me))] s.heap := hP
  have hD : va_D A [((am 0), .inr (4, [.int (gm 0), .int (gm 1), .int (gm 2), .int (gm 3), .int (gm 4), .ref (am 1), .ref (am 2), .ref (am 3), .int (gm 8), .int (gm 9), .int (gm 10), .int (gm 11), .int (gm 12), .int (gm 13), .int (gm 14), .int (gm 15), .int (gm 16), .int (gm 17), .int (gm 18), .int (gm 19), .int (gm 20), .ref (am 4), .int (gm 22), .int (gm 23), .ref (am 5), .ref (am 6), .int (gm 26)])), ((am 1), .inl (eC E 0, 32, .inl ks)), ((am 2), .inl (eC E 0, 32, .inl os)), ((am 3), .inl (eC E 0, 32, .inl ts)), ((am 4), .inl (eC E 0, 3, .inl iq)), ((am 5), .inl (eC E 0, 320, .inl mk)), ((am 6), .inl (eC E 0, 320, .inl me))] := hD
  have hl := lv_entry ([.ref (am 0)]) (n := 1) (Nat.le_of_ble_eq_true rfl)
  rw [lg_entry_eq]
  generalize (lg_sl ([.ref (am 0)]) ++ List.replicate (1 - (lg_sl ([.ref (am 0)])).length) Slot.unset).toArray = ls at hl ⊢
  have hl : lv_has ls 1 [(0, .ref (am 0))] := hl
  unfold wp_X3_step at hw
  refine lv_aload_n hx hb dX3_step_0 rfl (lv_at hl 0 rfl) ?_
  refine lv_dup hx hb dX3_step_1 rfl ?_
  refine va_get (D := eD E) (ci := 4) (v := .int (gm 13)) (C := RX3) (T := TX3) (N := 27) hx hb hta lay_X3 hown hKE.1 hP 0 rfl rfl 13 (by decide) (hta _ tw_567) (fun _ h9 => h9) rfl dX3_step_2 ?_
  refine lv_iconst (v := 1) hx hb dX3_step_5 (by decide) ?_
  refine lv_iadd hx hb dX3_step_6 ?_
  refine va_put (D := eD E) (ci := 4) (v := .int ((gm 13) + 1)) (ty := .int) (C := RX3) (T := TX3) (N := 27) hx hb hta lay_X3 tyX3 tyX3_ok nmX3 hown hKE.1 hP hD hS 0 rfl rfl 13 (by decide) (hta _ tw_567) (fun _ h9 => h9) rfl (by decide +kernel) rfl rfl (Nat.le_of_ble_eq_true rfl) dX3_step_7 (fun H locs hP hD hS => ?_)
  have hP : va_P (eD E) vwCl [((am 0), .inr (4, [.int (gm 0), .int (gm 1), .int (gm 2), .int (gm 3), .int (gm 4), .ref (am 1), .ref (am 2), .ref (am 3), .int (gm 8), .int (gm 9), .int (gm 10), .int (gm 11), .int (gm 12), .int ((gm 13) + 1), .int (gm 14), .int (gm 15), .int (gm 16), .int (gm 17), .int (gm 18), .int (gm 19), .int (gm 20), .ref (am 4), .int (gm 22), .int (gm 23), .ref (am 5), .ref (am 6), .int (gm 26)])), ((am 1), .inl (eC E 0, 32, .inl ks)), ((am 2), .inl (eC E 0, 32, .inl os)), ((am 3), .inl (eC E 0, 32, .inl ts)), ((am 4), .inl (eC E 0, 3, .inl iq)), ((am 5), .inl (eC E 0, 320, .inl mk)), ((am 6), .inl (eC E 0, 320, .inl me))] H := hP
  have hD : va_D A [((am 0), .inr (4, [.int (gm 0), .int (gm 1), .int (gm 2), .int (gm 3), .int (gm 4), .ref (am 1), .ref (am 2), .ref (am 3), .int (gm 8), .int (gm 9), .int (gm 10), .int (gm 11), .int (gm 12), .int ((gm 13) + 1), .int (gm 14), .int (gm 15), .int (gm 16), .int (gm 17), .int (gm 18), .int (gm 19), .int (gm 20), .ref (am 4), .int (gm 22), .int (gm 23), .ref (am 5), .ref (am 6), .int (gm 26)])), ((am 1), .inl (eC E 0, 32, .inl ks)), ((am 2), .inl (eC E 0, 32, .inl os)), ((am 3), .inl (eC E 0, 32, .inl ts)), ((am 4), .inl (eC E 0, 3, .inl iq)), ((am 5), .inl (eC E 0, 320, .inl mk)), ((am 6), .inl (eC E 0, 320, .inl me))] := hD
  refine lv_aload_n hx hb dX3_step_10 rfl (lv_at hl 0 rfl) ?_
  refine lv_aload_n hx hb dX3_step_11 rfl (lv_at hl 0 rfl) ?_
  refine va_get (D := eD E) (ci := 4) (v := .int ((gm 13) + 1)) (C := RX3) (T := TX3) (N := 27) hx hb hta lay_X3 hown hKE.1 hP 0 rfl rfl 13 (by decide) (hta _ tw_567) (fun _ h9 => h9) rfl dX3_step_12 ?_
  have hPc : va_P (eD E) vwCl (wM E am (upd gm 13 ((gm 13) + 1)) ks os ts iq mk me) H := hP
  have hDc : va_D A (wM E am (upd gm 13 ((gm 13) + 1)) ks os ts iq mk me) := hD
  have hFc : ∀ q, va_A (wM E am (upd gm 13 ((gm 13) + 1)) ks os ts iq mk me) H.size q → A q := frS hDc hS hA
  refine va_callv (va_runV (As := [.int ((gm 13) + 1)]) (rest := []) ⟨hx, hb, hml, hown, hta⟩ (c_X3_goesTo E l am (upd gm 13 ((gm 13) + 1)) ks os ts iq mk me ((gm 13) + 1) H.size _ hw) (pcV (n := 1) hta tw_726 tw_723 tw_6 tw_725 tp_44 rfl rfl hd_X3_goesTo ⟨Nat.le_of_ble_eq_true rfl, Nat.le_of_ble_eq_true rfl⟩) ⟨fbM, va_recv hKE.1 hP (ci := 4) (q0 := 0) rfl rfl, fun U hU hW => ⟨rfl, preM.mk hPc hKE hDc hZ hS hFc hU hW⟩⟩ rfl rfl hl.1 rfl (lv_room (Nat.le_of_ble_eq_true rfl)) dX3_step_15 ⟨Nat.le_of_ble_eq_true rfl, Nat.le_of_ble_eq_true rfl⟩) hS (fun q _ h => hFc q h) hFc (fun u t H locs ht hvm hw hB hz1 hk1 hS => ?_)
  obtain ⟨gm_308, ks_309, os_310, ts_311, iq_312, mk_313, me_314⟩ := u
  obtain ⟨hP1, hD1⟩ := hB
  rw [ht] at hP1
  try dsimp only at hw hP1 hD1
  have hP : va_P (eD E) vwCl [((am 0), .inr (4, [.int (gm_308 0), .int (gm_308 1), .int (gm_308 2), .int (gm_308 3), .int (gm_308 4), .ref (am 1), .ref (am 2), .ref (am 3), .int (gm_308 8), .int (gm_308 9), .int (gm_308 10), .int (gm_308 11), .int (gm_308 12), .int (gm_308 13), .int (gm_308 14), .int (gm_308 15), .int (gm_308 16), .int (gm_308 17), .int (gm_308 18), .int (gm_308 19), .int (gm_308 20), .ref (am 4), .int (gm_308 22), .int (gm_308 23), .ref (am 5), .ref (am 6), .int (gm_308 26)])), ((am 1), .inl (eC E 0, 32, .inl ks_309)), ((am 2), .inl (eC E 0, 32, .inl os_310)), ((am 3), .inl (eC E 0, 32, .inl ts_311)), ((am 4), .inl (eC E 0, 3, .inl iq_312)), ((am 5), .inl (eC E 0, 320, .inl mk_313)), ((am 6), .inl (eC E 0, 320, .inl me_314))] H := hP1
  have hD : va_D A [((am 0), .inr (4, [.int (gm_308 0), .int (gm_308 1), .int (gm_308 2), .int (gm_308 3), .int (gm_308 4), .ref (am 1), .ref (am 2), .ref (am 3), .int (gm_308 8), .int (gm_308 9), .int (gm_308 10), .int (gm_308 11), .int (gm_308 12), .int (gm_308 13), .int (gm_308 14), .int (gm_308 15), .int (gm_308 16), .int (gm_308 17), .int (gm_308 18), .int (gm_308 19), .int (gm_308 20), .ref (am 4), .int (gm_308 22), .int (gm_308 23), .ref (am 5), .ref (am 6), .int (gm_308 26)])), ((am 1), .inl (eC E 0, 32, .inl ks_309)), ((am 2), .inl (eC E 0, 32, .inl os_310)), ((am 3), .inl (eC E 0, 32, .inl ts_311)), ((am 4), .inl (eC E 0, 3, .inl iq_312)), ((am 5), .inl (eC E 0, 320, .inl mk_313)), ((am 6), .inl (eC E 0, 320, .inl me_314))] := hD1.weaken (fun _ q _ h => hFc q.1 h)
  refine lv_aload_n hx hb dX3_step_18 rfl (lv_at hl 0 rfl) ?_
  refine va_get (D := eD E) (ci := 4) (v := .ref (am 1)) (C := RX3) (T := TX3) (N := 27) hx hb hta lay_X3 hown hKE.1 hP 0 rfl rfl 5 (by decide) (hta _ tw_559) (fun _ h9 => h9) rfl dX3_step_19 ?_
  refine lv_iconst (v := 0) hx hb dX3_step_22 (by decide) ?_
  refine va_iald hx hb hKE.1 hP 1 0 rfl rfl (show vp_in 0 32 from by unfold vp_in; decide) dX3_step_23 ?_
  refine lv_iconst (v := 2) hx hb dX3_step_24 (by decide) ?_
  refine lv_icmp_ne (tgt := 58) hx hb dX3_step_25 (by decide) (fun c_315 => ?_) (fun c_315 => ?_)
  · have hw := hw.2 c_315
    refine lv_aload_n hx hb dX3_step_58 rfl (lv_at hl 0 rfl) ?_
    refine lv_dup hx hb dX3_step_59 rfl ?_
    refine va_get (D := eD E) (ci := 4) (v := .int (gm_308 22)) (C := RX3) (T := TX3) (N := 27) hx hb hta lay_X3 hown hKE.1 hP 0 rfl rfl 22 (by decide) (hta _ tw_576) (fun _ h9 => h9) rfl dX3_step_60 ?_
    refine lv_iconst (v := 1) hx hb dX3_step_63 (by decide) ?_
    refine lv_iadd hx hb dX3_step_64 ?_
    refine va_put (D := eD E) (ci := 4) (v := .int ((gm_308 22) + 1)) (ty := .int) (C := RX3) (T := TX3) (N := 27) hx hb hta lay_X3 tyX3 tyX3_ok nmX3 hown hKE.1 hP hD hS 0 rfl rfl 22 (by decide) (hta _ tw_576) (fun _ h9 => h9) rfl (by decide +kernel) rfl rfl (Nat.le_of_ble_eq_true rfl) dX3_step_65 (fun H locs hP hD hS => ?_)
    have hP : va_P (eD E) vwCl [((am 0), .inr (4, [.int (gm_308 0), .int (gm_308 1), .int (gm_308 2), .int (gm_308 3), .int (gm_308 4), .ref (am 1), .ref (am 2), .ref (am 3), .int (gm_308 8), .int (gm_308 9), .int (gm_308 10), .int (gm_308 11), .int (gm_308 12), .int (gm_308 13), .int (gm_308 14), .int (gm_308 15), .int (gm_308 16), .int (gm_308 17), .int (gm_308 18), .int (gm_308 19), .int (gm_308 20), .ref (am 4), .int ((gm_308 22) + 1), .int (gm_308 23), .ref (am 5), .ref (am 6), .int (gm_308 26)])), ((am 1), .inl (eC E 0, 32, .inl ks_309)), ((am 2), .inl (eC E 0, 32, .inl os_310)), ((am 3), .inl (eC E 0, 32, .inl ts_311)), ((am 4), .inl (eC E 0, 3, .inl iq_312)), ((am 5), .inl (eC E 0, 320, .inl mk_313)), ((am 6), .inl (eC E 0, 320, .inl me_314))] H := hP
    have hD : va_D A [((am 0), .inr (4, [.int (gm_308 0), .int (gm_308 1), .int (gm_308 2), .int (gm_308 3), .int (gm_308 4), .ref (am 1), .ref (am 2), .ref (am 3), .int (gm_308 8), .int (gm_308 9), .int (gm_308 10), .int (gm_308 11), .int (gm_308 12), .int (gm_308 13), .int (gm_308 14), .int (gm_308 15), .int (gm_308 16), .int (gm_308 17), .int (gm_308 18), .int (gm_308 19), .int (gm_308 20), .ref (am 4), .int ((gm_308 22) + 1), .int (gm_308 23), .ref (am 5), .ref (am 6), .int (gm_308 26)])), ((am 1), .inl (eC E 0, 32, .inl ks_309)), ((am 2), .inl (eC E 0, 32, .inl os_310)), ((am 3), .inl (eC E 0, 32, .inl ts_311)), ((am 4), .inl (eC E 0, 3, .inl iq_312)), ((am 5), .inl (eC E 0, 320, .inl mk_313)), ((am 6), .inl (eC E 0, 320, .inl me_314))] := hD
    refine lv_aload_n hx hb dX3_step_68 rfl (lv_at hl 0 rfl) ?_
    refine va_get (D := eD E) (ci := 4) (v := .int (gm_308 13)) (C := RX3) (T := TX3) (N := 27) hx hb hta lay_X3 hown hKE.1 hP 0 rfl rfl 13 (by decide) (hta _ tw_567) (fun _ h9 => h9) rfl dX3_step_69 ?_
    refine lv_aload_n hx hb dX3_step_72 rfl (lv_at hl 0 rfl) ?_
    refine va_get (D := eD E) (ci := 4) (v := .ref (am 2)) (C := RX3) (T := TX3) (N := 27) hx hb hta lay_X3 hown hKE.1 hP 0 rfl rfl 6 (by decide) (hta _ tw_560) (fun _ h9 => h9) rfl dX3_step_73 ?_
    refine lv_iconst (v := 0) hx hb dX3_step_76 (by decide) ?_
    refine va_iald hx hb hKE.1 hP 2 0 rfl rfl (show vp_in 0 32 from by unfold vp_in; decide) dX3_step_77 ?_
    refine lv_aload_n hx hb dX3_step_78 rfl (lv_at hl 0 rfl) ?_
    refine va_get (D := eD E) (ci := 4) (v := .ref (am 3)) (C := RX3) (T := TX3) (N := 27) hx hb hta lay_X3 hown hKE.1 hP 0 rfl rfl 7 (by decide) (hta _ tw_561) (fun _ h9 => h9) rfl dX3_step_79 ?_
    refine lv_iconst (v := 0) hx hb dX3_step_82 (by decide) ?_
    refine va_iald hx hb hKE.1 hP 3 0 rfl rfl (show vp_in 0 32 from by unfold vp_in; decide) dX3_step_83 ?_
    have hPc : va_P (eD E) vwCl [] H := va_P_nil
    refine vp_callSi (va_Run.run (va_runS (As := [.int (os_310 (0 : Int32).toNatClampNeg), .int (ts_311 (0 : Int32).toNatClampNeg)]) (rest := [.int (gm_308 13)]) ⟨hx, hb, hml, hown, hta⟩ (c_X3_steps E l (os_310 (0 : Int32).toNatClampNeg) (ts_311 (0 : Int32).toNatClampNeg) _ hw) (pcS (n := 2) hta tw_672 tw_670 tw_6 tw_671 rfl rfl hd_X3_steps ⟨Nat.le_of_ble_eq_true rfl, Nat.le_of_ble_eq_true rfl⟩) ⟨fbR, fun U hU hW => ⟨rfl, preR.mk hPc hKE hU hW⟩⟩ rfl rfl hl.1 rfl (lv_room (Nat.le_of_ble_eq_true rfl)) dX3_step_84 ⟨Nat.le_of_ble_eq_true rfl, Nat.le_of_ble_eq_true rfl⟩)) (fun r_316 hw => ?_)
    refine lv_icmp_ne (tgt := 94) hx hb dX3_step_87 (by decide) (fun c_317 => ?_) (fun c_317 => ?_)
    · have hw := hw.2 c_317
      refine lv_iconst (v := 1) hx hb dX3_step_94 (by decide) ?_
      have hP9 : va_P (eD E) vwCl (wM E am (upd gm_308 22 ((gm_308 22) + 1)) ks_309 os_310 ts_311 iq_312 mk_313 me_314) H := hP
      have hD9 : va_D A (wM E am (upd gm_308 22 ((gm_308 22) + 1)) ks_309 os_310 ts_311 iq_312 mk_313 me_314) := hD
      exact W.iret (v := 1) hx hb hr (fun t ht hW => ⟨⟨1, ((upd gm_308 22 ((gm_308 22) + 1)), ks_309, os_310, ts_311, iq_312, mk_313, me_314), rfl, hw, ⟨by rw [ht]; exact hP9, hD9⟩⟩, hS.F ht⟩) hS.2.2 dX3_step_95
    · have hw := hw.1 c_317
      refine lv_aload_n hx hb dX3_step_90 rfl (lv_at hl 0 rfl) ?_
      have hPc : va_P (eD E) vwCl (wM E am (upd gm_308 22 ((gm_308 22) + 1)) ks_309 os_310 ts_311 iq_312 mk_313 me_314) H := hP
      have hDc : va_D A (wM E am (upd gm_308 22 ((gm_308 22) + 1)) ks_309 os_310 ts_311 iq_312 mk_313 me_314) := hD
      have hFc : ∀ q, va_A (wM E am (upd gm_308 22 ((gm_308 22) + 1)) ks_309 os_310 ts_311 iq_312 mk_313 me_314) H.size q → A q := frS hDc hS hA
      refine va_callv (va_runV (As := []) (rest := []) ⟨hx, hb, hml, hown, hta⟩ (c_X3_isDone E l am (upd gm_308 22 ((gm_308 22) + 1)) ks_309 os_310 ts_311 iq_312 mk_313 me_314 H.size _ hw) (pcV (n := 0) hta tw_718 tw_715 tw_6 tw_717 tp_42 rfl rfl hd_X3_isDone ⟨Nat.le_of_ble_eq_true rfl, Nat.le_of_ble_eq_true rfl⟩) ⟨fbM, va_recv hKE.1 hP (ci := 4) (q0 := 0) rfl rfl, fun U hU hW => ⟨rfl, preM.mk hPc hKE hDc hZ hS hFc hU hW⟩⟩ rfl rfl hl.1 rfl (lv_room (Nat.le_of_ble_eq_true rfl)) dX3_step_91 ⟨Nat.le_of_ble_eq_true rfl, Nat.le_of_ble_eq_true rfl⟩) hS (fun q _ h => hFc q h) hFc (fun u t H locs ht hvm hw hB hz1 hk1 hS => ?_)
      obtain ⟨gm_319, ks_320, os_321, ts_322, iq_323, mk_324, me_325⟩ := u
      obtain ⟨hP1, hD1⟩ := hB
      rw [ht] at hP1
      try dsimp only at hw hP1 hD1
      have hP : va_P (eD E) vwCl [((am 0), .inr (4, [.int (gm_319 0), .int (gm_319 1), .int (gm_319 2), .int (gm_319 3), .int (gm_319 4), .ref (am 1), .ref (am 2), .ref (am 3), .int (gm_319 8), .int (gm_319 9), .int (gm_319 10), .int (gm_319 11), .int (gm_319 12), .int (gm_319 13), .int (gm_319 14), .int (gm_319 15), .int (gm_319 16), .int (gm_319 17), .int (gm_319 18), .int (gm_319 19), .int (gm_319 20), .ref (am 4), .int (gm_319 22), .int (gm_319 23), .ref (am 5), .ref (am 6), .int (gm_319 26)])), ((am 1), .inl (eC E 0, 32, .inl ks_320)), ((am 2), .inl (eC E 0, 32, .inl os_321)), ((am 3), .inl (eC E 0, 32, .inl ts_322)), ((am 4), .inl (eC E 0, 3, .inl iq_323)), ((am 5), .inl (eC E 0, 320, .inl mk_324)), ((am 6), .inl (eC E 0, 320, .inl me_325))] H := hP1
      have hD : va_D A [((am 0), .inr (4, [.int (gm_319 0), .int (gm_319 1), .int (gm_319 2), .int (gm_319 3), .int (gm_319 4), .ref (am 1), .ref (am 2), .ref (am 3), .int (gm_319 8), .int (gm_319 9), .int (gm_319 10), .int (gm_319 11), .int (gm_319 12), .int (gm_319 13), .int (gm_319 14), .int (gm_319 15), .int (gm_319 16), .int (gm_319 17), .int (gm_319 18), .int (gm_319 19), .int (gm_319 20), .ref (am 4), .int (gm_319 22), .int (gm_319 23), .ref (am 5), .ref (am 6), .int (gm_319 26)])), ((am 1), .inl (eC E 0, 32, .inl ks_320)), ((am 2), .inl (eC E 0, 32, .inl os_321)), ((am 3), .inl (eC E 0, 32, .inl ts_322)), ((am 4), .inl (eC E 0, 3, .inl iq_323)), ((am 5), .inl (eC E 0, 320, .inl mk_324)), ((am 6), .inl (eC E 0, 320, .inl me_325))] := hD1.weaken (fun _ q _ h => hFc q.1 h)
      refine lv_iconst (v := 1) hx hb dX3_step_94 (by decide) ?_
      have hP9 : va_P (eD E) vwCl (wM E am gm_319 ks_320 os_321 ts_322 iq_323 mk_324 me_325) H := hP
      have hD9 : va_D A (wM E am gm_319 ks_320 os_321 ts_322 iq_323 mk_324 me_325) := hD
      exact W.iret (v := 1) hx hb hr (fun t ht hW => ⟨⟨1, (gm_319, ks_320, os_321, ts_322, iq_323, mk_324, me_325), rfl, hw, ⟨by rw [ht]; exact hP9, hD9⟩⟩, hS.F ht⟩) hS.2.2 dX3_step_95
  · have hw := hw.1 c_315
    refine lv_aload_n hx hb dX3_step_28 rfl (lv_at hl 0 rfl) ?_
    refine va_get (D := eD E) (ci := 4) (v := .ref (am 4)) (C := RX3) (T := TX3) (N := 27) hx hb hta lay_X3 hown hKE.1 hP 0 rfl rfl 21 (by decide) (hta _ tw_575) (fun _ h9 => h9) rfl dX3_step_29 ?_
    refine lv_aload_n hx hb dX3_step_32 rfl (lv_at hl 0 rfl) ?_
    refine va_get (D := eD E) (ci := 4) (v := .int (gm_308 20)) (C := RX3) (T := TX3) (N := 27) hx hb hta lay_X3 hown hKE.1 hP 0 rfl rfl 20 (by decide) (hta _ tw_574) (fun _ h9 => h9) rfl dX3_step_33 ?_
    refine lv_dup2_11 hx hb dX3_step_36 rfl rfl ?_
    obtain ⟨hi_326, hw⟩ := hw
    refine va_iald hx hb hKE.1 hP 4 0 rfl rfl hi_326 dX3_step_37 ?_
    refine lv_iconst (v := 1) hx hb dX3_step_38 (by decide) ?_
    refine lv_isub hx hb dX3_step_39 ?_
    refine va_iast hx hb hKE.1 hP hD hS 4 0 rfl rfl hi_326 dX3_step_40 (fun H locs hP hD hS => ?_)
    have hP : va_P (eD E) vwCl [((am 0), .inr (4, [.int (gm_308 0), .int (gm_308 1), .int (gm_308 2), .int (gm_308 3), .int (gm_308 4), .ref (am 1), .ref (am 2), .ref (am 3), .int (gm_308 8), .int (gm_308 9), .int (gm_308 10), .int (gm_308 11), .int (gm_308 12), .int (gm_308 13), .int (gm_308 14), .int (gm_308 15), .int (gm_308 16), .int (gm_308 17), .int (gm_308 18), .int (gm_308 19), .int (gm_308 20), .ref (am 4), .int (gm_308 22), .int (gm_308 23), .ref (am 5), .ref (am 6), .int (gm_308 26)])), ((am 1), .inl (eC E 0, 32, .inl ks_309)), ((am 2), .inl (eC E 0, 32, .inl os_310)), ((am 3), .inl (eC E 0, 32, .inl ts_311)), ((am 4), .inl (eC E 0, 3, .inl (upd iq_312 (gm_308 20).toNatClampNeg ((iq_312 (gm_308 20).toNatClampNeg) - 1)))), ((am 5), .inl (eC E 0, 320, .inl mk_313)), ((am 6), .inl (eC E 0, 320, .inl me_314))] H := hP
    have hD : va_D A [((am 0), .inr (4, [.int (gm_308 0), .int (gm_308 1), .int (gm_308 2), .int (gm_308 3), .int (gm_308 4), .ref (am 1), .ref (am 2), .ref (am 3), .int (gm_308 8), .int (gm_308 9), .int (gm_308 10), .int (gm_308 11), .int (gm_308 12), .int (gm_308 13), .int (gm_308 14), .int (gm_308 15), .int (gm_308 16), .int (gm_308 17), .int (gm_308 18), .int (gm_308 19), .int (gm_308 20), .ref (am 4), .int (gm_308 22), .int (gm_308 23), .ref (am 5), .ref (am 6), .int (gm_308 26)])), ((am 1), .inl (eC E 0, 32, .inl ks_309)), ((am 2), .inl (eC E 0, 32, .inl os_310)), ((am 3), .inl (eC E 0, 32, .inl ts_311)), ((am 4), .inl (eC E 0, 3, .inl (upd iq_312 (gm_308 20).toNatClampNeg ((iq_312 (gm_308 20).toNatClampNeg) - 1)))), ((am 5), .inl (eC E 0, 320, .inl mk_313)), ((am 6), .inl (eC E 0, 320, .inl me_314))] := hD
    refine lv_aload_n hx hb dX3_step_41 rfl (lv_at hl 0 rfl) ?_
    refine lv_dup hx hb dX3_step_42 rfl ?_
    refine va_get (D := eD E) (ci := 4) (v := .int (gm_308 23)) (C := RX3) (T := TX3) (N := 27) hx hb hta lay_X3 hown hKE.1 hP 0 rfl rfl 23 (by decide) (hta _ tw_577) (fun _ h9 => h9) rfl dX3_step_43 ?_
    refine lv_iconst (v := 1) hx hb dX3_step_46 (by decide) ?_
    refine lv_iadd hx hb dX3_step_47 ?_
    refine va_put (D := eD E) (ci := 4) (v := .int ((gm_308 23) + 1)) (ty := .int) (C := RX3) (T := TX3) (N := 27) hx hb hta lay_X3 tyX3 tyX3_ok nmX3 hown hKE.1 hP hD hS 0 rfl rfl 23 (by decide) (hta _ tw_577) (fun _ h9 => h9) rfl (by decide +kernel) rfl rfl (Nat.le_of_ble_eq_true rfl) dX3_step_48 (fun H locs hP hD hS => ?_)
    have hP : va_P (eD E) vwCl [((am 0), .inr (4, [.int (gm_308 0), .int (gm_308 1), .int (gm_308 2), .int (gm_308 3), .int (gm_308 4), .ref (am 1), .ref (am 2), .ref (am 3), .int (gm_308 8), .int (gm_308 9), .int (gm_308 10), .int (gm_308 11), .int (gm_308 12), .int (gm_308 13), .int (gm_308 14), .int (gm_308 15), .int (gm_308 16), .int (gm_308 17), .int (gm_308 18), .int (gm_308 19), .int (gm_308 20), .ref (am 4), .int (gm_308 22), .int ((gm_308 23) + 1), .ref (am 5), .ref (am 6), .int (gm_308 26)])), ((am 1), .inl (eC E 0, 32, .inl ks_309)), ((am 2), .inl (eC E 0, 32, .inl os_310)), ((am 3), .inl (eC E 0, 32, .inl ts_311)), ((am 4), .inl (eC E 0, 3, .inl (upd iq_312 (gm_308 20).toNatClampNeg ((iq_312 (gm_308 20).toNatClampNeg) - 1)))), ((am 5), .inl (eC E 0, 320, .inl mk_313)), ((am 6), .inl (eC E 0, 320, .inl me_314))] H := hP
    have hD : va_D A [((am 0), .inr (4, [.int (gm_308 0), .int (gm_308 1), .int (gm_308 2), .int (gm_308 3), .int (gm_308 4), .ref (am 1), .ref (am 2), .ref (am 3), .int (gm_308 8), .int (gm_308 9), .int (gm_308 10), .int (gm_308 11), .int (gm_308 12), .int (gm_308 13), .int (gm_308 14), .int (gm_308 15), .int (gm_308 16), .int (gm_308 17), .int (gm_308 18), .int (gm_308 19), .int (gm_308 20), .ref (am 4), .int (gm_308 22), .int ((gm_308 23) + 1), .ref (am 5), .ref (am 6), .int (gm_308 26)])), ((am 1), .inl (eC E 0, 32, .inl ks_309)), ((am 2), .inl (eC E 0, 32, .inl os_310)), ((am 3), .inl (eC E 0, 32, .inl ts_311)), ((am 4), .inl (eC E 0, 3, .inl (upd iq_312 (gm_308 20).toNatClampNeg ((iq_312 (gm_308 20).toNatClampNeg) - 1)))), ((am 5), .inl (eC E 0, 320, .inl mk_313)), ((am 6), .inl (eC E 0, 320, .inl me_314))] := hD
    refine lv_aload_n hx hb dX3_step_51 rfl (lv_at hl 0 rfl) ?_
    have hPc : va_P (eD E) vwCl (wM E am (upd gm_308 23 ((gm_308 23) + 1)) ks_309 os_310 ts_311 (upd iq_312 (gm_308 20).toNatClampNeg ((iq_312 (gm_308 20).toNatClampNeg) - 1)) mk_313 me_314) H := hP
    have hDc : va_D A (wM E am (upd gm_308 23 ((gm_308 23) + 1)) ks_309 os_310 ts_311 (upd iq_312 (gm_308 20).toNatClampNeg ((iq_312 (gm_308 20).toNatClampNeg) - 1)) mk_313 me_314) := hD
    have hFc : ∀ q, va_A (wM E am (upd gm_308 23 ((gm_308 23) + 1)) ks_309 os_310 ts_311 (upd iq_312 (gm_308 20).toNatClampNeg ((iq_312 (gm_308 20).toNatClampNeg) - 1)) mk_313 me_314) H.size q → A q := frS hDc hS hA
    refine va_callv (va_runV (As := []) (rest := []) ⟨hx, hb, hml, hown, hta⟩ (c_X3_marksCell E l am (upd gm_308 23 ((gm_308 23) + 1)) ks_309 os_310 ts_311 (upd iq_312 (gm_308 20).toNatClampNeg ((iq_312 (gm_308 20).toNatClampNeg) - 1)) mk_313 me_314 H.size _ hw) (pcV (n := 0) hta tw_710 tw_707 tw_6 tw_709 tp_40 rfl rfl hd_X3_marksCell ⟨Nat.le_of_ble_eq_true rfl, Nat.le_of_ble_eq_true rfl⟩) ⟨fbM, va_recv hKE.1 hP (ci := 4) (q0 := 0) rfl rfl, fun U hU hW => ⟨rfl, preM.mk hPc hKE hDc hZ hS hFc hU hW⟩⟩ rfl rfl hl.1 rfl (lv_room (Nat.le_of_ble_eq_true rfl)) dX3_step_52 ⟨Nat.le_of_ble_eq_true rfl, Nat.le_of_ble_eq_true rfl⟩) hS (fun q _ h => hFc q h) hFc (fun u t H locs ht hvm hw hB hz1 hk1 hS => ?_)
    obtain ⟨gm_328, ks_329, os_330, ts_331, iq_332, mk_333, me_334⟩ := u
    obtain ⟨hP1, hD1⟩ := hB
    rw [ht] at hP1
    try dsimp only at hw hP1 hD1
    have hP : va_P (eD E) vwCl [((am 0), .inr (4, [.int (gm_328 0), .int (gm_328 1), .int (gm_328 2), .int (gm_328 3), .int (gm_328 4), .ref (am 1), .ref (am 2), .ref (am 3), .int (gm_328 8), .int (gm_328 9), .int (gm_328 10), .int (gm_328 11), .int (gm_328 12), .int (gm_328 13), .int (gm_328 14), .int (gm_328 15), .int (gm_328 16), .int (gm_328 17), .int (gm_328 18), .int (gm_328 19), .int (gm_328 20), .ref (am 4), .int (gm_328 22), .int (gm_328 23), .ref (am 5), .ref (am 6), .int (gm_328 26)])), ((am 1), .inl (eC E 0, 32, .inl ks_329)), ((am 2), .inl (eC E 0, 32, .inl os_330)), ((am 3), .inl (eC E 0, 32, .inl ts_331)), ((am 4), .inl (eC E 0, 3, .inl iq_332)), ((am 5), .inl (eC E 0, 320, .inl mk_333)), ((am 6), .inl (eC E 0, 320, .inl me_334))] H := hP1
    have hD : va_D A [((am 0), .inr (4, [.int (gm_328 0), .int (gm_328 1), .int (gm_328 2), .int (gm_328 3), .int (gm_328 4), .ref (am 1), .ref (am 2), .ref (am 3), .int (gm_328 8), .int (gm_328 9), .int (gm_328 10), .int (gm_328 11), .int (gm_328 12), .int (gm_328 13), .int (gm_328 14), .int (gm_328 15), .int (gm_328 16), .int (gm_328 17), .int (gm_328 18), .int (gm_328 19), .int (gm_328 20), .ref (am 4), .int (gm_328 22), .int (gm_328 23), .ref (am 5), .ref (am 6), .int (gm_328 26)])), ((am 1), .inl (eC E 0, 32, .inl ks_329)), ((am 2), .inl (eC E 0, 32, .inl os_330)), ((am 3), .inl (eC E 0, 32, .inl ts_331)), ((am 4), .inl (eC E 0, 3, .inl iq_332)), ((am 5), .inl (eC E 0, 320, .inl mk_333)), ((am 6), .inl (eC E 0, 320, .inl me_334))] := hD1.weaken (fun _ q _ h => hFc q.1 h)
    refine lv_goto (tgt := 68) hx hb dX3_step_55 (by decide) ?_
    refine lv_aload_n hx hb dX3_step_68 rfl (lv_at hl 0 rfl) ?_
    refine va_get (D := eD E) (ci := 4) (v := .int (gm_328 13)) (C := RX3) (T := TX3) (N := 27) hx hb hta lay_X3 hown hKE.1 hP 0 rfl rfl 13 (by decide) (hta _ tw_567) (fun _ h9 => h9) rfl dX3_step_69 ?_
    refine lv_aload_n hx hb dX3_step_72 rfl (lv_at hl 0 rfl) ?_
    refine va_get (D := eD E) (ci := 4) (v := .ref (am 2)) (C := RX3) (T := TX3) (N := 27) hx hb hta lay_X3 hown hKE.1 hP 0 rfl rfl 6 (by decide) (hta _ tw_560) (fun _ h9 => h9) rfl dX3_step_73 ?_
    refine lv_iconst (v := 0) hx hb dX3_step_76 (by decide) ?_
    refine va_iald hx hb hKE.1 hP 2 0 rfl rfl (show vp_in 0 32 from by unfold vp_in; decide) dX3_step_77 ?_
    refine lv_aload_n hx hb dX3_step_78 rfl (lv_at hl 0 rfl) ?_
    refine va_get (D := eD E) (ci := 4) (v := .ref (am 3)) (C := RX3) (T := TX3) (N := 27) hx hb hta lay_X3 hown hKE.1 hP 0 rfl rfl 7 (by decide) (hta _ tw_561) (fun _ h9 => h9) rfl dX3_step_79 ?_
    refine lv_iconst (v := 0) hx hb dX3_step_82 (by decide) ?_
    refine va_iald hx hb hKE.1 hP 3 0 rfl rfl (show vp_in 0 32 from by unfold vp_in; decide) dX3_step_83 ?_
    have hPc : va_P (eD E) vwCl [] H := va_P_nil
    refine vp_callSi (va_Run.run (va_runS (As := [.int (os_330 (0 : Int32).toNatClampNeg), .int (ts_331 (0 : Int32).toNatClampNeg)]) (rest := [.int (gm_328 13)]) ⟨hx, hb, hml, hown, hta⟩ (c_X3_steps E l (os_330 (0 : Int32).toNatClampNeg) (ts_331 (0 : Int32).toNatClampNeg) _ hw) (pcS (n := 2) hta tw_672 tw_670 tw_6 tw_671 rfl rfl hd_X3_steps ⟨Nat.le_of_ble_eq_true rfl, Nat.le_of_ble_eq_true rfl⟩) ⟨fbR, fun U hU hW => ⟨rfl, preR.mk hPc hKE hU hW⟩⟩ rfl rfl hl.1 rfl (lv_room (Nat.le_of_ble_eq_true rfl)) dX3_step_84 ⟨Nat.le_of_ble_eq_true rfl, Nat.le_of_ble_eq_true rfl⟩)) (fun r_335 hw => ?_)
    refine lv_icmp_ne (tgt := 94) hx hb dX3_step_87 (by decide) (fun c_336 => ?_) (fun c_336 => ?_)
    · have hw := hw.2 c_336
      refine lv_iconst (v := 1) hx hb dX3_step_94 (by decide) ?_
      have hP9 : va_P (eD E) vwCl (wM E am gm_328 ks_329 os_330 ts_331 iq_332 mk_333 me_334) H := hP
      have hD9 : va_D A (wM E am gm_328 ks_329 os_330 ts_331 iq_332 mk_333 me_334) := hD
      exact W.iret (v := 1) hx hb hr (fun t ht hW => ⟨⟨1, (gm_328, ks_329, os_330, ts_331, iq_332, mk_333, me_334), rfl, hw, ⟨by rw [ht]; exact hP9, hD9⟩⟩, hS.F ht⟩) hS.2.2 dX3_step_95
    · have hw := hw.1 c_336
      refine lv_aload_n hx hb dX3_step_90 rfl (lv_at hl 0 rfl) ?_
      have hPc : va_P (eD E) vwCl (wM E am gm_328 ks_329 os_330 ts_331 iq_332 mk_333 me_334) H := hP
      have hDc : va_D A (wM E am gm_328 ks_329 os_330 ts_331 iq_332 mk_333 me_334) := hD
      have hFc : ∀ q, va_A (wM E am gm_328 ks_329 os_330 ts_331 iq_332 mk_333 me_334) H.size q → A q := frS hDc hS hA
      refine va_callv (va_runV (As := []) (rest := []) ⟨hx, hb, hml, hown, hta⟩ (c_X3_isDone E l am gm_328 ks_329 os_330 ts_331 iq_332 mk_333 me_334 H.size _ hw) (pcV (n := 0) hta tw_718 tw_715 tw_6 tw_717 tp_42 rfl rfl hd_X3_isDone ⟨Nat.le_of_ble_eq_true rfl, Nat.le_of_ble_eq_true rfl⟩) ⟨fbM, va_recv hKE.1 hP (ci := 4) (q0 := 0) rfl rfl, fun U hU hW => ⟨rfl, preM.mk hPc hKE hDc hZ hS hFc hU hW⟩⟩ rfl rfl hl.1 rfl (lv_room (Nat.le_of_ble_eq_true rfl)) dX3_step_91 ⟨Nat.le_of_ble_eq_true rfl, Nat.le_of_ble_eq_true rfl⟩) hS (fun q _ h => hFc q h) hFc (fun u t H locs ht hvm hw hB hz1 hk1 hS => ?_)
      obtain ⟨gm_338, ks_339, os_340, ts_341, iq_342, mk_343, me_344⟩ := u
      obtain ⟨hP1, hD1⟩ := hB
      rw [ht] at hP1
      try dsimp only at hw hP1 hD1
      have hP : va_P (eD E) vwCl [((am 0), .inr (4, [.int (gm_338 0), .int (gm_338 1), .int (gm_338 2), .int (gm_338 3), .int (gm_338 4), .ref (am 1), .ref (am 2), .ref (am 3), .int (gm_338 8), .int (gm_338 9), .int (gm_338 10), .int (gm_338 11), .int (gm_338 12), .int (gm_338 13), .int (gm_338 14), .int (gm_338 15), .int (gm_338 16), .int (gm_338 17), .int (gm_338 18), .int (gm_338 19), .int (gm_338 20), .ref (am 4), .int (gm_338 22), .int (gm_338 23), .ref (am 5), .ref (am 6), .int (gm_338 26)])), ((am 1), .inl (eC E 0, 32, .inl ks_339)), ((am 2), .inl (eC E 0, 32, .inl os_340)), ((am 3), .inl (eC E 0, 32, .inl ts_341)), ((am 4), .inl (eC E 0, 3, .inl iq_342)), ((am 5), .inl (eC E 0, 320, .inl mk_343)), ((am 6), .inl (eC E 0, 320, .inl me_344))] H := hP1
      have hD : va_D A [((am 0), .inr (4, [.int (gm_338 0), .int (gm_338 1), .int (gm_338 2), .int (gm_338 3), .int (gm_338 4), .ref (am 1), .ref (am 2), .ref (am 3), .int (gm_338 8), .int (gm_338 9), .int (gm_338 10), .int (gm_338 11), .int (gm_338 12), .int (gm_338 13), .int (gm_338 14), .int (gm_338 15), .int (gm_338 16), .int (gm_338 17), .int (gm_338 18), .int (gm_338 19), .int (gm_338 20), .ref (am 4), .int (gm_338 22), .int (gm_338 23), .ref (am 5), .ref (am 6), .int (gm_338 26)])), ((am 1), .inl (eC E 0, 32, .inl ks_339)), ((am 2), .inl (eC E 0, 32, .inl os_340)), ((am 3), .inl (eC E 0, 32, .inl ts_341)), ((am 4), .inl (eC E 0, 3, .inl iq_342)), ((am 5), .inl (eC E 0, 320, .inl mk_343)), ((am 6), .inl (eC E 0, 320, .inl me_344))] := hD1.weaken (fun _ q _ h => hFc q.1 h)
      refine lv_iconst (v := 1) hx hb dX3_step_94 (by decide) ?_
      have hP9 : va_P (eD E) vwCl (wM E am gm_338 ks_339 os_340 ts_341 iq_342 mk_343 me_344) H := hP
      have hD9 : va_D A (wM E am gm_338 ks_339 os_340 ts_341 iq_342 mk_343 me_344) := hD
      exact W.iret (v := 1) hx hb hr (fun t ht hW => ⟨⟨1, (gm_338, ks_339, os_340, ts_341, iq_342, mk_343, me_344), rfl, hw, ⟨by rw [ht]; exact hP9, hD9⟩⟩, hS.F ht⟩) hS.2.2 dX3_step_95
def wp_X3_lacksInk (E : EV) (post : Int32 → Prop) (gm : Nat → Int32) (ks : Nat → Int32) (os : Nat → Int32) (ts : Nat → Int32) (iq : Nat → Int32) (mk : Nat → Int32) (me : Nat → Int32) : Prop := (((gm 4) ≤ 0 → post 0) ∧ (¬ (gm 4) ≤ 0 → (((ks (0 : Int32).toNatClampNeg) = 2 → (((gm 19) = 0 → post 0) ∧ (¬ (gm 19) = 0 → (vp_in (gm 20) 3 ∧ (((iq (gm 20).toNatClampNeg) = 0 → post 1) ∧ (¬ (iq (gm 20).toNatClampNeg) = 0 → post 0)))))) ∧ (¬ (ks (0 : Int32).toNatClampNeg) = 2 → post 0))))
set_option maxHeartbeats 4000000 in
set_option maxRecDepth 100000 in
theorem c_X3_lacksInk (E : EV) (l : Launch) (am : Nat → Nat) (gm : Nat → Int32) (ks : Nat → Int32) (os : Nat → Int32) (ts : Nat → Int32) (iq : Nat → Int32) (mk : Nat → Int32) (me : Nat → Int32) (post : Int32 → Prop) (hw : wp_X3_lacksInk E post gm ks os ts iq mk me) : Met l yX3_lacksInk (Cond.code yX3_lacksInk cX3_lacksInk 1 (some .boolean) :: ALLW) ({ frames := 0, cells := 0, slots := 0, locals := 0 } : Room) (va_Pc [.ref (am 0)] (preR E (wM E am gm ks os ts iq mk me))) (vp_Si post) 0 0 (fun _ => False) := by
  refine Met.ofW (cc := cX3_lacksInk) (maxL := 1) (ret := (some .boolean)) (by decide) rfl ?_
  intro p e s m args below meth c s₁ B hml hv
  obtain ⟨rfl, hpre⟩ := hv
  have hx := B.exec
  have hb := B.bytes
  have hr := B.returns
  have hlocks := B.notSynchronized
  have hts := atoms_spec (ws := (Cond.code yX3_lacksInk cX3_lacksInk 1 (some .boolean) :: ALLW)) B.pre
  have hta : ∀ w ∈ ALLW, w.before ([.ref (am 0)] : List Value).toArray s = true := fun w h => hts w (List.mem_cons_of_mem _ h)
  have hown : s.vm.findClass RX3 = some m.cls := findClass_of_methodNamed B.named
  obtain ⟨hP, hKE⟩ := hpre
  have hP : va_P (eD E) vwCl [((am 0), .inr (4, [.int (gm 0), .int (gm 1), .int (gm 2), .int (gm 3), .int (gm 4), .ref (am 1), .ref (am 2), .ref (am 3), .int (gm 8), .int (gm 9), .int (gm 10), .int (gm 11), .int (gm 12), .int (gm 13), .int (gm 14), .int (gm 15), .int (gm 16), .int (gm 17), .int (gm 18), .int (gm 19), .int (gm 20), .ref (am 4), .int (gm 22), .int (gm 23), .ref (am 5), .ref (am 6), .int (gm 26)])), ((am 1), .inl (eC E 0, 32, .inl ks)), ((am 2), .inl (eC E 0, 32, .inl os)), ((am 3), .inl (eC E 0, 32, .inl ts)), ((am 4), .inl (eC E 0, 3, .inl iq)), ((am 5), .inl (eC E 0, 320, .inl mk)), ((am 6), .inl (eC E 0, 320, .inl me))] s.heap := hP
  have hl := lv_entry ([.ref (am 0)]) (n := 1) (Nat.le_of_ble_eq_true rfl)
  rw [lg_entry_eq]
  generalize (lg_sl ([.ref (am 0)]) ++ List.replicate (1 - (lg_sl ([.ref (am 0)])).length) Slot.unset).toArray = ls at hl ⊢
  have hl : lv_has ls 1 [(0, .ref (am 0))] := hl
  unfold wp_X3_lacksInk at hw
  refine lv_aload_n hx hb dX3_lacksInk_0 rfl (lv_at hl 0 rfl) ?_
  refine va_get (D := eD E) (ci := 4) (v := .int (gm 4)) (C := RX3) (T := TX3) (N := 27) hx hb hta lay_X3 hown hKE.1 hP 0 rfl rfl 4 (by decide) (hta _ tw_558) (fun _ h9 => h9) rfl dX3_lacksInk_1 ?_
  refine lv_if_le (tgt := 40) hx hb dX3_lacksInk_4 (by decide) (fun c_345 => ?_) (fun c_345 => ?_)
  · have hw := hw.1 c_345
    refine lv_iconst (v := 0) hx hb dX3_lacksInk_40 (by decide) ?_
    exact W.zret (v := 0) hx hb hr rfl (fun t ht hW => ⟨0, rfl, hw, ht⟩) (fun q hq => nomatch hq) dX3_lacksInk_41
  · have hw := hw.2 c_345
    refine lv_aload_n hx hb dX3_lacksInk_7 rfl (lv_at hl 0 rfl) ?_
    refine va_get (D := eD E) (ci := 4) (v := .ref (am 1)) (C := RX3) (T := TX3) (N := 27) hx hb hta lay_X3 hown hKE.1 hP 0 rfl rfl 5 (by decide) (hta _ tw_559) (fun _ h9 => h9) rfl dX3_lacksInk_8 ?_
    refine lv_iconst (v := 0) hx hb dX3_lacksInk_11 (by decide) ?_
    refine va_iald hx hb hKE.1 hP 1 0 rfl rfl (show vp_in 0 32 from by unfold vp_in; decide) dX3_lacksInk_12 ?_
    refine lv_iconst (v := 2) hx hb dX3_lacksInk_13 (by decide) ?_
    refine lv_icmp_ne (tgt := 40) hx hb dX3_lacksInk_14 (by decide) (fun c_346 => ?_) (fun c_346 => ?_)
    · have hw := hw.2 c_346
      refine lv_iconst (v := 0) hx hb dX3_lacksInk_40 (by decide) ?_
      exact W.zret (v := 0) hx hb hr rfl (fun t ht hW => ⟨0, rfl, hw, ht⟩) (fun q hq => nomatch hq) dX3_lacksInk_41
    · have hw := hw.1 c_346
      refine lv_aload_n hx hb dX3_lacksInk_17 rfl (lv_at hl 0 rfl) ?_
      refine va_get (D := eD E) (ci := 4) (v := .int (gm 19)) (C := RX3) (T := TX3) (N := 27) hx hb hta lay_X3 hown hKE.1 hP 0 rfl rfl 19 (by decide) (hta _ tw_573) (fun _ h9 => h9) rfl dX3_lacksInk_18 ?_
      refine lv_if_eq (tgt := 40) hx hb dX3_lacksInk_21 (by decide) (fun c_347 => ?_) (fun c_347 => ?_)
      · have hw := hw.1 c_347
        refine lv_iconst (v := 0) hx hb dX3_lacksInk_40 (by decide) ?_
        exact W.zret (v := 0) hx hb hr rfl (fun t ht hW => ⟨0, rfl, hw, ht⟩) (fun q hq => nomatch hq) dX3_lacksInk_41
      · have hw := hw.2 c_347
        refine lv_aload_n hx hb dX3_lacksInk_24 rfl (lv_at hl 0 rfl) ?_
        refine va_get (D := eD E) (ci := 4) (v := .ref (am 4)) (C := RX3) (T := TX3) (N := 27) hx hb hta lay_X3 hown hKE.1 hP 0 rfl rfl 21 (by decide) (hta _ tw_575) (fun _ h9 => h9) rfl dX3_lacksInk_25 ?_
        refine lv_aload_n hx hb dX3_lacksInk_28 rfl (lv_at hl 0 rfl) ?_
        refine va_get (D := eD E) (ci := 4) (v := .int (gm 20)) (C := RX3) (T := TX3) (N := 27) hx hb hta lay_X3 hown hKE.1 hP 0 rfl rfl 20 (by decide) (hta _ tw_574) (fun _ h9 => h9) rfl dX3_lacksInk_29 ?_
        obtain ⟨hi_348, hw⟩ := hw
        refine va_iald hx hb hKE.1 hP 4 0 rfl rfl hi_348 dX3_lacksInk_32 ?_
        refine lv_if_ne (tgt := 40) hx hb dX3_lacksInk_33 (by decide) (fun c_349 => ?_) (fun c_349 => ?_)
        · have hw := hw.2 c_349
          refine lv_iconst (v := 0) hx hb dX3_lacksInk_40 (by decide) ?_
          exact W.zret (v := 0) hx hb hr rfl (fun t ht hW => ⟨0, rfl, hw, ht⟩) (fun q hq => nomatch hq) dX3_lacksInk_41
        · have hw := hw.1 c_349
          refine lv_iconst (v := 1) hx hb dX3_lacksInk_36 (by decide) ?_
          refine lv_goto (tgt := 41) hx hb dX3_lacksInk_37 (by decide) ?_
          exact W.zret (v := 1) hx hb hr rfl (fun t ht hW => ⟨1, rfl, hw, ht⟩) (fun q hq => nomatch hq) dX3_lacksInk_41
def wp_X3_ticks (E : EV) (post : Int32 → (Nat → Int32) → (Nat → Int32) → (Nat → Int32) → (Nat → Int32) → (Nat → Int32) → (Nat → Int32) → (Nat → Int32) → Prop) (gm : Nat → Int32) (ks : Nat → Int32) (os : Nat → Int32) (ts : Nat → Int32) (iq : Nat → Int32) (mk : Nat → Int32) (me : Nat → Int32) : Prop := (((gm 4) = 0 → post 0 gm ks os ts iq mk me) ∧ (¬ (gm 4) = 0 → (wp_X3_lacksInk E (fun r_351 : Int32 => ((r_351 = 0 → (((ks (0 : Int32).toNatClampNeg) = 2 → (((gm 19) = 0 → (wp_X3_lifts E (fun (gm_399 : Nat → Int32) (ks_400 : Nat → Int32) (os_401 : Nat → Int32) (ts_402 : Nat → Int32) (iq_403 : Nat → Int32) (mk_404 : Nat → Int32) (me_405 : Nat → Int32) => post 0 gm_399 ks_400 os_401 ts_402 iq_403 mk_404 me_405) gm ks os ts iq mk me 0)) ∧ (¬ (gm 19) = 0 → (((ks (0 : Int32).toNatClampNeg) = 3 → (wp_X3_changes E (fun (gm_391 : Nat → Int32) (ks_392 : Nat → Int32) (os_393 : Nat → Int32) (ts_394 : Nat → Int32) (iq_395 : Nat → Int32) (mk_396 : Nat → Int32) (me_397 : Nat → Int32) => post 0 gm_391 ks_392 os_393 ts_394 iq_395 mk_396 me_397) gm ks os ts iq mk me)) ∧ (¬ (ks (0 : Int32).toNatClampNeg) = 3 → (wp_X3_step E (fun (r_382 : Int32) (gm_383 : Nat → Int32) (ks_384 : Nat → Int32) (os_385 : Nat → Int32) (ts_386 : Nat → Int32) (iq_387 : Nat → Int32) (mk_388 : Nat → Int32) (me_389 : Nat → Int32) => post r_382 gm_383 ks_384 os_385 ts_386 iq_387 mk_388 me_389) gm ks os ts iq mk me)))))) ∧ (¬ (ks (0 : Int32).toNatClampNeg) = 2 → (((gm 19) = 0 → (((ks (0 : Int32).toNatClampNeg) = 3 → (wp_X3_changes E (fun (gm_365 : Nat → Int32) (ks_366 : Nat → Int32) (os_367 : Nat → Int32) (ts_368 : Nat → Int32) (iq_369 : Nat → Int32) (mk_370 : Nat → Int32) (me_371 : Nat → Int32) => post 0 gm_365 ks_366 os_367 ts_368 iq_369 mk_370 me_371) gm ks os ts iq mk me)) ∧ (¬ (ks (0 : Int32).toNatClampNeg) = 3 → (wp_X3_step E (fun (r_356 : Int32) (gm_357 : Nat → Int32) (ks_358 : Nat → Int32) (os_359 : Nat → Int32) (ts_360 : Nat → Int32) (iq_361 : Nat → Int32) (mk_362 : Nat → Int32) (me_363 : Nat → Int32) => post r_356 gm_357 ks_358 os_359 ts_360 iq_361 mk_362 me_363) gm ks os ts iq mk me)))) ∧ (¬ (gm 19) = 0 → (wp_X3_lifts E (fun (gm_373 : Nat → Int32) (ks_374 : Nat → Int32) (os_375 : Nat → Int32) (ts_376 : Nat → Int32) (iq_377 : Nat → Int32) (mk_378 : Nat → Int32) (me_379 : Nat → Int32) => post 0 gm_373 ks_374 os_375 ts_376 iq_377 mk_378 me_379) gm ks os ts iq mk me 1)))))) ∧ (¬ (r_351 = 0) → post 0 gm ks os ts iq mk me))) gm ks os ts iq mk me)))
set_option maxHeartbeats 4000000 in
set_option maxRecDepth 100000 in
theorem c_X3_ticks (E : EV) (l : Launch) (am : Nat → Nat) (gm : Nat → Int32) (ks : Nat → Int32) (os : Nat → Int32) (ts : Nat → Int32) (iq : Nat → Int32) (mk : Nat → Int32) (me : Nat → Int32) (hz : Nat) (post : Int32 → (Nat → Int32) → (Nat → Int32) → (Nat → Int32) → (Nat → Int32) → (Nat → Int32) → (Nat → Int32) → (Nat → Int32) → Prop) (hw : wp_X3_ticks E post gm ks os ts iq mk me) : Met l yX3_ticks (Cond.code yX3_ticks cX3_ticks 1 (some .int) :: ALLW) ({ frames := 4, cells := 0, slots := 0, locals := 83 } : Room) (va_Pc [.ref (am 0)] (preM E (wM E am gm ks os ts iq mk me) hz)) (va_Qi (fun (r : Int32) (u : (Nat → Int32) × (Nat → Int32) × (Nat → Int32) × (Nat → Int32) × (Nat → Int32) × (Nat → Int32) × (Nat → Int32)) => post r u.1 u.2.1 u.2.2.1 u.2.2.2.1 u.2.2.2.2.1 u.2.2.2.2.2.1 u.2.2.2.2.2.2) (fun (u : (Nat → Int32) × (Nat → Int32) × (Nat → Int32) × (Nat → Int32) × (Nat → Int32) × (Nat → Int32) × (Nat → Int32)) t => va_P (eD E) vwCl (wM E am u.1 u.2.1 u.2.2.1 u.2.2.2.1 u.2.2.2.2.1 u.2.2.2.2.2.1 u.2.2.2.2.2.2) t.heap ∧ va_D (va_A (wM E am gm ks os ts iq mk me) hz) (wM E am u.1 u.2.1 u.2.2.1 u.2.2.2.1 u.2.2.2.2.1 u.2.2.2.2.2.1 u.2.2.2.2.2.2)) (va_A (wM E am gm ks os ts iq mk me) hz)) 0 0 (va_A (wM E am gm ks os ts iq mk me) hz) := by
  refine Met.ofW (cc := cX3_ticks) (maxL := 1) (ret := (some .int)) (by decide) rfl ?_
  intro p e s m args below meth c s₁ B hml hv
  obtain ⟨rfl, hpre⟩ := hv
  have hx := B.exec
  have hb := B.bytes
  have hr := B.returns
  have hlocks := B.notSynchronized
  have hts := atoms_spec (ws := (Cond.code yX3_ticks cX3_ticks 1 (some .int) :: ALLW)) B.pre
  have hta : ∀ w ∈ ALLW, w.before ([.ref (am 0)] : List Value).toArray s = true := fun w h => hts w (List.mem_cons_of_mem _ h)
  have hown : s.vm.findClass RX3 = some m.cls := findClass_of_methodNamed B.named
  obtain ⟨hsz, hP, hKE, hD0, hZ⟩ := hpre
  subst hsz
  have hD := hD0.self (sz := s.heap.size)
  generalize hAe : va_A (wM E am gm ks os ts iq mk me) s.heap.size = A at hD hZ ⊢
  have hA : ∀ q : Nat, s.heap.size ≤ q → A q := fun q h => by rw [← hAe]; exact Or.inr h
  have hS : va_S A s.heap s.heap [] := va_S.rf
  have hP : va_P (eD E) vwCl [((am 0), .inr (4, [.int (gm 0), .int (gm 1), .int (gm 2), .int (gm 3), .int (gm 4), .ref (am 1), .ref (am 2), .ref (am 3), .int (gm 8), .int (gm 9), .int (gm 10), .int (gm 11), .int (gm 12), .int (gm 13), .int (gm 14), .int (gm 15), .int (gm 16), .int (gm 17), .int (gm 18), .int (gm 19), .int (gm 20), .ref (am 4), .int (gm 22), .int (gm 23), .ref (am 5), .ref (am 6), .int (gm 26)])), ((am 1), .inl (eC E 0, 32, .inl ks)), ((am 2), .inl (eC E 0, 32, .inl os)), ((am 3), .inl (eC E 0, 32, .inl ts)), ((am 4), .inl (eC E 0, 3, .inl iq)), ((am 5), .inl (eC E 0, 320, .inl mk)), ((am 6), .inl (eC E 0, 320, .inl me))] s.heap := hP
  have hD : va_D A [((am 0), .inr (4, [.int (gm 0), .int (gm 1), .int (gm 2), .int (gm 3), .int (gm 4), .ref (am 1), .ref (am 2), .ref (am 3), .int (gm 8), .int (gm 9), .int (gm 10), .int (gm 11), .int (gm 12), .int (gm 13), .int (gm 14), .int (gm 15), .int (gm 16), .int (gm 17), .int (gm 18), .int (gm 19), .int (gm 20), .ref (am 4), .int (gm 22), .int (gm 23), .ref (am 5), .ref (am 6), .int (gm 26)])), ((am 1), .inl (eC E 0, 32, .inl ks)), ((am 2), .inl (eC E 0, 32, .inl os)), ((am 3), .inl (eC E 0, 32, .inl ts)), ((am 4), .inl (eC E 0, 3, .inl iq)), ((am 5), .inl (eC E 0, 320, .inl mk)), ((am 6), .inl (eC E 0, 320, .inl me))] := hD
  have hl := lv_entry ([.ref (am 0)]) (n := 1) (Nat.le_of_ble_eq_true rfl)
  rw [lg_entry_eq]
  generalize (lg_sl ([.ref (am 0)]) ++ List.replicate (1 - (lg_sl ([.ref (am 0)])).length) Slot.unset).toArray = ls at hl ⊢
  have hl : lv_has ls 1 [(0, .ref (am 0))] := hl
  unfold wp_X3_ticks at hw
  refine lv_aload_n hx hb dX3_ticks_0 rfl (lv_at hl 0 rfl) ?_
  refine va_get (D := eD E) (ci := 4) (v := .int (gm 4)) (C := RX3) (T := TX3) (N := 27) hx hb hta lay_X3 hown hKE.1 hP 0 rfl rfl 4 (by decide) (hta _ tw_558) (fun _ h9 => h9) rfl dX3_ticks_1 ?_
  refine lv_if_eq (tgt := 14) hx hb dX3_ticks_4 (by decide) (fun c_350 => ?_) (fun c_350 => ?_)
  · have hw := hw.1 c_350
    refine lv_iconst (v := 0) hx hb dX3_ticks_14 (by decide) ?_
    have hP9 : va_P (eD E) vwCl (wM E am gm ks os ts iq mk me) s.heap := hP
    have hD9 : va_D A (wM E am gm ks os ts iq mk me) := hD
    exact W.iret (v := 0) hx hb hr (fun t ht hW => ⟨⟨0, (gm, ks, os, ts, iq, mk, me), rfl, hw, ⟨by rw [ht]; exact hP9, hD9⟩⟩, hS.F ht⟩) hS.2.2 dX3_ticks_15
  · have hw := hw.2 c_350
    refine lv_aload_n hx hb dX3_ticks_7 rfl (lv_at hl 0 rfl) ?_
    have hPc : va_P (eD E) vwCl (wM E am gm ks os ts iq mk me) s.heap := hP
    refine vp_callSi (va_Run.run (va_runV (As := []) (rest := []) ⟨hx, hb, hml, hown, hta⟩ (c_X3_lacksInk E l am gm ks os ts iq mk me _ hw) (pcV (n := 0) hta tw_702 tw_699 tw_6 tw_701 tp_38 rfl rfl hd_X3_lacksInk ⟨Nat.le_of_ble_eq_true rfl, Nat.le_of_ble_eq_true rfl⟩) ⟨fbR, va_recv hKE.1 hP (ci := 4) (q0 := 0) rfl rfl, fun U hU hW => ⟨rfl, preR.mk hPc hKE hU hW⟩⟩ rfl rfl hl.1 rfl (lv_room (Nat.le_of_ble_eq_true rfl)) dX3_ticks_8 ⟨Nat.le_of_ble_eq_true rfl, Nat.le_of_ble_eq_true rfl⟩)) (fun r_351 hw => ?_)
    refine lv_if_eq (tgt := 16) hx hb dX3_ticks_11 (by decide) (fun c_352 => ?_) (fun c_352 => ?_)
    · have hw := hw.1 c_352
      refine lv_aload_n hx hb dX3_ticks_16 rfl (lv_at hl 0 rfl) ?_
      refine va_get (D := eD E) (ci := 4) (v := .ref (am 1)) (C := RX3) (T := TX3) (N := 27) hx hb hta lay_X3 hown hKE.1 hP 0 rfl rfl 5 (by decide) (hta _ tw_559) (fun _ h9 => h9) rfl dX3_ticks_17 ?_
      refine lv_iconst (v := 0) hx hb dX3_ticks_20 (by decide) ?_
      refine va_iald hx hb hKE.1 hP 1 0 rfl rfl (show vp_in 0 32 from by unfold vp_in; decide) dX3_ticks_21 ?_
      refine lv_iconst (v := 2) hx hb dX3_ticks_22 (by decide) ?_
      refine lv_icmp_ne (tgt := 36) hx hb dX3_ticks_23 (by decide) (fun c_353 => ?_) (fun c_353 => ?_)
      · have hw := hw.2 c_353
        refine lv_aload_n hx hb dX3_ticks_36 rfl (lv_at hl 0 rfl) ?_
        refine va_get (D := eD E) (ci := 4) (v := .int (gm 19)) (C := RX3) (T := TX3) (N := 27) hx hb hta lay_X3 hown hKE.1 hP 0 rfl rfl 19 (by decide) (hta _ tw_573) (fun _ h9 => h9) rfl dX3_ticks_37 ?_
        refine lv_if_eq (tgt := 64) hx hb dX3_ticks_40 (by decide) (fun c_354 => ?_) (fun c_354 => ?_)
        · have hw := hw.1 c_354
          refine lv_aload_n hx hb dX3_ticks_64 rfl (lv_at hl 0 rfl) ?_
          refine va_get (D := eD E) (ci := 4) (v := .ref (am 1)) (C := RX3) (T := TX3) (N := 27) hx hb hta lay_X3 hown hKE.1 hP 0 rfl rfl 5 (by decide) (hta _ tw_559) (fun _ h9 => h9) rfl dX3_ticks_65 ?_
          refine lv_iconst (v := 0) hx hb dX3_ticks_68 (by decide) ?_
          refine va_iald hx hb hKE.1 hP 1 0 rfl rfl (show vp_in 0 32 from by unfold vp_in; decide) dX3_ticks_69 ?_
          refine lv_iconst (v := 3) hx hb dX3_ticks_70 (by decide) ?_
          refine lv_icmp_ne (tgt := 80) hx hb dX3_ticks_71 (by decide) (fun c_355 => ?_) (fun c_355 => ?_)
          · have hw := hw.2 c_355
            refine lv_aload_n hx hb dX3_ticks_80 rfl (lv_at hl 0 rfl) ?_
            have hPc : va_P (eD E) vwCl (wM E am gm ks os ts iq mk me) s.heap := hP
            have hDc : va_D A (wM E am gm ks os ts iq mk me) := hD
            have hFc : ∀ q, va_A (wM E am gm ks os ts iq mk me) s.heap.size q → A q := frS hDc hS hA
            refine va_calli (va_runV (As := []) (rest := []) ⟨hx, hb, hml, hown, hta⟩ (c_X3_step E l am gm ks os ts iq mk me s.heap.size _ hw) (pcV (n := 0) hta tw_722 tw_719 tw_6 tw_721 tp_43 rfl rfl hd_X3_step ⟨Nat.le_of_ble_eq_true rfl, Nat.le_of_ble_eq_true rfl⟩) ⟨fbM, va_recv hKE.1 hP (ci := 4) (q0 := 0) rfl rfl, fun U hU hW => ⟨rfl, preM.mk hPc hKE hDc hZ hS hFc hU hW⟩⟩ rfl rfl hl.1 rfl (lv_room (Nat.le_of_ble_eq_true rfl)) dX3_ticks_81 ⟨Nat.le_of_ble_eq_true rfl, Nat.le_of_ble_eq_true rfl⟩) hS (fun q _ h => hFc q h) hFc (fun r_356 u t H locs ht hvm hw hB hz1 hk1 hS => ?_)
            obtain ⟨gm_357, ks_358, os_359, ts_360, iq_361, mk_362, me_363⟩ := u
            obtain ⟨hP1, hD1⟩ := hB
            rw [ht] at hP1
            try dsimp only at hw hP1 hD1
            have hP : va_P (eD E) vwCl [((am 0), .inr (4, [.int (gm_357 0), .int (gm_357 1), .int (gm_357 2), .int (gm_357 3), .int (gm_357 4), .ref (am 1), .ref (am 2), .ref (am 3), .int (gm_357 8), .int (gm_357 9), .int (gm_357 10), .int (gm_357 11), .int (gm_357 12), .int (gm_357 13), .int (gm_357 14), .int (gm_357 15), .int (gm_357 16), .int (gm_357 17), .int (gm_357 18), .int (gm_357 19), .int (gm_357 20), .ref (am 4), .int (gm_357 22), .int (gm_357 23), .ref (am 5), .ref (am 6), .int (gm_357 26)])), ((am 1), .inl (eC E 0, 32, .inl ks_358)), ((am 2), .inl (eC E 0, 32, .inl os_359)), ((am 3), .inl (eC E 0, 32, .inl ts_360)), ((am 4), .inl (eC E 0, 3, .inl iq_361)), ((am 5), .inl (eC E 0, 320, .inl mk_362)), ((am 6), .inl (eC E 0, 320, .inl me_363))] H := hP1
            have hD : va_D A [((am 0), .inr (4, [.int (gm_357 0), .int (gm_357 1), .int (gm_357 2), .int (gm_357 3), .int (gm_357 4), .ref (am 1), .ref (am 2), .ref (am 3), .int (gm_357 8), .int (gm_357 9), .int (gm_357 10), .int (gm_357 11), .int (gm_357 12), .int (gm_357 13), .int (gm_357 14), .int (gm_357 15), .int (gm_357 16), .int (gm_357 17), .int (gm_357 18), .int (gm_357 19), .int (gm_357 20), .ref (am 4), .int (gm_357 22), .int (gm_357 23), .ref (am 5), .ref (am 6), .int (gm_357 26)])), ((am 1), .inl (eC E 0, 32, .inl ks_358)), ((am 2), .inl (eC E 0, 32, .inl os_359)), ((am 3), .inl (eC E 0, 32, .inl ts_360)), ((am 4), .inl (eC E 0, 3, .inl iq_361)), ((am 5), .inl (eC E 0, 320, .inl mk_362)), ((am 6), .inl (eC E 0, 320, .inl me_363))] := hD1.weaken (fun _ q _ h => hFc q.1 h)
            have hP9 : va_P (eD E) vwCl (wM E am gm_357 ks_358 os_359 ts_360 iq_361 mk_362 me_363) H := hP
            have hD9 : va_D A (wM E am gm_357 ks_358 os_359 ts_360 iq_361 mk_362 me_363) := hD
            exact W.iret (v := r_356) hx hb hr (fun t ht hW => ⟨⟨r_356, (gm_357, ks_358, os_359, ts_360, iq_361, mk_362, me_363), rfl, hw, ⟨by rw [ht]; exact hP9, hD9⟩⟩, hS.F ht⟩) hS.2.2 dX3_ticks_84
          · have hw := hw.1 c_355
            refine lv_aload_n hx hb dX3_ticks_74 rfl (lv_at hl 0 rfl) ?_
            have hPc : va_P (eD E) vwCl (wM E am gm ks os ts iq mk me) s.heap := hP
            have hDc : va_D A (wM E am gm ks os ts iq mk me) := hD
            have hFc : ∀ q, va_A (wM E am gm ks os ts iq mk me) s.heap.size q → A q := frS hDc hS hA
            refine va_callv (va_runV (As := []) (rest := []) ⟨hx, hb, hml, hown, hta⟩ (c_X3_changes E l am gm ks os ts iq mk me s.heap.size _ hw) (pcV (n := 0) hta tw_714 tw_711 tw_6 tw_713 tp_41 rfl rfl hd_X3_changes ⟨Nat.le_of_ble_eq_true rfl, Nat.le_of_ble_eq_true rfl⟩) ⟨fbM, va_recv hKE.1 hP (ci := 4) (q0 := 0) rfl rfl, fun U hU hW => ⟨rfl, preM.mk hPc hKE hDc hZ hS hFc hU hW⟩⟩ rfl rfl hl.1 rfl (lv_room (Nat.le_of_ble_eq_true rfl)) dX3_ticks_75 ⟨Nat.le_of_ble_eq_true rfl, Nat.le_of_ble_eq_true rfl⟩) hS (fun q _ h => hFc q h) hFc (fun u t H locs ht hvm hw hB hz1 hk1 hS => ?_)
            obtain ⟨gm_365, ks_366, os_367, ts_368, iq_369, mk_370, me_371⟩ := u
            obtain ⟨hP1, hD1⟩ := hB
            rw [ht] at hP1
            try dsimp only at hw hP1 hD1
            have hP : va_P (eD E) vwCl [((am 0), .inr (4, [.int (gm_365 0), .int (gm_365 1), .int (gm_365 2), .int (gm_365 3), .int (gm_365 4), .ref (am 1), .ref (am 2), .ref (am 3), .int (gm_365 8), .int (gm_365 9), .int (gm_365 10), .int (gm_365 11), .int (gm_365 12), .int (gm_365 13), .int (gm_365 14), .int (gm_365 15), .int (gm_365 16), .int (gm_365 17), .int (gm_365 18), .int (gm_365 19), .int (gm_365 20), .ref (am 4), .int (gm_365 22), .int (gm_365 23), .ref (am 5), .ref (am 6), .int (gm_365 26)])), ((am 1), .inl (eC E 0, 32, .inl ks_366)), ((am 2), .inl (eC E 0, 32, .inl os_367)), ((am 3), .inl (eC E 0, 32, .inl ts_368)), ((am 4), .inl (eC E 0, 3, .inl iq_369)), ((am 5), .inl (eC E 0, 320, .inl mk_370)), ((am 6), .inl (eC E 0, 320, .inl me_371))] H := hP1
            have hD : va_D A [((am 0), .inr (4, [.int (gm_365 0), .int (gm_365 1), .int (gm_365 2), .int (gm_365 3), .int (gm_365 4), .ref (am 1), .ref (am 2), .ref (am 3), .int (gm_365 8), .int (gm_365 9), .int (gm_365 10), .int (gm_365 11), .int (gm_365 12), .int (gm_365 13), .int (gm_365 14), .int (gm_365 15), .int (gm_365 16), .int (gm_365 17), .int (gm_365 18), .int (gm_365 19), .int (gm_365 20), .ref (am 4), .int (gm_365 22), .int (gm_365 23), .ref (am 5), .ref (am 6), .int (gm_365 26)])), ((am 1), .inl (eC E 0, 32, .inl ks_366)), ((am 2), .inl (eC E 0, 32, .inl os_367)), ((am 3), .inl (eC E 0, 32, .inl ts_368)), ((am 4), .inl (eC E 0, 3, .inl iq_369)), ((am 5), .inl (eC E 0, 320, .inl mk_370)), ((am 6), .inl (eC E 0, 320, .inl me_371))] := hD1.weaken (fun _ q _ h => hFc q.1 h)
            refine lv_iconst (v := 0) hx hb dX3_ticks_78 (by decide) ?_
            have hP9 : va_P (eD E) vwCl (wM E am gm_365 ks_366 os_367 ts_368 iq_369 mk_370 me_371) H := hP
            have hD9 : va_D A (wM E am gm_365 ks_366 os_367 ts_368 iq_369 mk_370 me_371) := hD
            exact W.iret (v := 0) hx hb hr (fun t ht hW => ⟨⟨0, (gm_365, ks_366, os_367, ts_368, iq_369, mk_370, me_371), rfl, hw, ⟨by rw [ht]; exact hP9, hD9⟩⟩, hS.F ht⟩) hS.2.2 dX3_ticks_79
        · have hw := hw.2 c_354
          refine lv_aload_n hx hb dX3_ticks_43 rfl (lv_at hl 0 rfl) ?_
          refine lv_aload_n hx hb dX3_ticks_44 rfl (lv_at hl 0 rfl) ?_
          refine va_get (D := eD E) (ci := 4) (v := .ref (am 1)) (C := RX3) (T := TX3) (N := 27) hx hb hta lay_X3 hown hKE.1 hP 0 rfl rfl 5 (by decide) (hta _ tw_559) (fun _ h9 => h9) rfl dX3_ticks_45 ?_
          refine lv_iconst (v := 0) hx hb dX3_ticks_48 (by decide) ?_
          refine va_iald hx hb hKE.1 hP 1 0 rfl rfl (show vp_in 0 32 from by unfold vp_in; decide) dX3_ticks_49 ?_
          refine lv_iconst (v := 2) hx hb dX3_ticks_50 (by decide) ?_
          refine lv_icmp_eq (tgt := 58) hx hb dX3_ticks_51 (by decide) (fun c9 => absurd c9 c_353) (fun _ => ?_)
          refine lv_iconst (v := 1) hx hb dX3_ticks_54 (by decide) ?_
          refine lv_goto (tgt := 59) hx hb dX3_ticks_55 (by decide) ?_
          have hPc : va_P (eD E) vwCl (wM E am gm ks os ts iq mk me) s.heap := hP
          have hDc : va_D A (wM E am gm ks os ts iq mk me) := hD
          have hFc : ∀ q, va_A (wM E am gm ks os ts iq mk me) s.heap.size q → A q := frS hDc hS hA
          refine va_callv (va_runV (As := [.int 1]) (rest := []) ⟨hx, hb, hml, hown, hta⟩ (c_X3_lifts E l am gm ks os ts iq mk me 1 s.heap.size _ hw) (pcV (n := 1) hta tw_706 tw_703 tw_6 tw_705 tp_39 rfl rfl hd_X3_lifts ⟨Nat.le_of_ble_eq_true rfl, Nat.le_of_ble_eq_true rfl⟩) ⟨fbM, va_recv hKE.1 hP (ci := 4) (q0 := 0) rfl rfl, fun U hU hW => ⟨rfl, preM.mk hPc hKE hDc hZ hS hFc hU hW⟩⟩ rfl rfl hl.1 rfl (lv_room (Nat.le_of_ble_eq_true rfl)) dX3_ticks_59 ⟨Nat.le_of_ble_eq_true rfl, Nat.le_of_ble_eq_true rfl⟩) hS (fun q _ h => hFc q h) hFc (fun u t H locs ht hvm hw hB hz1 hk1 hS => ?_)
          obtain ⟨gm_373, ks_374, os_375, ts_376, iq_377, mk_378, me_379⟩ := u
          obtain ⟨hP1, hD1⟩ := hB
          rw [ht] at hP1
          try dsimp only at hw hP1 hD1
          have hP : va_P (eD E) vwCl [((am 0), .inr (4, [.int (gm_373 0), .int (gm_373 1), .int (gm_373 2), .int (gm_373 3), .int (gm_373 4), .ref (am 1), .ref (am 2), .ref (am 3), .int (gm_373 8), .int (gm_373 9), .int (gm_373 10), .int (gm_373 11), .int (gm_373 12), .int (gm_373 13), .int (gm_373 14), .int (gm_373 15), .int (gm_373 16), .int (gm_373 17), .int (gm_373 18), .int (gm_373 19), .int (gm_373 20), .ref (am 4), .int (gm_373 22), .int (gm_373 23), .ref (am 5), .ref (am 6), .int (gm_373 26)])), ((am 1), .inl (eC E 0, 32, .inl ks_374)), ((am 2), .inl (eC E 0, 32, .inl os_375)), ((am 3), .inl (eC E 0, 32, .inl ts_376)), ((am 4), .inl (eC E 0, 3, .inl iq_377)), ((am 5), .inl (eC E 0, 320, .inl mk_378)), ((am 6), .inl (eC E 0, 320, .inl me_379))] H := hP1
          have hD : va_D A [((am 0), .inr (4, [.int (gm_373 0), .int (gm_373 1), .int (gm_373 2), .int (gm_373 3), .int (gm_373 4), .ref (am 1), .ref (am 2), .ref (am 3), .int (gm_373 8), .int (gm_373 9), .int (gm_373 10), .int (gm_373 11), .int (gm_373 12), .int (gm_373 13), .int (gm_373 14), .int (gm_373 15), .int (gm_373 16), .int (gm_373 17), .int (gm_373 18), .int (gm_373 19), .int (gm_373 20), .ref (am 4), .int (gm_373 22), .int (gm_373 23), .ref (am 5), .ref (am 6), .int (gm_373 26)])), ((am 1), .inl (eC E 0, 32, .inl ks_374)), ((am 2), .inl (eC E 0, 32, .inl os_375)), ((am 3), .inl (eC E 0, 32, .inl ts_376)), ((am 4), .inl (eC E 0, 3, .inl iq_377)), ((am 5), .inl (eC E 0, 320, .inl mk_378)), ((am 6), .inl (eC E 0, 320, .inl me_379))] := hD1.weaken (fun _ q _ h => hFc q.1 h)
          refine lv_iconst (v := 0) hx hb dX3_ticks_62 (by decide) ?_
          have hP9 : va_P (eD E) vwCl (wM E am gm_373 ks_374 os_375 ts_376 iq_377 mk_378 me_379) H := hP
          have hD9 : va_D A (wM E am gm_373 ks_374 os_375 ts_376 iq_377 mk_378 me_379) := hD
          exact W.iret (v := 0) hx hb hr (fun t ht hW => ⟨⟨0, (gm_373, ks_374, os_375, ts_376, iq_377, mk_378, me_379), rfl, hw, ⟨by rw [ht]; exact hP9, hD9⟩⟩, hS.F ht⟩) hS.2.2 dX3_ticks_63
      · have hw := hw.1 c_353
        refine lv_aload_n hx hb dX3_ticks_26 rfl (lv_at hl 0 rfl) ?_
        refine va_get (D := eD E) (ci := 4) (v := .int (gm 19)) (C := RX3) (T := TX3) (N := 27) hx hb hta lay_X3 hown hKE.1 hP 0 rfl rfl 19 (by decide) (hta _ tw_573) (fun _ h9 => h9) rfl dX3_ticks_27 ?_
        refine lv_if_ne (tgt := 64) hx hb dX3_ticks_30 (by decide) (fun c_380 => ?_) (fun c_380 => ?_)
        · have hw := hw.2 c_380
          refine lv_aload_n hx hb dX3_ticks_64 rfl (lv_at hl 0 rfl) ?_
          refine va_get (D := eD E) (ci := 4) (v := .ref (am 1)) (C := RX3) (T := TX3) (N := 27) hx hb hta lay_X3 hown hKE.1 hP 0 rfl rfl 5 (by decide) (hta _ tw_559) (fun _ h9 => h9) rfl dX3_ticks_65 ?_
          refine lv_iconst (v := 0) hx hb dX3_ticks_68 (by decide) ?_
          refine va_iald hx hb hKE.1 hP 1 0 rfl rfl (show vp_in 0 32 from by unfold vp_in; decide) dX3_ticks_69 ?_
          refine lv_iconst (v := 3) hx hb dX3_ticks_70 (by decide) ?_
          refine lv_icmp_ne (tgt := 80) hx hb dX3_ticks_71 (by decide) (fun c_381 => ?_) (fun c_381 => ?_)
          · have hw := hw.2 c_381
            refine lv_aload_n hx hb dX3_ticks_80 rfl (lv_at hl 0 rfl) ?_
            have hPc : va_P (eD E) vwCl (wM E am gm ks os ts iq mk me) s.heap := hP
            have hDc : va_D A (wM E am gm ks os ts iq mk me) := hD
            have hFc : ∀ q, va_A (wM E am gm ks os ts iq mk me) s.heap.size q → A q := frS hDc hS hA
            refine va_calli (va_runV (As := []) (rest := []) ⟨hx, hb, hml, hown, hta⟩ (c_X3_step E l am gm ks os ts iq mk me s.heap.size _ hw) (pcV (n := 0) hta tw_722 tw_719 tw_6 tw_721 tp_43 rfl rfl hd_X3_step ⟨Nat.le_of_ble_eq_true rfl, Nat.le_of_ble_eq_true rfl⟩) ⟨fbM, va_recv hKE.1 hP (ci := 4) (q0 := 0) rfl rfl, fun U hU hW => ⟨rfl, preM.mk hPc hKE hDc hZ hS hFc hU hW⟩⟩ rfl rfl hl.1 rfl (lv_room (Nat.le_of_ble_eq_true rfl)) dX3_ticks_81 ⟨Nat.le_of_ble_eq_true rfl, Nat.le_of_ble_eq_true rfl⟩) hS (fun q _ h => hFc q h) hFc (fun r_382 u t H locs ht hvm hw hB hz1 hk1 hS => ?_)
            obtain ⟨gm_383, ks_384, os_385, ts_386, iq_387, mk_388, me_389⟩ := u
            obtain ⟨hP1, hD1⟩ := hB
            rw [ht] at hP1
            try dsimp only at hw hP1 hD1
            have hP : va_P (eD E) vwCl [((am 0), .inr (4, [.int (gm_383 0), .int (gm_383 1), .int (gm_383 2), .int (gm_383 3), .int (gm_383 4), .ref (am 1), .ref (am 2), .ref (am 3), .int (gm_383 8), .int (gm_383 9), .int (gm_383 10), .int (gm_383 11), .int (gm_383 12), .int (gm_383 13), .int (gm_383 14), .int (gm_383 15), .int (gm_383 16), .int (gm_383 17), .int (gm_383 18), .int (gm_383 19), .int (gm_383 20), .ref (am 4), .int (gm_383 22), .int (gm_383 23), .ref (am 5), .ref (am 6), .int (gm_383 26)])), ((am 1), .inl (eC E 0, 32, .inl ks_384)), ((am 2), .inl (eC E 0, 32, .inl os_385)), ((am 3), .inl (eC E 0, 32, .inl ts_386)), ((am 4), .inl (eC E 0, 3, .inl iq_387)), ((am 5), .inl (eC E 0, 320, .inl mk_388)), ((am 6), .inl (eC E 0, 320, .inl me_389))] H := hP1
            have hD : va_D A [((am 0), .inr (4, [.int (gm_383 0), .int (gm_383 1), .int (gm_383 2), .int (gm_383 3), .int (gm_383 4), .ref (am 1), .ref (am 2), .ref (am 3), .int (gm_383 8), .int (gm_383 9), .int (gm_383 10), .int (gm_383 11), .int (gm_383 12), .int (gm_383 13), .int (gm_383 14), .int (gm_383 15), .int (gm_383 16), .int (gm_383 17), .int (gm_383 18), .int (gm_383 19), .int (gm_383 20), .ref (am 4), .int (gm_383 22), .int (gm_383 23), .ref (am 5), .ref (am 6), .int (gm_383 26)])), ((am 1), .inl (eC E 0, 32, .inl ks_384)), ((am 2), .inl (eC E 0, 32, .inl os_385)), ((am 3), .inl (eC E 0, 32, .inl ts_386)), ((am 4), .inl (eC E 0, 3, .inl iq_387)), ((am 5), .inl (eC E 0, 320, .inl mk_388)), ((am 6), .inl (eC E 0, 320, .inl me_389))] := hD1.weaken (fun _ q _ h => hFc q.1 h)
            have hP9 : va_P (eD E) vwCl (wM E am gm_383 ks_384 os_385 ts_386 iq_387 mk_388 me_389) H := hP
            have hD9 : va_D A (wM E am gm_383 ks_384 os_385 ts_386 iq_387 mk_388 me_389) := hD
            exact W.iret (v := r_382) hx hb hr (fun t ht hW => ⟨⟨r_382, (gm_383, ks_384, os_385, ts_386, iq_387, mk_388, me_389), rfl, hw, ⟨by rw [ht]; exact hP9, hD9⟩⟩, hS.F ht⟩) hS.2.2 dX3_ticks_84
          · have hw := hw.1 c_381
            refine lv_aload_n hx hb dX3_ticks_74 rfl (lv_at hl 0 rfl) ?_
            have hPc : va_P (eD E) vwCl (wM E am gm ks os ts iq mk me) s.heap := hP
            have hDc : va_D A (wM E am gm ks os ts iq mk me) := hD
            have hFc : ∀ q, va_A (wM E am gm ks os ts iq mk me) s.heap.size q → A q := frS hDc hS hA
            refine va_callv (va_runV (As := []) (rest := []) ⟨hx, hb, hml, hown, hta⟩ (c_X3_changes E l am gm ks os ts iq mk me s.heap.size _ hw) (pcV (n := 0) hta tw_714 tw_711 tw_6 tw_713 tp_41 rfl rfl hd_X3_changes ⟨Nat.le_of_ble_eq_true rfl, Nat.le_of_ble_eq_true rfl⟩) ⟨fbM, va_recv hKE.1 hP (ci := 4) (q0 := 0) rfl rfl, fun U hU hW => ⟨rfl, preM.mk hPc hKE hDc hZ hS hFc hU hW⟩⟩ rfl rfl hl.1 rfl (lv_room (Nat.le_of_ble_eq_true rfl)) dX3_ticks_75 ⟨Nat.le_of_ble_eq_true rfl, Nat.le_of_ble_eq_true rfl⟩) hS (fun q _ h => hFc q h) hFc (fun u t H locs ht hvm hw hB hz1 hk1 hS => ?_)
            obtain ⟨gm_391, ks_392, os_393, ts_394, iq_395, mk_396, me_397⟩ := u
            obtain ⟨hP1, hD1⟩ := hB
            rw [ht] at hP1
            try dsimp only at hw hP1 hD1
            have hP : va_P (eD E) vwCl [((am 0), .inr (4, [.int (gm_391 0), .int (gm_391 1), .int (gm_391 2), .int (gm_391 3), .int (gm_391 4), .ref (am 1), .ref (am 2), .ref (am 3), .int (gm_391 8), .int (gm_391 9), .int (gm_391 10), .int (gm_391 11), .int (gm_391 12), .int (gm_391 13), .int (gm_391 14), .int (gm_391 15), .int (gm_391 16), .int (gm_391 17), .int (gm_391 18), .int (gm_391 19), .int (gm_391 20), .ref (am 4), .int (gm_391 22), .int (gm_391 23), .ref (am 5), .ref (am 6), .int (gm_391 26)])), ((am 1), .inl (eC E 0, 32, .inl ks_392)), ((am 2), .inl (eC E 0, 32, .inl os_393)), ((am 3), .inl (eC E 0, 32, .inl ts_394)), ((am 4), .inl (eC E 0, 3, .inl iq_395)), ((am 5), .inl (eC E 0, 320, .inl mk_396)), ((am 6), .inl (eC E 0, 320, .inl me_397))] H := hP1
            have hD : va_D A [((am 0), .inr (4, [.int (gm_391 0), .int (gm_391 1), .int (gm_391 2), .int (gm_391 3), .int (gm_391 4), .ref (am 1), .ref (am 2), .ref (am 3), .int (gm_391 8), .int (gm_391 9), .int (gm_391 10), .int (gm_391 11), .int (gm_391 12), .int (gm_391 13), .int (gm_391 14), .int (gm_391 15), .int (gm_391 16), .int (gm_391 17), .int (gm_391 18), .int (gm_391 19), .int (gm_391 20), .ref (am 4), .int (gm_391 22), .int (gm_391 23), .ref (am 5), .ref (am 6), .int (gm_391 26)])), ((am 1), .inl (eC E 0, 32, .inl ks_392)), ((am 2), .inl (eC E 0, 32, .inl os_393)), ((am 3), .inl (eC E 0, 32, .inl ts_394)), ((am 4), .inl (eC E 0, 3, .inl iq_395)), ((am 5), .inl (eC E 0, 320, .inl mk_396)), ((am 6), .inl (eC E 0, 320, .inl me_397))] := hD1.weaken (fun _ q _ h => hFc q.1 h)
            refine lv_iconst (v := 0) hx hb dX3_ticks_78 (by decide) ?_
            have hP9 : va_P (eD E) vwCl (wM E am gm_391 ks_392 os_393 ts_394 iq_395 mk_396 me_397) H := hP
            have hD9 : va_D A (wM E am gm_391 ks_392 os_393 ts_394 iq_395 mk_396 me_397) := hD
            exact W.iret (v := 0) hx hb hr (fun t ht hW => ⟨⟨0, (gm_391, ks_392, os_393, ts_394, iq_395, mk_396, me_397), rfl, hw, ⟨by rw [ht]; exact hP9, hD9⟩⟩, hS.F ht⟩) hS.2.2 dX3_ticks_79
        · have hw := hw.1 c_380
          refine lv_goto (tgt := 43) hx hb dX3_ticks_33 (by decide) ?_
          refine lv_aload_n hx hb dX3_ticks_43 rfl (lv_at hl 0 rfl) ?_
          refine lv_aload_n hx hb dX3_ticks_44 rfl (lv_at hl 0 rfl) ?_
          refine va_get (D := eD E) (ci := 4) (v := .ref (am 1)) (C := RX3) (T := TX3) (N := 27) hx hb hta lay_X3 hown hKE.1 hP 0 rfl rfl 5 (by decide) (hta _ tw_559) (fun _ h9 => h9) rfl dX3_ticks_45 ?_
          refine lv_iconst (v := 0) hx hb dX3_ticks_48 (by decide) ?_
          refine va_iald hx hb hKE.1 hP 1 0 rfl rfl (show vp_in 0 32 from by unfold vp_in; decide) dX3_ticks_49 ?_
          refine lv_iconst (v := 2) hx hb dX3_ticks_50 (by decide) ?_
          refine lv_icmp_eq (tgt := 58) hx hb dX3_ticks_51 (by decide) (fun _ => ?_) (fun c9 => absurd c_353 c9)
          refine lv_iconst (v := 0) hx hb dX3_ticks_58 (by decide) ?_
          have hPc : va_P (eD E) vwCl (wM E am gm ks os ts iq mk me) s.heap := hP
          have hDc : va_D A (wM E am gm ks os ts iq mk me) := hD
          have hFc : ∀ q, va_A (wM E am gm ks os ts iq mk me) s.heap.size q → A q := frS hDc hS hA
          refine va_callv (va_runV (As := [.int 0]) (rest := []) ⟨hx, hb, hml, hown, hta⟩ (c_X3_lifts E l am gm ks os ts iq mk me 0 s.heap.size _ hw) (pcV (n := 1) hta tw_706 tw_703 tw_6 tw_705 tp_39 rfl rfl hd_X3_lifts ⟨Nat.le_of_ble_eq_true rfl, Nat.le_of_ble_eq_true rfl⟩) ⟨fbM, va_recv hKE.1 hP (ci := 4) (q0 := 0) rfl rfl, fun U hU hW => ⟨rfl, preM.mk hPc hKE hDc hZ hS hFc hU hW⟩⟩ rfl rfl hl.1 rfl (lv_room (Nat.le_of_ble_eq_true rfl)) dX3_ticks_59 ⟨Nat.le_of_ble_eq_true rfl, Nat.le_of_ble_eq_true rfl⟩) hS (fun q _ h => hFc q h) hFc (fun u t H locs ht hvm hw hB hz1 hk1 hS => ?_)
          obtain ⟨gm_399, ks_400, os_401, ts_402, iq_403, mk_404, me_405⟩ := u
          obtain ⟨hP1, hD1⟩ := hB
          rw [ht] at hP1
          try dsimp only at hw hP1 hD1
          have hP : va_P (eD E) vwCl [((am 0), .inr (4, [.int (gm_399 0), .int (gm_399 1), .int (gm_399 2), .int (gm_399 3), .int (gm_399 4), .ref (am 1), .ref (am 2), .ref (am 3), .int (gm_399 8), .int (gm_399 9), .int (gm_399 10), .int (gm_399 11), .int (gm_399 12), .int (gm_399 13), .int (gm_399 14), .int (gm_399 15), .int (gm_399 16), .int (gm_399 17), .int (gm_399 18), .int (gm_399 19), .int (gm_399 20), .ref (am 4), .int (gm_399 22), .int (gm_399 23), .ref (am 5), .ref (am 6), .int (gm_399 26)])), ((am 1), .inl (eC E 0, 32, .inl ks_400)), ((am 2), .inl (eC E 0, 32, .inl os_401)), ((am 3), .inl (eC E 0, 32, .inl ts_402)), ((am 4), .inl (eC E 0, 3, .inl iq_403)), ((am 5), .inl (eC E 0, 320, .inl mk_404)), ((am 6), .inl (eC E 0, 320, .inl me_405))] H := hP1
          have hD : va_D A [((am 0), .inr (4, [.int (gm_399 0), .int (gm_399 1), .int (gm_399 2), .int (gm_399 3), .int (gm_399 4), .ref (am 1), .ref (am 2), .ref (am 3), .int (gm_399 8), .int (gm_399 9), .int (gm_399 10), .int (gm_399 11), .int (gm_399 12), .int (gm_399 13), .int (gm_399 14), .int (gm_399 15), .int (gm_399 16), .int (gm_399 17), .int (gm_399 18), .int (gm_399 19), .int (gm_399 20), .ref (am 4), .int (gm_399 22), .int (gm_399 23), .ref (am 5), .ref (am 6), .int (gm_399 26)])), ((am 1), .inl (eC E 0, 32, .inl ks_400)), ((am 2), .inl (eC E 0, 32, .inl os_401)), ((am 3), .inl (eC E 0, 32, .inl ts_402)), ((am 4), .inl (eC E 0, 3, .inl iq_403)), ((am 5), .inl (eC E 0, 320, .inl mk_404)), ((am 6), .inl (eC E 0, 320, .inl me_405))] := hD1.weaken (fun _ q _ h => hFc q.1 h)
          refine lv_iconst (v := 0) hx hb dX3_ticks_62 (by decide) ?_
          have hP9 : va_P (eD E) vwCl (wM E am gm_399 ks_400 os_401 ts_402 iq_403 mk_404 me_405) H := hP
          have hD9 : va_D A (wM E am gm_399 ks_400 os_401 ts_402 iq_403 mk_404 me_405) := hD
          exact W.iret (v := 0) hx hb hr (fun t ht hW => ⟨⟨0, (gm_399, ks_400, os_401, ts_402, iq_403, mk_404, me_405), rfl, hw, ⟨by rw [ht]; exact hP9, hD9⟩⟩, hS.F ht⟩) hS.2.2 dX3_ticks_63
    · have hw := hw.2 c_352
      refine lv_iconst (v := 0) hx hb dX3_ticks_14 (by decide) ?_
      have hP9 : va_P (eD E) vwCl (wM E am gm ks os ts iq mk me) s.heap := hP
      have hD9 : va_D A (wM E am gm ks os ts iq mk me) := hD
      exact W.iret (v := 0) hx hb hr (fun t ht hW => ⟨⟨0, (gm, ks, os, ts, iq, mk, me), rfl, hw, ⟨by rw [ht]; exact hP9, hD9⟩⟩, hS.F ht⟩) hS.2.2 dX3_ticks_15
def wp_X3_tick_L29 (E : EV) (post : Int32 → (Nat → Int32) → (Nat → Int32) → (Nat → Int32) → (Nat → Int32) → (Nat → Int32) → (Nat → Int32) → (Nat → Int32) → Prop)   : Nat → (Nat → Int32) → (Nat → Int32) → (Nat → Int32) → (Nat → Int32) → (Nat → Int32) → (Nat → Int32) → (Nat → Int32) → Int32 → Int32 → Int32 → Prop
  | 0, _, _, _, _, _, _, _, _, _, _ => False
  | n + 1, gm_L, ks_L, os_L, ts_L, iq_L, mk_L, me_L, x1, x2, x3 => ((x1 ≤ x3 → post x2 gm_L ks_L os_L ts_L iq_L mk_L me_L) ∧ (¬ (x1 ≤ x3) → (wp_X3_ticks E (fun (r_418 : Int32) (gm_419 : Nat → Int32) (ks_420 : Nat → Int32) (os_421 : Nat → Int32) (ts_422 : Nat → Int32) (iq_423 : Nat → Int32) (mk_424 : Nat → Int32) (me_425 : Nat → Int32) => (wp_X3_tick_L29 E post n gm_419 ks_420 os_421 ts_422 iq_423 mk_424 me_425 x1 (x2 + r_418) (x3 + 1))) gm_L ks_L os_L ts_L iq_L mk_L me_L)))
def wp_X3_tick (E : EV) (post : Int32 → (Nat → Int32) → (Nat → Int32) → (Nat → Int32) → (Nat → Int32) → (Nat → Int32) → (Nat → Int32) → (Nat → Int32) → Prop) (gm : Nat → Int32) (ks : Nat → Int32) (os : Nat → Int32) (ts : Nat → Int32) (iq : Nat → Int32) (mk : Nat → Int32) (me : Nat → Int32) (p0 : Int32) : Prop := (wp_X3_isIn E (fun r_406 : Int32 => ((r_406 = 0 → (wp_X3_goes E (fun (r_408 : Int32) (gm_409 : Nat → Int32) (ks_410 : Nat → Int32) (os_411 : Nat → Int32) (ts_412 : Nat → Int32) (iq_413 : Nat → Int32) (mk_414 : Nat → Int32) (me_415 : Nat → Int32) => ((r_408 = 0 → post 0 gm_409 ks_410 os_411 ts_412 iq_413 mk_414 me_415) ∧ (¬ (r_408 = 0) → (∃ n : Nat, wp_X3_tick_L29 E post n gm_409 ks_410 os_411 ts_412 iq_413 mk_414 me_415 p0 0 0)))) gm ks os ts iq mk me 1)) ∧ (¬ (r_406 = 0) → (wp_X3_goes E (fun (r_427 : Int32) (gm_428 : Nat → Int32) (ks_429 : Nat → Int32) (os_430 : Nat → Int32) (ts_431 : Nat → Int32) (iq_432 : Nat → Int32) (mk_433 : Nat → Int32) (me_434 : Nat → Int32) => ((r_427 = 0 → post 0 gm_428 ks_429 os_430 ts_431 iq_432 mk_433 me_434) ∧ (¬ (r_427 = 0) → (∃ n : Nat, wp_X3_tick_L29 E post n gm_428 ks_429 os_430 ts_431 iq_432 mk_433 me_434 p0 0 0)))) gm ks os ts iq mk me 0)))) p0 1 1000)
set_option maxHeartbeats 4000000 in
set_option maxRecDepth 100000 in
theorem c_X3_tick (E : EV) (l : Launch) (am : Nat → Nat) (gm : Nat → Int32) (ks : Nat → Int32) (os : Nat → Int32) (ts : Nat → Int32) (iq : Nat → Int32) (mk : Nat → Int32) (me : Nat → Int32) (p0 : Int32) (hz : Nat) (post : Int32 → (Nat → Int32) → (Nat → Int32) → (Nat → Int32) → (Nat → Int32) → (Nat → Int32) → (Nat → Int32) → (Nat → Int32) → Prop) (hw : wp_X3_tick E post gm ks os ts iq mk me p0) : Met l yX3_tick (Cond.code yX3_tick cX3_tick 4 (some .int) :: ALLW) ({ frames := 5, cells := 0, slots := 0, locals := 103 } : Room) (va_Pc [.ref (am 0), .int p0] (preM E (wM E am gm ks os ts iq mk me) hz)) (va_Qi (fun (r : Int32) (u : (Nat → Int32) × (Nat → Int32) × (Nat → Int32) × (Nat → Int32) × (Nat → Int32) × (Nat → Int32) × (Nat → Int32)) => post r u.1 u.2.1 u.2.2.1 u.2.2.2.1 u.2.2.2.2.1 u.2.2.2.2.2.1 u.2.2.2.2.2.2) (fun (u : (Nat → Int32) × (Nat → Int32) × (Nat → Int32) × (Nat → Int32) × (Nat → Int32) × (Nat → Int32) × (Nat → Int32)) t => va_P (eD E) vwCl (wM E am u.1 u.2.1 u.2.2.1 u.2.2.2.1 u.2.2.2.2.1 u.2.2.2.2.2.1 u.2.2.2.2.2.2) t.heap ∧ va_D (va_A (wM E am gm ks os ts iq mk me) hz) (wM E am u.1 u.2.1 u.2.2.1 u.2.2.2.1 u.2.2.2.2.1 u.2.2.2.2.2.1 u.2.2.2.2.2.2)) (va_A (wM E am gm ks os ts iq mk me) hz)) 0 0 (va_A (wM E am gm ks os ts iq mk me) hz) := by
  refine Met.ofW (cc := cX3_tick) (maxL := 4) (ret := (some .int)) (by decide) rfl ?_
  intro p e s m args below meth c s₁ B hml hv
  obtain ⟨rfl, hpre⟩ := hv
  have hx := B.exec
  have hb := B.bytes
  have hr := B.returns
  have hlocks := B.notSynchronized
  have hts := atoms_spec (ws := (Cond.code yX3_tick cX3_tick 4 (some .int) :: ALLW)) B.pre
  have hta : ∀ w ∈ ALLW, w.before ([.ref (am 0), .int p0] : List Value).toArray s = true := fun w h => hts w (List.mem_cons_of_mem _ h)
  have hown : s.vm.findClass RX3 = some m.cls := findClass_of_methodNamed B.named
  obtain ⟨hsz, hP, hKE, hD0, hZ⟩ := hpre
  subst hsz
  have hD := hD0.self (sz := s.heap.size)
  generalize hAe : va_A (wM E am gm ks os ts iq mk me) s.heap.size = A at hD hZ ⊢
  have hA : ∀ q : Nat, s.heap.size ≤ q → A q := fun q h => by rw [← hAe]; exact Or.inr h
  have hS : va_S A s.heap s.heap [] := va_S.rf
  have hP : va_P (eD E) vwCl [((am 0), .inr (4, [.int (gm 0), .int (gm 1), .int (gm 2), .int (gm 3), .int (gm 4), .ref (am 1), .ref (am 2), .ref (am 3), .int (gm 8), .int (gm 9), .int (gm 10), .int (gm 11), .int (gm 12), .int (gm 13), .int (gm 14), .int (gm 15), .int (gm 16), .int (gm 17), .int (gm 18), .int (gm 19), .int (gm 20), .ref (am 4), .int (gm 22), .int (gm 23), .ref (am 5), .ref (am 6), .int (gm 26)])), ((am 1), .inl (eC E 0, 32, .inl ks)), ((am 2), .inl (eC E 0, 32, .inl os)), ((am 3), .inl (eC E 0, 32, .inl ts)), ((am 4), .inl (eC E 0, 3, .inl iq)), ((am 5), .inl (eC E 0, 320, .inl mk)), ((am 6), .inl (eC E 0, 320, .inl me))] s.heap := hP
  have hD : va_D A [((am 0), .inr (4, [.int (gm 0), .int (gm 1), .int (gm 2), .int (gm 3), .int (gm 4), .ref (am 1), .ref (am 2), .ref (am 3), .int (gm 8), .int (gm 9), .int (gm 10), .int (gm 11), .int (gm 12), .int (gm 13), .int (gm 14), .int (gm 15), .int (gm 16), .int (gm 17), .int (gm 18), .int (gm 19), .int (gm 20), .ref (am 4), .int (gm 22), .int (gm 23), .ref (am 5), .ref (am 6), .int (gm 26)])), ((am 1), .inl (eC E 0, 32, .inl ks)), ((am 2), .inl (eC E 0, 32, .inl os)), ((am 3), .inl (eC E 0, 32, .inl ts)), ((am 4), .inl (eC E 0, 3, .inl iq)), ((am 5), .inl (eC E 0, 320, .inl mk)), ((am 6), .inl (eC E 0, 320, .inl me))] := hD
  have hl := lv_entry ([.ref (am 0), .int p0]) (n := 4) (Nat.le_of_ble_eq_true rfl)
  rw [lg_entry_eq]
  generalize (lg_sl ([.ref (am 0), .int p0]) ++ List.replicate (4 - (lg_sl ([.ref (am 0), .int p0])).length) Slot.unset).toArray = ls at hl ⊢
  have hl : lv_has ls 4 [(0, .ref (am 0)), (1, .int p0)] := hl
  have loop_29 : ∀ (n : Nat) (gm_L : Nat → Int32) (ks_L : Nat → Int32) (os_L : Nat → Int32) (ts_L : Nat → Int32) (iq_L : Nat → Int32) (mk_L : Nat → Int32) (me_L : Nat → Int32) (x1 : Int32) (x2 : Int32) (x3 : Int32), wp_X3_tick_L29 E post n gm_L ks_L os_L ts_L iq_L mk_L me_L x1 x2 x3 → ∀ (H : Heap) (locs : List Loc), va_P (eD E) vwCl [((am 0), .inr (4, [.int (gm_L 0), .int (gm_L 1), .int (gm_L 2), .int (gm_L 3), .int (gm_L 4), .ref (am 1), .ref (am 2), .ref (am 3), .int (gm_L 8), .int (gm_L 9), .int (gm_L 10), .int (gm_L 11), .int (gm_L 12), .int (gm_L 13), .int (gm_L 14), .int (gm_L 15), .int (gm_L 16), .int (gm_L 17), .int (gm_L 18), .int (gm_L 19), .int (gm_L 20), .ref (am 4), .int (gm_L 22), .int (gm_L 23), .ref (am 5), .ref (am 6), .int (gm_L 26)])), ((am 1), .inl (eC E 0, 32, .inl ks_L)), ((am 2), .inl (eC E 0, 32, .inl os_L)), ((am 3), .inl (eC E 0, 32, .inl ts_L)), ((am 4), .inl (eC E 0, 3, .inl iq_L)), ((am 5), .inl (eC E 0, 320, .inl mk_L)), ((am 6), .inl (eC E 0, 320, .inl me_L))] H → va_D A [((am 0), .inr (4, [.int (gm_L 0), .int (gm_L 1), .int (gm_L 2), .int (gm_L 3), .int (gm_L 4), .ref (am 1), .ref (am 2), .ref (am 3), .int (gm_L 8), .int (gm_L 9), .int (gm_L 10), .int (gm_L 11), .int (gm_L 12), .int (gm_L 13), .int (gm_L 14), .int (gm_L 15), .int (gm_L 16), .int (gm_L 17), .int (gm_L 18), .int (gm_L 19), .int (gm_L 20), .ref (am 4), .int (gm_L 22), .int (gm_L 23), .ref (am 5), .ref (am 6), .int (gm_L 26)])), ((am 1), .inl (eC E 0, 32, .inl ks_L)), ((am 2), .inl (eC E 0, 32, .inl os_L)), ((am 3), .inl (eC E 0, 32, .inl ts_L)), ((am 4), .inl (eC E 0, 3, .inl iq_L)), ((am 5), .inl (eC E 0, 320, .inl mk_L)), ((am 6), .inl (eC E 0, 320, .inl me_L))] → va_S A s.heap H locs → ∀ (ls : Array Slot), lv_has ls 4 [(0, .ref (am 0)), (1, .int x1), (2, .int x2), (3, .int x3)] → W p l e (headSpec (Cond.code yX3_tick cX3_tick 4 (some .int) :: ALLW) ({ frames := 5, cells := 0, slots := 0, locals := 103 } : Room)).room s m ([.ref (am 0), .int p0] : List Value).toArray below meth c H locs 0 0 (MQ below (va_Qi (fun (r : Int32) (u : (Nat → Int32) × (Nat → Int32) × (Nat → Int32) × (Nat → Int32) × (Nat → Int32) × (Nat → Int32) × (Nat → Int32)) => post r u.1 u.2.1 u.2.2.1 u.2.2.2.1 u.2.2.2.2.1 u.2.2.2.2.2.1 u.2.2.2.2.2.2) (fun (u : (Nat → Int32) × (Nat → Int32) × (Nat → Int32) × (Nat → Int32) × (Nat → Int32) × (Nat → Int32) × (Nat → Int32)) t => va_P (eD E) vwCl (wM E am u.1 u.2.1 u.2.2.1 u.2.2.2.1 u.2.2.2.2.1 u.2.2.2.2.2.1 u.2.2.2.2.2.2) t.heap ∧ va_D A (wM E am u.1 u.2.1 u.2.2.1 u.2.2.2.1 u.2.2.2.2.1 u.2.2.2.2.2.1 u.2.2.2.2.2.2)) A) ([.ref (am 0), .int p0] : List Value).toArray s 0 0 A) (F0 m 29 ls []) := by
    intro n
    induction n with
    | zero => intro gm_L ks_L os_L ts_L iq_L mk_L me_L x1 x2 x3 hw; exact hw.elim
    | succ n ih =>
      intro gm_L ks_L os_L ts_L iq_L mk_L me_L x1 x2 x3 hw H locs hP hD hS ls hl
      unfold wp_X3_tick_L29 at hw
      refine lv_iload_n hx hb dX3_tick_29 rfl (lv_at hl 3 rfl) ?_
      refine lv_iload_n hx hb dX3_tick_30 rfl (lv_at hl 1 rfl) ?_
      refine lv_icmp_ge (tgt := 47) hx hb dX3_tick_31 (by decide) (fun c_417 => ?_) (fun c_417 => ?_)
      · have hw := hw.1 c_417
        refine lv_iload_n hx hb dX3_tick_47 rfl (lv_at hl 2 rfl) ?_
        have hP9 : va_P (eD E) vwCl (wM E am gm_L ks_L os_L ts_L iq_L mk_L me_L) H := hP
        have hD9 : va_D A (wM E am gm_L ks_L os_L ts_L iq_L mk_L me_L) := hD
        exact W.iret (v := x2) hx hb hr (fun t ht hW => ⟨⟨x2, (gm_L, ks_L, os_L, ts_L, iq_L, mk_L, me_L), rfl, hw, ⟨by rw [ht]; exact hP9, hD9⟩⟩, hS.F ht⟩) hS.2.2 dX3_tick_48
      · have hw := hw.2 c_417
        refine lv_iload_n hx hb dX3_tick_34 rfl (lv_at hl 2 rfl) ?_
        refine lv_aload_n hx hb dX3_tick_35 rfl (lv_at hl 0 rfl) ?_
        have hPc : va_P (eD E) vwCl (wM E am gm_L ks_L os_L ts_L iq_L mk_L me_L) H := hP
        have hDc : va_D A (wM E am gm_L ks_L os_L ts_L iq_L mk_L me_L) := hD
        have hFc : ∀ q, va_A (wM E am gm_L ks_L os_L ts_L iq_L mk_L me_L) H.size q → A q := frS hDc hS hA
        refine va_calli (va_runV (As := []) (rest := [.int x2]) ⟨hx, hb, hml, hown, hta⟩ (c_X3_ticks E l am gm_L ks_L os_L ts_L iq_L mk_L me_L H.size _ hw) (pcV (n := 0) hta tw_698 tw_695 tw_6 tw_697 tp_37 rfl rfl hd_X3_ticks ⟨Nat.le_of_ble_eq_true rfl, Nat.le_of_ble_eq_true rfl⟩) ⟨fbM, va_recv hKE.1 hP (ci := 4) (q0 := 0) rfl rfl, fun U hU hW => ⟨rfl, preM.mk hPc hKE hDc hZ hS hFc hU hW⟩⟩ rfl rfl hl.1 rfl (lv_room (Nat.le_of_ble_eq_true rfl)) dX3_tick_36 ⟨Nat.le_of_ble_eq_true rfl, Nat.le_of_ble_eq_true rfl⟩) hS (fun q _ h => hFc q h) hFc (fun r_418 u t H locs ht hvm hw hB hz1 hk1 hS => ?_)
        obtain ⟨gm_419, ks_420, os_421, ts_422, iq_423, mk_424, me_425⟩ := u
        obtain ⟨hP1, hD1⟩ := hB
        rw [ht] at hP1
        try dsimp only at hw hP1 hD1
        have hP : va_P (eD E) vwCl [((am 0), .inr (4, [.int (gm_419 0), .int (gm_419 1), .int (gm_419 2), .int (gm_419 3), .int (gm_419 4), .ref (am 1), .ref (am 2), .ref (am 3), .int (gm_419 8), .int (gm_419 9), .int (gm_419 10), .int (gm_419 11), .int (gm_419 12), .int (gm_419 13), .int (gm_419 14), .int (gm_419 15), .int (gm_419 16), .int (gm_419 17), .int (gm_419 18), .int (gm_419 19), .int (gm_419 20), .ref (am 4), .int (gm_419 22), .int (gm_419 23), .ref (am 5), .ref (am 6), .int (gm_419 26)])), ((am 1), .inl (eC E 0, 32, .inl ks_420)), ((am 2), .inl (eC E 0, 32, .inl os_421)), ((am 3), .inl (eC E 0, 32, .inl ts_422)), ((am 4), .inl (eC E 0, 3, .inl iq_423)), ((am 5), .inl (eC E 0, 320, .inl mk_424)), ((am 6), .inl (eC E 0, 320, .inl me_425))] H := hP1
        have hD : va_D A [((am 0), .inr (4, [.int (gm_419 0), .int (gm_419 1), .int (gm_419 2), .int (gm_419 3), .int (gm_419 4), .ref (am 1), .ref (am 2), .ref (am 3), .int (gm_419 8), .int (gm_419 9), .int (gm_419 10), .int (gm_419 11), .int (gm_419 12), .int (gm_419 13), .int (gm_419 14), .int (gm_419 15), .int (gm_419 16), .int (gm_419 17), .int (gm_419 18), .int (gm_419 19), .int (gm_419 20), .ref (am 4), .int (gm_419 22), .int (gm_419 23), .ref (am 5), .ref (am 6), .int (gm_419 26)])), ((am 1), .inl (eC E 0, 32, .inl ks_420)), ((am 2), .inl (eC E 0, 32, .inl os_421)), ((am 3), .inl (eC E 0, 32, .inl ts_422)), ((am 4), .inl (eC E 0, 3, .inl iq_423)), ((am 5), .inl (eC E 0, 320, .inl mk_424)), ((am 6), .inl (eC E 0, 320, .inl me_425))] := hD1.weaken (fun _ q _ h => hFc q.1 h)
        refine lv_iadd hx hb dX3_tick_39 ?_
        refine lv_istore_n (lv' := [(2, .int (x2 + r_418)), (0, .ref (am 0)), (1, .int x1), (3, .int x3)]) hx hb dX3_tick_40 rfl hl (by decide) rfl (fun ls hl => ?_)
        refine lv_iinc (v := (x3 + 1)) (lv' := [(3, .int (x3 + 1)), (2, .int (x2 + r_418)), (0, .ref (am 0)), (1, .int x1)]) hx hb dX3_tick_41 hl (k := 3) rfl rfl (by decide) rfl (fun ls hl => ?_)
        refine lv_goto (tgt := 29) hx hb dX3_tick_44 (by decide) ?_
        exact ih gm_419 ks_420 os_421 ts_422 iq_423 mk_424 me_425 x1 (x2 + r_418) (x3 + 1) hw _ _ hP hD hS ls (lv_sub hl [2, 3, 1, 0] rfl)
  unfold wp_X3_tick at hw
  refine lv_aload_n hx hb dX3_tick_0 rfl (lv_at hl 0 rfl) ?_
  refine lv_iload_n hx hb dX3_tick_1 rfl (lv_at hl 1 rfl) ?_
  refine lv_iconst (v := 1) hx hb dX3_tick_2 (by decide) ?_
  refine lv_sipush (v := 1000) hx hb dX3_tick_3 (by decide) ?_
  have hPc : va_P (eD E) vwCl [] s.heap := va_P_nil
  refine vp_callSi (va_Run.run (va_runS (As := [.int p0, .int 1, .int 1000]) (rest := [.ref (am 0)]) ⟨hx, hb, hml, hown, hta⟩ (c_X3_isIn E l p0 1 1000 _ hw) (pcS (n := 3) hta tw_646 tw_644 tw_6 tw_645 rfl rfl hd_X3_isIn ⟨Nat.le_of_ble_eq_true rfl, Nat.le_of_ble_eq_true rfl⟩) ⟨fbR, fun U hU hW => ⟨rfl, preR.mk hPc hKE hU hW⟩⟩ rfl rfl hl.1 rfl (lv_room (Nat.le_of_ble_eq_true rfl)) dX3_tick_6 ⟨Nat.le_of_ble_eq_true rfl, Nat.le_of_ble_eq_true rfl⟩)) (fun r_406 hw => ?_)
  refine lv_if_eq (tgt := 16) hx hb dX3_tick_9 (by decide) (fun c_407 => ?_) (fun c_407 => ?_)
  · have hw := hw.1 c_407
    refine lv_iconst (v := 1) hx hb dX3_tick_16 (by decide) ?_
    have hPc : va_P (eD E) vwCl (wM E am gm ks os ts iq mk me) s.heap := hP
    have hDc : va_D A (wM E am gm ks os ts iq mk me) := hD
    have hFc : ∀ q, va_A (wM E am gm ks os ts iq mk me) s.heap.size q → A q := frS hDc hS hA
    refine va_calli (va_runV (As := [.int 1]) (rest := []) ⟨hx, hb, hml, hown, hta⟩ (c_X3_goes E l am gm ks os ts iq mk me 1 s.heap.size _ hw) (pcV (n := 1) hta tw_650 tw_647 tw_6 tw_649 tp_32 rfl rfl hd_X3_goes ⟨Nat.le_of_ble_eq_true rfl, Nat.le_of_ble_eq_true rfl⟩) ⟨fbM, va_recv hKE.1 hP (ci := 4) (q0 := 0) rfl rfl, fun U hU hW => ⟨rfl, preM.mk hPc hKE hDc hZ hS hFc hU hW⟩⟩ rfl rfl hl.1 rfl (lv_room (Nat.le_of_ble_eq_true rfl)) dX3_tick_17 ⟨Nat.le_of_ble_eq_true rfl, Nat.le_of_ble_eq_true rfl⟩) hS (fun q _ h => hFc q h) hFc (fun r_408 u t H locs ht hvm hw hB hz1 hk1 hS => ?_)
    obtain ⟨gm_409, ks_410, os_411, ts_412, iq_413, mk_414, me_415⟩ := u
    obtain ⟨hP1, hD1⟩ := hB
    rw [ht] at hP1
    try dsimp only at hw hP1 hD1
    have hP : va_P (eD E) vwCl [((am 0), .inr (4, [.int (gm_409 0), .int (gm_409 1), .int (gm_409 2), .int (gm_409 3), .int (gm_409 4), .ref (am 1), .ref (am 2), .ref (am 3), .int (gm_409 8), .int (gm_409 9), .int (gm_409 10), .int (gm_409 11), .int (gm_409 12), .int (gm_409 13), .int (gm_409 14), .int (gm_409 15), .int (gm_409 16), .int (gm_409 17), .int (gm_409 18), .int (gm_409 19), .int (gm_409 20), .ref (am 4), .int (gm_409 22), .int (gm_409 23), .ref (am 5), .ref (am 6), .int (gm_409 26)])), ((am 1), .inl (eC E 0, 32, .inl ks_410)), ((am 2), .inl (eC E 0, 32, .inl os_411)), ((am 3), .inl (eC E 0, 32, .inl ts_412)), ((am 4), .inl (eC E 0, 3, .inl iq_413)), ((am 5), .inl (eC E 0, 320, .inl mk_414)), ((am 6), .inl (eC E 0, 320, .inl me_415))] H := hP1
    have hD : va_D A [((am 0), .inr (4, [.int (gm_409 0), .int (gm_409 1), .int (gm_409 2), .int (gm_409 3), .int (gm_409 4), .ref (am 1), .ref (am 2), .ref (am 3), .int (gm_409 8), .int (gm_409 9), .int (gm_409 10), .int (gm_409 11), .int (gm_409 12), .int (gm_409 13), .int (gm_409 14), .int (gm_409 15), .int (gm_409 16), .int (gm_409 17), .int (gm_409 18), .int (gm_409 19), .int (gm_409 20), .ref (am 4), .int (gm_409 22), .int (gm_409 23), .ref (am 5), .ref (am 6), .int (gm_409 26)])), ((am 1), .inl (eC E 0, 32, .inl ks_410)), ((am 2), .inl (eC E 0, 32, .inl os_411)), ((am 3), .inl (eC E 0, 32, .inl ts_412)), ((am 4), .inl (eC E 0, 3, .inl iq_413)), ((am 5), .inl (eC E 0, 320, .inl mk_414)), ((am 6), .inl (eC E 0, 320, .inl me_415))] := hD1.weaken (fun _ q _ h => hFc q.1 h)
    refine lv_if_ne (tgt := 25) hx hb dX3_tick_20 (by decide) (fun c_416 => ?_) (fun c_416 => ?_)
    · have hw := hw.2 c_416
      refine lv_iconst (v := 0) hx hb dX3_tick_25 (by decide) ?_
      refine lv_istore_n (lv' := [(2, .int 0), (0, .ref (am 0)), (1, .int p0)]) hx hb dX3_tick_26 rfl hl (by decide) rfl (fun ls hl => ?_)
      refine lv_iconst (v := 0) hx hb dX3_tick_27 (by decide) ?_
      refine lv_istore_n (lv' := [(3, .int 0), (2, .int 0), (0, .ref (am 0)), (1, .int p0)]) hx hb dX3_tick_28 rfl hl (by decide) rfl (fun ls hl => ?_)
      obtain ⟨n_426, hw⟩ := hw
      exact loop_29 n_426 gm_409 ks_410 os_411 ts_412 iq_413 mk_414 me_415 p0 0 0 hw _ _ hP hD hS ls (lv_sub hl [2, 3, 1, 0] rfl)
    · have hw := hw.1 c_416
      refine lv_iconst (v := 0) hx hb dX3_tick_23 (by decide) ?_
      have hP9 : va_P (eD E) vwCl (wM E am gm_409 ks_410 os_411 ts_412 iq_413 mk_414 me_415) H := hP
      have hD9 : va_D A (wM E am gm_409 ks_410 os_411 ts_412 iq_413 mk_414 me_415) := hD
      exact W.iret (v := 0) hx hb hr (fun t ht hW => ⟨⟨0, (gm_409, ks_410, os_411, ts_412, iq_413, mk_414, me_415), rfl, hw, ⟨by rw [ht]; exact hP9, hD9⟩⟩, hS.F ht⟩) hS.2.2 dX3_tick_24
  · have hw := hw.2 c_407
    refine lv_iconst (v := 0) hx hb dX3_tick_12 (by decide) ?_
    refine lv_goto (tgt := 17) hx hb dX3_tick_13 (by decide) ?_
    have hPc : va_P (eD E) vwCl (wM E am gm ks os ts iq mk me) s.heap := hP
    have hDc : va_D A (wM E am gm ks os ts iq mk me) := hD
    have hFc : ∀ q, va_A (wM E am gm ks os ts iq mk me) s.heap.size q → A q := frS hDc hS hA
    refine va_calli (va_runV (As := [.int 0]) (rest := []) ⟨hx, hb, hml, hown, hta⟩ (c_X3_goes E l am gm ks os ts iq mk me 0 s.heap.size _ hw) (pcV (n := 1) hta tw_650 tw_647 tw_6 tw_649 tp_32 rfl rfl hd_X3_goes ⟨Nat.le_of_ble_eq_true rfl, Nat.le_of_ble_eq_true rfl⟩) ⟨fbM, va_recv hKE.1 hP (ci := 4) (q0 := 0) rfl rfl, fun U hU hW => ⟨rfl, preM.mk hPc hKE hDc hZ hS hFc hU hW⟩⟩ rfl rfl hl.1 rfl (lv_room (Nat.le_of_ble_eq_true rfl)) dX3_tick_17 ⟨Nat.le_of_ble_eq_true rfl, Nat.le_of_ble_eq_true rfl⟩) hS (fun q _ h => hFc q h) hFc (fun r_427 u t H locs ht hvm hw hB hz1 hk1 hS => ?_)
    obtain ⟨gm_428, ks_429, os_430, ts_431, iq_432, mk_433, me_434⟩ := u
    obtain ⟨hP1, hD1⟩ := hB
    rw [ht] at hP1
    try dsimp only at hw hP1 hD1
    have hP : va_P (eD E) vwCl [((am 0), .inr (4, [.int (gm_428 0), .int (gm_428 1), .int (gm_428 2), .int (gm_428 3), .int (gm_428 4), .ref (am 1), .ref (am 2), .ref (am 3), .int (gm_428 8), .int (gm_428 9), .int (gm_428 10), .int (gm_428 11), .int (gm_428 12), .int (gm_428 13), .int (gm_428 14), .int (gm_428 15), .int (gm_428 16), .int (gm_428 17), .int (gm_428 18), .int (gm_428 19), .int (gm_428 20), .ref (am 4), .int (gm_428 22), .int (gm_428 23), .ref (am 5), .ref (am 6), .int (gm_428 26)])), ((am 1), .inl (eC E 0, 32, .inl ks_429)), ((am 2), .inl (eC E 0, 32, .inl os_430)), ((am 3), .inl (eC E 0, 32, .inl ts_431)), ((am 4), .inl (eC E 0, 3, .inl iq_432)), ((am 5), .inl (eC E 0, 320, .inl mk_433)), ((am 6), .inl (eC E 0, 320, .inl me_434))] H := hP1
    have hD : va_D A [((am 0), .inr (4, [.int (gm_428 0), .int (gm_428 1), .int (gm_428 2), .int (gm_428 3), .int (gm_428 4), .ref (am 1), .ref (am 2), .ref (am 3), .int (gm_428 8), .int (gm_428 9), .int (gm_428 10), .int (gm_428 11), .int (gm_428 12), .int (gm_428 13), .int (gm_428 14), .int (gm_428 15), .int (gm_428 16), .int (gm_428 17), .int (gm_428 18), .int (gm_428 19), .int (gm_428 20), .ref (am 4), .int (gm_428 22), .int (gm_428 23), .ref (am 5), .ref (am 6), .int (gm_428 26)])), ((am 1), .inl (eC E 0, 32, .inl ks_429)), ((am 2), .inl (eC E 0, 32, .inl os_430)), ((am 3), .inl (eC E 0, 32, .inl ts_431)), ((am 4), .inl (eC E 0, 3, .inl iq_432)), ((am 5), .inl (eC E 0, 320, .inl mk_433)), ((am 6), .inl (eC E 0, 320, .inl me_434))] := hD1.weaken (fun _ q _ h => hFc q.1 h)
    refine lv_if_ne (tgt := 25) hx hb dX3_tick_20 (by decide) (fun c_435 => ?_) (fun c_435 => ?_)
    · have hw := hw.2 c_435
      refine lv_iconst (v := 0) hx hb dX3_tick_25 (by decide) ?_
      refine lv_istore_n (lv' := [(2, .int 0), (0, .ref (am 0)), (1, .int p0)]) hx hb dX3_tick_26 rfl hl (by decide) rfl (fun ls hl => ?_)
      refine lv_iconst (v := 0) hx hb dX3_tick_27 (by decide) ?_
      refine lv_istore_n (lv' := [(3, .int 0), (2, .int 0), (0, .ref (am 0)), (1, .int p0)]) hx hb dX3_tick_28 rfl hl (by decide) rfl (fun ls hl => ?_)
      obtain ⟨n_436, hw⟩ := hw
      exact loop_29 n_436 gm_428 ks_429 os_430 ts_431 iq_432 mk_433 me_434 p0 0 0 hw _ _ hP hD hS ls (lv_sub hl [2, 3, 1, 0] rfl)
    · have hw := hw.1 c_435
      refine lv_iconst (v := 0) hx hb dX3_tick_23 (by decide) ?_
      have hP9 : va_P (eD E) vwCl (wM E am gm_428 ks_429 os_430 ts_431 iq_432 mk_433 me_434) H := hP
      have hD9 : va_D A (wM E am gm_428 ks_429 os_430 ts_431 iq_432 mk_433 me_434) := hD
      exact W.iret (v := 0) hx hb hr (fun t ht hW => ⟨⟨0, (gm_428, ks_429, os_430, ts_431, iq_432, mk_433, me_434), rfl, hw, ⟨by rw [ht]; exact hP9, hD9⟩⟩, hS.F ht⟩) hS.2.2 dX3_tick_24
