def wp_L_isOnLine_L167 (E : EV) (post : Int32 → Prop) (gx : Nat → Int32) (lt : Option Nat) (mo : Int32) (ad : Nat) (ln : Int32) (PL : List Nat) (pf : Nat → va_E) (pw : Nat → Int64) (pk : Int32) (lw : Nat → Int64) (lk : Int32) (ik : Nat → Int32) (cw : Nat → Int32) (mw : Nat → Int32) : Nat → Int32 → Int32 → Int32 → Prop
  | 0, _, _, _ => False
  | n + 1, x4, x5, x6 => ((x4 < 0 → False) ∧ (¬ (x4 < 0) → ((x5 = 0 → (((cw (0 : Int32).toNatClampNeg) = 3 → ((2 < x4 → False) ∧ (¬ (2 < x4) → (wp_X2_at E (fun r_920 : Int32 => ((r_920 = (cw (3 : Int32).toNatClampNeg) → (wp_X2_isWaiting E (fun r_922 : Int32 => ((r_922 = x6 → post 1) ∧ (¬ (r_922 = x6) → False))) gx lt mo ad ln PL pf pw pk lw lk ik)) ∧ (¬ (r_920 = (cw (3 : Int32).toNatClampNeg)) → False))) gx lt mo ad ln PL pf pw pk lw lk ik)))) ∧ (¬ (cw (0 : Int32).toNatClampNeg) = 3 → ((0 < x4 → False) ∧ (¬ (0 < x4) → (wp_X2_at E (fun r_912 : Int32 => (wp_L_cell E (fun r_913 : Int32 => ((r_912 = r_913 → (wp_L_size E (fun r_915 : Int32 => ((r_915 ≤ (mw (7 : Int32).toNatClampNeg) → False) ∧ (¬ (r_915 ≤ (mw (7 : Int32).toNatClampNeg)) → (wp_X2_isWaiting E (fun r_917 : Int32 => ((r_917 = x6 → post 1) ∧ (¬ (r_917 = x6) → False))) gx lt mo ad ln PL pf pw pk lw lk ik)))) (cw (1 : Int32).toNatClampNeg) (cw (2 : Int32).toNatClampNeg))) ∧ (¬ (r_912 = r_913) → False))) cw mw (mw (7 : Int32).toNatClampNeg))) gx lt mo ad ln PL pf pw pk lw lk ik)))))) ∧ (¬ (x5 = 0) → ((1 < x4 → False) ∧ (¬ (1 < x4) → (wp_X2_at E (fun r_925 : Int32 => (((cw (0 : Int32).toNatClampNeg) = 3 → ((r_925 = (cw (3 : Int32).toNatClampNeg) → (wp_X2_isWaiting E (fun r_934 : Int32 => ((r_934 = x6 → post 1) ∧ (¬ (r_934 = x6) → False))) gx lt mo ad ln PL pf pw pk lw lk ik)) ∧ (¬ (r_925 = (cw (3 : Int32).toNatClampNeg)) → False))) ∧ (¬ (cw (0 : Int32).toNatClampNeg) = 3 → (wp_L_cell E (fun r_927 : Int32 => ((r_925 = r_927 → (wp_L_size E (fun r_929 : Int32 => ((r_929 ≤ (mw (7 : Int32).toNatClampNeg) → False) ∧ (¬ (r_929 ≤ (mw (7 : Int32).toNatClampNeg)) → (wp_X2_isWaiting E (fun r_931 : Int32 => ((r_931 = x6 → post 1) ∧ (¬ (r_931 = x6) → False))) gx lt mo ad ln PL pf pw pk lw lk ik)))) (cw (1 : Int32).toNatClampNeg) (cw (2 : Int32).toNatClampNeg))) ∧ (¬ (r_925 = r_927) → False))) cw mw (mw (7 : Int32).toNatClampNeg))))) gx lt mo ad ln PL pf pw pk lw lk ik)))))))
def wp_L_isOnLine_L135 (E : EV) (post : Int32 → Prop) (gx : Nat → Int32) (lt : Option Nat) (mo : Int32) (ad : Nat) (ln : Int32) (PL : List Nat) (pf : Nat → va_E) (pw : Nat → Int64) (pk : Int32) (lw : Nat → Int64) (lk : Int32) (ik : Nat → Int32) (cw : Nat → Int32) (mw : Nat → Int32) : Nat → Int32 → Int32 → Prop
  | 0, _, _ => False
  | n + 1, x4, x5 => (((cw (0 : Int32).toNatClampNeg) = 2 → (wp_X2_isDown E (fun r_937 : Int32 => ((r_937 = 0 → (∃ n : Nat, wp_L_isOnLine_L167 E post gx lt mo ad ln PL pf pw pk lw lk ik cw mw n x4 x5 0)) ∧ (¬ (r_937 = 0) → (wp_X2_pen E (fun r_940 : Int32 => (wp_X2_ink_r E (fun r_941 : Int32 => ((r_941 = 0 → (∃ n : Nat, wp_L_isOnLine_L167 E post gx lt mo ad ln PL pf pw pk lw lk ik cw mw n x4 x5 1)) ∧ (¬ (r_941 = 0) → (∃ n : Nat, wp_L_isOnLine_L167 E post gx lt mo ad ln PL pf pw pk lw lk ik cw mw n x4 x5 0)))) gx lt mo ad ln PL pf pw pk lw lk ik r_940)) gx lt mo ad ln PL pf pw pk lw lk ik)))) gx lt mo ad ln PL pf pw pk lw lk ik)) ∧ (¬ (cw (0 : Int32).toNatClampNeg) = 2 → (∃ n : Nat, wp_L_isOnLine_L167 E post gx lt mo ad ln PL pf pw pk lw lk ik cw mw n x4 x5 0)))
def wp_L_isOnLine (E : EV) (post : Int32 → Prop) (gx : Nat → Int32) (lt : Option Nat) (mo : Int32) (ad : Nat) (ln : Int32) (PL : List Nat) (pf : Nat → va_E) (pw : Nat → Int64) (pk : Int32) (lw : Nat → Int64) (lk : Int32) (ik : Nat → Int32) (cw : Nat → Int32) (mw : Nat → Int32) : Prop := (wp_X2_queued E (fun r_887 : Int32 => ((r_887 = (mw (0 : Int32).toNatClampNeg) → (wp_X2_errors E (fun r_889 : Int32 => ((r_889 = (mw (1 : Int32).toNatClampNeg) → (((mw (0 : Int32).toNatClampNeg) = 0 → (((mw (7 : Int32).toNatClampNeg) = 0 → (wp_X2_timeLeft E (fun r_893 : Int32 => ((r_893 = 0 → (wp_X2_at E (fun r_895 : Int32 => ((r_895 = ((100 * (mw (6 : Int32).toNatClampNeg)) + (mw (5 : Int32).toNatClampNeg)) → (wp_X2_isWaiting E (fun r_897 : Int32 => ((r_897 = 0 → (wp_X2_marks E (fun r_899 : Int32 => (wp_X2_marksInTheEnd E (fun r_900 : Int32 => ((r_899 = r_900 → post 1) ∧ (¬ (r_899 = r_900) → False))) gx lt mo ad ln PL pf pw pk lw lk ik)) gx lt mo ad ln PL pf pw pk lw lk ik)) ∧ (¬ (r_897 = 0) → False))) gx lt mo ad ln PL pf pw pk lw lk ik)) ∧ (¬ (r_895 = ((100 * (mw (6 : Int32).toNatClampNeg)) + (mw (5 : Int32).toNatClampNeg))) → False))) gx lt mo ad ln PL pf pw pk lw lk ik)) ∧ (¬ (r_893 = 0) → False))) gx lt mo ad ln PL pf pw pk lw lk ik)) ∧ (¬ (mw (7 : Int32).toNatClampNeg) = 0 → False))) ∧ (¬ (mw (0 : Int32).toNatClampNeg) = 0 → (wp_L_due E (fun r_902 : Int32 => (wp_X2_timeLeft E (fun r_903 : Int32 => (((cw (0 : Int32).toNatClampNeg) = 2 → (wp_X2_isDown E (fun r_947 : Int32 => ((1 = r_947 → (∃ n : Nat, wp_L_isOnLine_L135 E post gx lt mo ad ln PL pf pw pk lw lk ik cw mw n (r_902 - r_903) 0)) ∧ (¬ (1 = r_947) → (∃ n : Nat, wp_L_isOnLine_L135 E post gx lt mo ad ln PL pf pw pk lw lk ik cw mw n (r_902 - r_903) 1)))) gx lt mo ad ln PL pf pw pk lw lk ik)) ∧ (¬ (cw (0 : Int32).toNatClampNeg) = 2 → (wp_X2_isDown E (fun r_905 : Int32 => ((0 = r_905 → (∃ n : Nat, wp_L_isOnLine_L135 E post gx lt mo ad ln PL pf pw pk lw lk ik cw mw n (r_902 - r_903) 0)) ∧ (¬ (0 = r_905) → (∃ n : Nat, wp_L_isOnLine_L135 E post gx lt mo ad ln PL pf pw pk lw lk ik cw mw n (r_902 - r_903) 1)))) gx lt mo ad ln PL pf pw pk lw lk ik)))) gx lt mo ad ln PL pf pw pk lw lk ik)) gx lt mo ad ln PL pf pw pk lw lk ik cw mw)))) ∧ (¬ (r_889 = (mw (1 : Int32).toNatClampNeg)) → False))) gx lt mo ad ln PL pf pw pk lw lk ik)) ∧ (¬ (r_887 = (mw (0 : Int32).toNatClampNeg)) → False))) gx lt mo ad ln PL pf pw pk lw lk ik)
set_option maxHeartbeats 4000000 in
set_option maxRecDepth 100000 in
theorem c_L_isOnLine (E : EV) (l : Launch) (ax : Nat → Nat) (bx : Nat → Nat) (gx : Nat → Int32) (lt : Option Nat) (mo : Int32) (ad : Nat) (ln : Int32) (PL : List Nat) (pf : Nat → va_E) (pw : Nat → Int64) (pk : Int32) (lw : Nat → Int64) (lk : Int32) (ik : Nat → Int32) (cw : Nat → Int32) (mw : Nat → Int32) (post : Int32 → Prop) (hw : wp_L_isOnLine E post gx lt mo ad ln PL pf pw pk lw lk ik cw mw) : Met l yL_isOnLine (Cond.code yL_isOnLine cL_isOnLine 7 (some .boolean) :: ALLW) ({ frames := 6, cells := 0, slots := 0, locals := 125 } : Room) (va_Pc [.ref (ax 0), .ref (bx 0), .ref (bx 1)] (preR E (wLP E ax bx gx lt mo ad ln PL pf pw pk lw lk ik cw mw))) (vp_Si post) 0 0 (fun _ => False) := by
  refine Met.ofW (cc := cL_isOnLine) (maxL := 7) (ret := (some .boolean)) (by decide) rfl ?_
  intro p e s m args below meth c s₁ B hml hv
  obtain ⟨rfl, hpre⟩ := hv
  have hx := B.exec
  have hb := B.bytes
  have hr := B.returns
  have hlocks := B.notSynchronized
  have hts := atoms_spec (ws := (Cond.code yL_isOnLine cL_isOnLine 7 (some .boolean) :: ALLW)) B.pre
  have hta : ∀ w ∈ ALLW, w.before ([.ref (ax 0), .ref (bx 0), .ref (bx 1)] : List Value).toArray s = true := fun w h => hts w (List.mem_cons_of_mem _ h)
  have hown : s.vm.findClass RL = some m.cls := findClass_of_methodNamed B.named
  obtain ⟨hP, hKE⟩ := hpre
  have hP : va_P (eD E) vwCl ([((ax 0), .inr (3, [.ref (ax 1), .ref (ax 2), .ref (ax 4), .ref (ax 6), .int (gx 4), .int (gx 5), .int (gx 6), .int (gx 7), va_rf lt, .int (gx 9), .int (gx 10), .int (gx 11), .int (gx 12), .int (gx 13), .int (gx 14), .int (gx 15), .int (gx 16), .int (gx 17), .int (gx 18)])), ((ax 1), .inr (0, [.int mo, .ref ad, .int ln])), ((ax 2), .inr (2, [.ref (ax 3), .int pk])), ((ax 3), .inl (eC E 1, 157, .inr (.inl pw))), ((ax 4), .inr (2, [.ref (ax 5), .int lk])), ((ax 5), .inl (eC E 1, 157, .inr (.inl lw))), ((ax 6), .inl (eC E 0, 3, .inl ik)), ((bx 0), .inl (eC E 0, 64, .inl cw)), ((bx 1), .inl (eC E 0, 8, .inl mw))] ++ va_pl PL pf) s.heap := hP
  have hl := lv_entry ([.ref (ax 0), .ref (bx 0), .ref (bx 1)]) (n := 7) (Nat.le_of_ble_eq_true rfl)
  rw [lg_entry_eq]
  generalize (lg_sl ([.ref (ax 0), .ref (bx 0), .ref (bx 1)]) ++ List.replicate (7 - (lg_sl ([.ref (ax 0), .ref (bx 0), .ref (bx 1)])).length) Slot.unset).toArray = ls at hl ⊢
  have hl : lv_has ls 7 [(0, .ref (ax 0)), (1, .ref (bx 0)), (2, .ref (bx 1))] := hl
  have loop_167 : ∀ (n : Nat) (x4 : Int32) (x5 : Int32) (x6 : Int32), wp_L_isOnLine_L167 E post gx lt mo ad ln PL pf pw pk lw lk ik cw mw n x4 x5 x6 → ∀ (ls : Array Slot), lv_has ls 7 [(0, .ref (ax 0)), (1, .ref (bx 0)), (2, .ref (bx 1)), (4, .int x4), (5, .int x5), (6, .int x6)] → W p l e (headSpec (Cond.code yL_isOnLine cL_isOnLine 7 (some .boolean) :: ALLW) ({ frames := 6, cells := 0, slots := 0, locals := 125 } : Room)).room s m ([.ref (ax 0), .ref (bx 0), .ref (bx 1)] : List Value).toArray below meth c s.heap [] 0 0 (MQ below (vp_Si post) ([.ref (ax 0), .ref (bx 0), .ref (bx 1)] : List Value).toArray s 0 0 (fun _ => False)) (F0 m 167 ls []) := by
    intro n
    induction n with
    | zero => intro x4 x5 x6 hw; exact hw.elim
    | succ n ih =>
      intro x4 x5 x6 hw ls hl
      unfold wp_L_isOnLine_L167 at hw
      refine lv_iload hx hb dL_isOnLine_167 (lv_at hl 3 rfl) ?_
      refine lv_if_lt (tgt := 262) hx hb dL_isOnLine_169 (by decide) (fun c_908 => ?_) (fun c_908 => ?_)
      · have hw := hw.1 c_908
        exact hw.elim
      · have hw := hw.2 c_908
        refine lv_iload hx hb dL_isOnLine_172 (lv_at hl 3 rfl) ?_
        refine lv_iload hx hb dL_isOnLine_174 (lv_at hl 4 rfl) ?_
        refine lv_if_eq (tgt := 183) hx hb dL_isOnLine_176 (by decide) (fun c_909 => ?_) (fun c_909 => ?_)
        · have hw := hw.1 c_909
          refine lv_aload_n hx hb dL_isOnLine_183 rfl (lv_at hl 1 rfl) ?_
          refine lv_iconst (v := 0) hx hb dL_isOnLine_184 (by decide) ?_
          refine va_iald hx hb hKE.1 hP 7 0 rfl rfl (show vp_in 0 64 from by unfold vp_in; decide) dL_isOnLine_185 ?_
          refine lv_iconst (v := 3) hx hb dL_isOnLine_186 (by decide) ?_
          refine lv_icmp_ne (tgt := 194) hx hb dL_isOnLine_187 (by decide) (fun c_910 => ?_) (fun c_910 => ?_)
          · have hw := hw.2 c_910
            refine lv_iconst (v := 0) hx hb dL_isOnLine_194 (by decide) ?_
            refine lv_icmp_gt (tgt := 262) hx hb dL_isOnLine_195 (by decide) (fun c_911 => ?_) (fun c_911 => ?_)
            · have hw := hw.1 c_911
              exact hw.elim
            · have hw := hw.2 c_911
              refine lv_aload_n hx hb dL_isOnLine_198 rfl (lv_at hl 0 rfl) ?_
              have hPc : va_P (eD E) vwCl (wX E ax gx lt mo ad ln PL pf pw pk lw lk ik) s.heap := hP.part [0, 1, 2, 3, 4, 5, 6] rfl
              refine vp_callSi (va_Run.run (va_runV (As := []) (rest := []) ⟨hx, hb, hml, hown, hta⟩ (c_X2_at E l ax gx lt mo ad ln PL pf pw pk lw lk ik _ hw) (pcV (n := 0) hta tw_522 tw_519 tw_1 tw_520 tw_521 rfl rfl hd_X2_at ⟨Nat.le_of_ble_eq_true rfl, Nat.le_of_ble_eq_true rfl⟩) ⟨fbR, va_recv hKE.1 hP (ci := 3) (q0 := 0) rfl rfl, fun U hU hW => ⟨rfl, preR.mk hPc hKE hU hW⟩⟩ rfl rfl hl.1 rfl (lv_room (Nat.le_of_ble_eq_true rfl)) dL_isOnLine_199 ⟨Nat.le_of_ble_eq_true rfl, Nat.le_of_ble_eq_true rfl⟩)) (fun r_912 hw => ?_)
              refine lv_aload_n hx hb dL_isOnLine_202 rfl (lv_at hl 1 rfl) ?_
              refine lv_iconst (v := 0) hx hb dL_isOnLine_203 (by decide) ?_
              refine va_iald hx hb hKE.1 hP 7 0 rfl rfl (show vp_in 0 64 from by unfold vp_in; decide) dL_isOnLine_204 ?_
              refine lv_iconst (v := 3) hx hb dL_isOnLine_205 (by decide) ?_
              refine lv_icmp_ne (tgt := 215) hx hb dL_isOnLine_206 (by decide) (fun _ => ?_) (fun c9 => absurd c9 c_910)
              refine lv_aload_n hx hb dL_isOnLine_215 rfl (lv_at hl 1 rfl) ?_
              refine lv_aload_n hx hb dL_isOnLine_216 rfl (lv_at hl 2 rfl) ?_
              refine lv_bipush (v := 7) hx hb dL_isOnLine_217 (by decide) ?_
              refine va_iald hx hb hKE.1 hP 8 0 rfl rfl (show vp_in 7 8 from by unfold vp_in; decide) dL_isOnLine_219 ?_
              have hPc : va_P (eD E) vwCl (wCM E bx cw mw) s.heap := hP.sub [7, 8] rfl
              refine vp_callSi (va_Run.run (va_runS (As := [.ref (bx 0), .int (mw (7 : Int32).toNatClampNeg)]) (rest := [.int r_912]) ⟨hx, hb, hml, hown, hta⟩ (c_L_cell E l bx cw mw (mw (7 : Int32).toNatClampNeg) _ hw) (pcS (n := 2) hta tw_539 tw_537 tw_0 tw_538 rfl rfl hd_L_cell ⟨Nat.le_of_ble_eq_true rfl, Nat.le_of_ble_eq_true rfl⟩) ⟨fbR, fun U hU hW => ⟨rfl, preR.mk hPc hKE hU hW⟩⟩ rfl rfl hl.1 rfl (lv_room (Nat.le_of_ble_eq_true rfl)) dL_isOnLine_220 ⟨Nat.le_of_ble_eq_true rfl, Nat.le_of_ble_eq_true rfl⟩)) (fun r_913 hw => ?_)
              refine lv_icmp_ne (tgt := 262) hx hb dL_isOnLine_223 (by decide) (fun c_914 => ?_) (fun c_914 => ?_)
              · have hw := hw.2 c_914
                exact hw.elim
              · have hw := hw.1 c_914
                refine lv_aload_n hx hb dL_isOnLine_226 rfl (lv_at hl 1 rfl) ?_
                refine lv_iconst (v := 0) hx hb dL_isOnLine_227 (by decide) ?_
                refine va_iald hx hb hKE.1 hP 7 0 rfl rfl (show vp_in 0 64 from by unfold vp_in; decide) dL_isOnLine_228 ?_
                refine lv_iconst (v := 3) hx hb dL_isOnLine_229 (by decide) ?_
                refine lv_icmp_eq (tgt := 249) hx hb dL_isOnLine_230 (by decide) (fun c9 => absurd c9 c_910) (fun _ => ?_)
                refine lv_aload_n hx hb dL_isOnLine_233 rfl (lv_at hl 2 rfl) ?_
                refine lv_bipush (v := 7) hx hb dL_isOnLine_234 (by decide) ?_
                refine va_iald hx hb hKE.1 hP 8 0 rfl rfl (show vp_in 7 8 from by unfold vp_in; decide) dL_isOnLine_236 ?_
                refine lv_aload_n hx hb dL_isOnLine_237 rfl (lv_at hl 1 rfl) ?_
                refine lv_iconst (v := 1) hx hb dL_isOnLine_238 (by decide) ?_
                refine va_iald hx hb hKE.1 hP 7 0 rfl rfl (show vp_in 1 64 from by unfold vp_in; decide) dL_isOnLine_239 ?_
                refine lv_aload_n hx hb dL_isOnLine_240 rfl (lv_at hl 1 rfl) ?_
                refine lv_iconst (v := 2) hx hb dL_isOnLine_241 (by decide) ?_
                refine va_iald hx hb hKE.1 hP 7 0 rfl rfl (show vp_in 2 64 from by unfold vp_in; decide) dL_isOnLine_242 ?_
                have hPc : va_P (eD E) vwCl [] s.heap := va_P_nil
                refine vp_callSi (va_Run.run (va_runS (As := [.int (cw (1 : Int32).toNatClampNeg), .int (cw (2 : Int32).toNatClampNeg)]) (rest := [.int (mw (7 : Int32).toNatClampNeg)]) ⟨hx, hb, hml, hown, hta⟩ (c_L_size E l (cw (1 : Int32).toNatClampNeg) (cw (2 : Int32).toNatClampNeg) _ hw) (pcS (n := 2) hta tw_536 tw_534 tw_0 tw_535 rfl rfl hd_L_size ⟨Nat.le_of_ble_eq_true rfl, Nat.le_of_ble_eq_true rfl⟩) ⟨fbR, fun U hU hW => ⟨rfl, preR.mk hPc hKE hU hW⟩⟩ rfl rfl hl.1 rfl (lv_room (Nat.le_of_ble_eq_true rfl)) dL_isOnLine_243 ⟨Nat.le_of_ble_eq_true rfl, Nat.le_of_ble_eq_true rfl⟩)) (fun r_915 hw => ?_)
                refine lv_icmp_ge (tgt := 262) hx hb dL_isOnLine_246 (by decide) (fun c_916 => ?_) (fun c_916 => ?_)
                · have hw := hw.1 c_916
                  exact hw.elim
                · have hw := hw.2 c_916
                  refine lv_aload_n hx hb dL_isOnLine_249 rfl (lv_at hl 0 rfl) ?_
                  have hPc : va_P (eD E) vwCl (wX E ax gx lt mo ad ln PL pf pw pk lw lk ik) s.heap := hP.part [0, 1, 2, 3, 4, 5, 6] rfl
                  refine vp_callSi (va_Run.run (va_runV (As := []) (rest := []) ⟨hx, hb, hml, hown, hta⟩ (c_X2_isWaiting E l ax gx lt mo ad ln PL pf pw pk lw lk ik _ hw) (pcV (n := 0) hta tw_526 tw_523 tw_1 tw_524 tw_525 rfl rfl hd_X2_isWaiting ⟨Nat.le_of_ble_eq_true rfl, Nat.le_of_ble_eq_true rfl⟩) ⟨fbR, va_recv hKE.1 hP (ci := 3) (q0 := 0) rfl rfl, fun U hU hW => ⟨rfl, preR.mk hPc hKE hU hW⟩⟩ rfl rfl hl.1 rfl (lv_room (Nat.le_of_ble_eq_true rfl)) dL_isOnLine_250 ⟨Nat.le_of_ble_eq_true rfl, Nat.le_of_ble_eq_true rfl⟩)) (fun r_917 hw => ?_)
                  refine lv_iload hx hb dL_isOnLine_253 (lv_at hl 5 rfl) ?_
                  refine lv_icmp_ne (tgt := 262) hx hb dL_isOnLine_255 (by decide) (fun c_918 => ?_) (fun c_918 => ?_)
                  · have hw := hw.2 c_918
                    exact hw.elim
                  · have hw := hw.1 c_918
                    refine lv_iconst (v := 1) hx hb dL_isOnLine_258 (by decide) ?_
                    refine lv_goto (tgt := 263) hx hb dL_isOnLine_259 (by decide) ?_
                    exact W.zret (v := 1) hx hb hr rfl (fun t ht hW => ⟨1, rfl, hw, ht⟩) (fun q hq => nomatch hq) dL_isOnLine_263
          · have hw := hw.1 c_910
            refine lv_iconst (v := 2) hx hb dL_isOnLine_190 (by decide) ?_
            refine lv_goto (tgt := 195) hx hb dL_isOnLine_191 (by decide) ?_
            refine lv_icmp_gt (tgt := 262) hx hb dL_isOnLine_195 (by decide) (fun c_919 => ?_) (fun c_919 => ?_)
            · have hw := hw.1 c_919
              exact hw.elim
            · have hw := hw.2 c_919
              refine lv_aload_n hx hb dL_isOnLine_198 rfl (lv_at hl 0 rfl) ?_
              have hPc : va_P (eD E) vwCl (wX E ax gx lt mo ad ln PL pf pw pk lw lk ik) s.heap := hP.part [0, 1, 2, 3, 4, 5, 6] rfl
              refine vp_callSi (va_Run.run (va_runV (As := []) (rest := []) ⟨hx, hb, hml, hown, hta⟩ (c_X2_at E l ax gx lt mo ad ln PL pf pw pk lw lk ik _ hw) (pcV (n := 0) hta tw_522 tw_519 tw_1 tw_520 tw_521 rfl rfl hd_X2_at ⟨Nat.le_of_ble_eq_true rfl, Nat.le_of_ble_eq_true rfl⟩) ⟨fbR, va_recv hKE.1 hP (ci := 3) (q0 := 0) rfl rfl, fun U hU hW => ⟨rfl, preR.mk hPc hKE hU hW⟩⟩ rfl rfl hl.1 rfl (lv_room (Nat.le_of_ble_eq_true rfl)) dL_isOnLine_199 ⟨Nat.le_of_ble_eq_true rfl, Nat.le_of_ble_eq_true rfl⟩)) (fun r_920 hw => ?_)
              refine lv_aload_n hx hb dL_isOnLine_202 rfl (lv_at hl 1 rfl) ?_
              refine lv_iconst (v := 0) hx hb dL_isOnLine_203 (by decide) ?_
              refine va_iald hx hb hKE.1 hP 7 0 rfl rfl (show vp_in 0 64 from by unfold vp_in; decide) dL_isOnLine_204 ?_
              refine lv_iconst (v := 3) hx hb dL_isOnLine_205 (by decide) ?_
              refine lv_icmp_ne (tgt := 215) hx hb dL_isOnLine_206 (by decide) (fun c9 => absurd c_910 c9) (fun _ => ?_)
              refine lv_aload_n hx hb dL_isOnLine_209 rfl (lv_at hl 1 rfl) ?_
              refine lv_iconst (v := 3) hx hb dL_isOnLine_210 (by decide) ?_
              refine va_iald hx hb hKE.1 hP 7 0 rfl rfl (show vp_in 3 64 from by unfold vp_in; decide) dL_isOnLine_211 ?_
              refine lv_goto (tgt := 223) hx hb dL_isOnLine_212 (by decide) ?_
              refine lv_icmp_ne (tgt := 262) hx hb dL_isOnLine_223 (by decide) (fun c_921 => ?_) (fun c_921 => ?_)
              · have hw := hw.2 c_921
                exact hw.elim
              · have hw := hw.1 c_921
                refine lv_aload_n hx hb dL_isOnLine_226 rfl (lv_at hl 1 rfl) ?_
                refine lv_iconst (v := 0) hx hb dL_isOnLine_227 (by decide) ?_
                refine va_iald hx hb hKE.1 hP 7 0 rfl rfl (show vp_in 0 64 from by unfold vp_in; decide) dL_isOnLine_228 ?_
                refine lv_iconst (v := 3) hx hb dL_isOnLine_229 (by decide) ?_
                refine lv_icmp_eq (tgt := 249) hx hb dL_isOnLine_230 (by decide) (fun _ => ?_) (fun c9 => absurd c_910 c9)
                refine lv_aload_n hx hb dL_isOnLine_249 rfl (lv_at hl 0 rfl) ?_
                have hPc : va_P (eD E) vwCl (wX E ax gx lt mo ad ln PL pf pw pk lw lk ik) s.heap := hP.part [0, 1, 2, 3, 4, 5, 6] rfl
                refine vp_callSi (va_Run.run (va_runV (As := []) (rest := []) ⟨hx, hb, hml, hown, hta⟩ (c_X2_isWaiting E l ax gx lt mo ad ln PL pf pw pk lw lk ik _ hw) (pcV (n := 0) hta tw_526 tw_523 tw_1 tw_524 tw_525 rfl rfl hd_X2_isWaiting ⟨Nat.le_of_ble_eq_true rfl, Nat.le_of_ble_eq_true rfl⟩) ⟨fbR, va_recv hKE.1 hP (ci := 3) (q0 := 0) rfl rfl, fun U hU hW => ⟨rfl, preR.mk hPc hKE hU hW⟩⟩ rfl rfl hl.1 rfl (lv_room (Nat.le_of_ble_eq_true rfl)) dL_isOnLine_250 ⟨Nat.le_of_ble_eq_true rfl, Nat.le_of_ble_eq_true rfl⟩)) (fun r_922 hw => ?_)
                refine lv_iload hx hb dL_isOnLine_253 (lv_at hl 5 rfl) ?_
                refine lv_icmp_ne (tgt := 262) hx hb dL_isOnLine_255 (by decide) (fun c_923 => ?_) (fun c_923 => ?_)
                · have hw := hw.2 c_923
                  exact hw.elim
                · have hw := hw.1 c_923
                  refine lv_iconst (v := 1) hx hb dL_isOnLine_258 (by decide) ?_
                  refine lv_goto (tgt := 263) hx hb dL_isOnLine_259 (by decide) ?_
                  exact W.zret (v := 1) hx hb hr rfl (fun t ht hW => ⟨1, rfl, hw, ht⟩) (fun q hq => nomatch hq) dL_isOnLine_263
        · have hw := hw.2 c_909
          refine lv_iconst (v := 1) hx hb dL_isOnLine_179 (by decide) ?_
          refine lv_goto (tgt := 195) hx hb dL_isOnLine_180 (by decide) ?_
          refine lv_icmp_gt (tgt := 262) hx hb dL_isOnLine_195 (by decide) (fun c_924 => ?_) (fun c_924 => ?_)
          · have hw := hw.1 c_924
            exact hw.elim
          · have hw := hw.2 c_924
            refine lv_aload_n hx hb dL_isOnLine_198 rfl (lv_at hl 0 rfl) ?_
            have hPc : va_P (eD E) vwCl (wX E ax gx lt mo ad ln PL pf pw pk lw lk ik) s.heap := hP.part [0, 1, 2, 3, 4, 5, 6] rfl
            refine vp_callSi (va_Run.run (va_runV (As := []) (rest := []) ⟨hx, hb, hml, hown, hta⟩ (c_X2_at E l ax gx lt mo ad ln PL pf pw pk lw lk ik _ hw) (pcV (n := 0) hta tw_522 tw_519 tw_1 tw_520 tw_521 rfl rfl hd_X2_at ⟨Nat.le_of_ble_eq_true rfl, Nat.le_of_ble_eq_true rfl⟩) ⟨fbR, va_recv hKE.1 hP (ci := 3) (q0 := 0) rfl rfl, fun U hU hW => ⟨rfl, preR.mk hPc hKE hU hW⟩⟩ rfl rfl hl.1 rfl (lv_room (Nat.le_of_ble_eq_true rfl)) dL_isOnLine_199 ⟨Nat.le_of_ble_eq_true rfl, Nat.le_of_ble_eq_true rfl⟩)) (fun r_925 hw => ?_)
            refine lv_aload_n hx hb dL_isOnLine_202 rfl (lv_at hl 1 rfl) ?_
            refine lv_iconst (v := 0) hx hb dL_isOnLine_203 (by decide) ?_
            refine va_iald hx hb hKE.1 hP 7 0 rfl rfl (show vp_in 0 64 from by unfold vp_in; decide) dL_isOnLine_204 ?_
            refine lv_iconst (v := 3) hx hb dL_isOnLine_205 (by decide) ?_
            refine lv_icmp_ne (tgt := 215) hx hb dL_isOnLine_206 (by decide) (fun c_926 => ?_) (fun c_926 => ?_)
            · have hw := hw.2 c_926
              refine lv_aload_n hx hb dL_isOnLine_215 rfl (lv_at hl 1 rfl) ?_
              refine lv_aload_n hx hb dL_isOnLine_216 rfl (lv_at hl 2 rfl) ?_
              refine lv_bipush (v := 7) hx hb dL_isOnLine_217 (by decide) ?_
              refine va_iald hx hb hKE.1 hP 8 0 rfl rfl (show vp_in 7 8 from by unfold vp_in; decide) dL_isOnLine_219 ?_
              have hPc : va_P (eD E) vwCl (wCM E bx cw mw) s.heap := hP.sub [7, 8] rfl
              refine vp_callSi (va_Run.run (va_runS (As := [.ref (bx 0), .int (mw (7 : Int32).toNatClampNeg)]) (rest := [.int r_925]) ⟨hx, hb, hml, hown, hta⟩ (c_L_cell E l bx cw mw (mw (7 : Int32).toNatClampNeg) _ hw) (pcS (n := 2) hta tw_539 tw_537 tw_0 tw_538 rfl rfl hd_L_cell ⟨Nat.le_of_ble_eq_true rfl, Nat.le_of_ble_eq_true rfl⟩) ⟨fbR, fun U hU hW => ⟨rfl, preR.mk hPc hKE hU hW⟩⟩ rfl rfl hl.1 rfl (lv_room (Nat.le_of_ble_eq_true rfl)) dL_isOnLine_220 ⟨Nat.le_of_ble_eq_true rfl, Nat.le_of_ble_eq_true rfl⟩)) (fun r_927 hw => ?_)
              refine lv_icmp_ne (tgt := 262) hx hb dL_isOnLine_223 (by decide) (fun c_928 => ?_) (fun c_928 => ?_)
              · have hw := hw.2 c_928
                exact hw.elim
              · have hw := hw.1 c_928
                refine lv_aload_n hx hb dL_isOnLine_226 rfl (lv_at hl 1 rfl) ?_
                refine lv_iconst (v := 0) hx hb dL_isOnLine_227 (by decide) ?_
                refine va_iald hx hb hKE.1 hP 7 0 rfl rfl (show vp_in 0 64 from by unfold vp_in; decide) dL_isOnLine_228 ?_
                refine lv_iconst (v := 3) hx hb dL_isOnLine_229 (by decide) ?_
                refine lv_icmp_eq (tgt := 249) hx hb dL_isOnLine_230 (by decide) (fun c9 => absurd c9 c_926) (fun _ => ?_)
                refine lv_aload_n hx hb dL_isOnLine_233 rfl (lv_at hl 2 rfl) ?_
                refine lv_bipush (v := 7) hx hb dL_isOnLine_234 (by decide) ?_
                refine va_iald hx hb hKE.1 hP 8 0 rfl rfl (show vp_in 7 8 from by unfold vp_in; decide) dL_isOnLine_236 ?_
                refine lv_aload_n hx hb dL_isOnLine_237 rfl (lv_at hl 1 rfl) ?_
                refine lv_iconst (v := 1) hx hb dL_isOnLine_238 (by decide) ?_
                refine va_iald hx hb hKE.1 hP 7 0 rfl rfl (show vp_in 1 64 from by unfold vp_in; decide) dL_isOnLine_239 ?_
                refine lv_aload_n hx hb dL_isOnLine_240 rfl (lv_at hl 1 rfl) ?_
                refine lv_iconst (v := 2) hx hb dL_isOnLine_241 (by decide) ?_
                refine va_iald hx hb hKE.1 hP 7 0 rfl rfl (show vp_in 2 64 from by unfold vp_in; decide) dL_isOnLine_242 ?_
                have hPc : va_P (eD E) vwCl [] s.heap := va_P_nil
                refine vp_callSi (va_Run.run (va_runS (As := [.int (cw (1 : Int32).toNatClampNeg), .int (cw (2 : Int32).toNatClampNeg)]) (rest := [.int (mw (7 : Int32).toNatClampNeg)]) ⟨hx, hb, hml, hown, hta⟩ (c_L_size E l (cw (1 : Int32).toNatClampNeg) (cw (2 : Int32).toNatClampNeg) _ hw) (pcS (n := 2) hta tw_536 tw_534 tw_0 tw_535 rfl rfl hd_L_size ⟨Nat.le_of_ble_eq_true rfl, Nat.le_of_ble_eq_true rfl⟩) ⟨fbR, fun U hU hW => ⟨rfl, preR.mk hPc hKE hU hW⟩⟩ rfl rfl hl.1 rfl (lv_room (Nat.le_of_ble_eq_true rfl)) dL_isOnLine_243 ⟨Nat.le_of_ble_eq_true rfl, Nat.le_of_ble_eq_true rfl⟩)) (fun r_929 hw => ?_)
                refine lv_icmp_ge (tgt := 262) hx hb dL_isOnLine_246 (by decide) (fun c_930 => ?_) (fun c_930 => ?_)
                · have hw := hw.1 c_930
                  exact hw.elim
                · have hw := hw.2 c_930
                  refine lv_aload_n hx hb dL_isOnLine_249 rfl (lv_at hl 0 rfl) ?_
                  have hPc : va_P (eD E) vwCl (wX E ax gx lt mo ad ln PL pf pw pk lw lk ik) s.heap := hP.part [0, 1, 2, 3, 4, 5, 6] rfl
                  refine vp_callSi (va_Run.run (va_runV (As := []) (rest := []) ⟨hx, hb, hml, hown, hta⟩ (c_X2_isWaiting E l ax gx lt mo ad ln PL pf pw pk lw lk ik _ hw) (pcV (n := 0) hta tw_526 tw_523 tw_1 tw_524 tw_525 rfl rfl hd_X2_isWaiting ⟨Nat.le_of_ble_eq_true rfl, Nat.le_of_ble_eq_true rfl⟩) ⟨fbR, va_recv hKE.1 hP (ci := 3) (q0 := 0) rfl rfl, fun U hU hW => ⟨rfl, preR.mk hPc hKE hU hW⟩⟩ rfl rfl hl.1 rfl (lv_room (Nat.le_of_ble_eq_true rfl)) dL_isOnLine_250 ⟨Nat.le_of_ble_eq_true rfl, Nat.le_of_ble_eq_true rfl⟩)) (fun r_931 hw => ?_)
                  refine lv_iload hx hb dL_isOnLine_253 (lv_at hl 5 rfl) ?_
                  refine lv_icmp_ne (tgt := 262) hx hb dL_isOnLine_255 (by decide) (fun c_932 => ?_) (fun c_932 => ?_)
                  · have hw := hw.2 c_932
                    exact hw.elim
                  · have hw := hw.1 c_932
                    refine lv_iconst (v := 1) hx hb dL_isOnLine_258 (by decide) ?_
                    refine lv_goto (tgt := 263) hx hb dL_isOnLine_259 (by decide) ?_
                    exact W.zret (v := 1) hx hb hr rfl (fun t ht hW => ⟨1, rfl, hw, ht⟩) (fun q hq => nomatch hq) dL_isOnLine_263
            · have hw := hw.1 c_926
              refine lv_aload_n hx hb dL_isOnLine_209 rfl (lv_at hl 1 rfl) ?_
              refine lv_iconst (v := 3) hx hb dL_isOnLine_210 (by decide) ?_
              refine va_iald hx hb hKE.1 hP 7 0 rfl rfl (show vp_in 3 64 from by unfold vp_in; decide) dL_isOnLine_211 ?_
              refine lv_goto (tgt := 223) hx hb dL_isOnLine_212 (by decide) ?_
              refine lv_icmp_ne (tgt := 262) hx hb dL_isOnLine_223 (by decide) (fun c_933 => ?_) (fun c_933 => ?_)
              · have hw := hw.2 c_933
                exact hw.elim
              · have hw := hw.1 c_933
                refine lv_aload_n hx hb dL_isOnLine_226 rfl (lv_at hl 1 rfl) ?_
                refine lv_iconst (v := 0) hx hb dL_isOnLine_227 (by decide) ?_
                refine va_iald hx hb hKE.1 hP 7 0 rfl rfl (show vp_in 0 64 from by unfold vp_in; decide) dL_isOnLine_228 ?_
                refine lv_iconst (v := 3) hx hb dL_isOnLine_229 (by decide) ?_
                refine lv_icmp_eq (tgt := 249) hx hb dL_isOnLine_230 (by decide) (fun _ => ?_) (fun c9 => absurd c_926 c9)
                refine lv_aload_n hx hb dL_isOnLine_249 rfl (lv_at hl 0 rfl) ?_
                have hPc : va_P (eD E) vwCl (wX E ax gx lt mo ad ln PL pf pw pk lw lk ik) s.heap := hP.part [0, 1, 2, 3, 4, 5, 6] rfl
                refine vp_callSi (va_Run.run (va_runV (As := []) (rest := []) ⟨hx, hb, hml, hown, hta⟩ (c_X2_isWaiting E l ax gx lt mo ad ln PL pf pw pk lw lk ik _ hw) (pcV (n := 0) hta tw_526 tw_523 tw_1 tw_524 tw_525 rfl rfl hd_X2_isWaiting ⟨Nat.le_of_ble_eq_true rfl, Nat.le_of_ble_eq_true rfl⟩) ⟨fbR, va_recv hKE.1 hP (ci := 3) (q0 := 0) rfl rfl, fun U hU hW => ⟨rfl, preR.mk hPc hKE hU hW⟩⟩ rfl rfl hl.1 rfl (lv_room (Nat.le_of_ble_eq_true rfl)) dL_isOnLine_250 ⟨Nat.le_of_ble_eq_true rfl, Nat.le_of_ble_eq_true rfl⟩)) (fun r_934 hw => ?_)
                refine lv_iload hx hb dL_isOnLine_253 (lv_at hl 5 rfl) ?_
                refine lv_icmp_ne (tgt := 262) hx hb dL_isOnLine_255 (by decide) (fun c_935 => ?_) (fun c_935 => ?_)
                · have hw := hw.2 c_935
                  exact hw.elim
                · have hw := hw.1 c_935
                  refine lv_iconst (v := 1) hx hb dL_isOnLine_258 (by decide) ?_
                  refine lv_goto (tgt := 263) hx hb dL_isOnLine_259 (by decide) ?_
                  exact W.zret (v := 1) hx hb hr rfl (fun t ht hW => ⟨1, rfl, hw, ht⟩) (fun q hq => nomatch hq) dL_isOnLine_263
  have loop_135 : ∀ (n : Nat) (x4 : Int32) (x5 : Int32), wp_L_isOnLine_L135 E post gx lt mo ad ln PL pf pw pk lw lk ik cw mw n x4 x5 → ∀ (ls : Array Slot), lv_has ls 7 [(0, .ref (ax 0)), (1, .ref (bx 0)), (2, .ref (bx 1)), (4, .int x4), (5, .int x5)] → W p l e (headSpec (Cond.code yL_isOnLine cL_isOnLine 7 (some .boolean) :: ALLW) ({ frames := 6, cells := 0, slots := 0, locals := 125 } : Room)).room s m ([.ref (ax 0), .ref (bx 0), .ref (bx 1)] : List Value).toArray below meth c s.heap [] 0 0 (MQ below (vp_Si post) ([.ref (ax 0), .ref (bx 0), .ref (bx 1)] : List Value).toArray s 0 0 (fun _ => False)) (F0 m 135 ls []) := by
    intro n
    induction n with
    | zero => intro x4 x5 hw; exact hw.elim
    | succ n ih =>
      intro x4 x5 hw ls hl
      unfold wp_L_isOnLine_L135 at hw
      refine lv_aload_n hx hb dL_isOnLine_135 rfl (lv_at hl 1 rfl) ?_
      refine lv_iconst (v := 0) hx hb dL_isOnLine_136 (by decide) ?_
      refine va_iald hx hb hKE.1 hP 7 0 rfl rfl (show vp_in 0 64 from by unfold vp_in; decide) dL_isOnLine_137 ?_
      refine lv_iconst (v := 2) hx hb dL_isOnLine_138 (by decide) ?_
      refine lv_icmp_ne (tgt := 164) hx hb dL_isOnLine_139 (by decide) (fun c_907 => ?_) (fun c_907 => ?_)
      · have hw := hw.2 c_907
        refine lv_iconst (v := 0) hx hb dL_isOnLine_164 (by decide) ?_
        refine lv_istore (lv' := [(6, .int 0), (0, .ref (ax 0)), (1, .ref (bx 0)), (2, .ref (bx 1)), (4, .int x4), (5, .int x5)]) hx hb dL_isOnLine_165 hl (by decide) rfl (fun ls hl => ?_)
        obtain ⟨n_936, hw⟩ := hw
        exact loop_167 n_936 x4 x5 0 hw ls (lv_sub hl [1, 2, 3, 4, 5, 0] rfl)
      · have hw := hw.1 c_907
        refine lv_aload_n hx hb dL_isOnLine_142 rfl (lv_at hl 0 rfl) ?_
        have hPc : va_P (eD E) vwCl (wX E ax gx lt mo ad ln PL pf pw pk lw lk ik) s.heap := hP.part [0, 1, 2, 3, 4, 5, 6] rfl
        refine vp_callSi (va_Run.run (va_runV (As := []) (rest := []) ⟨hx, hb, hml, hown, hta⟩ (c_X2_isDown E l ax gx lt mo ad ln PL pf pw pk lw lk ik _ hw) (pcV (n := 0) hta tw_533 tw_530 tw_1 tw_531 tw_532 rfl rfl hd_X2_isDown ⟨Nat.le_of_ble_eq_true rfl, Nat.le_of_ble_eq_true rfl⟩) ⟨fbR, va_recv hKE.1 hP (ci := 3) (q0 := 0) rfl rfl, fun U hU hW => ⟨rfl, preR.mk hPc hKE hU hW⟩⟩ rfl rfl hl.1 rfl (lv_room (Nat.le_of_ble_eq_true rfl)) dL_isOnLine_143 ⟨Nat.le_of_ble_eq_true rfl, Nat.le_of_ble_eq_true rfl⟩)) (fun r_937 hw => ?_)
        refine lv_if_eq (tgt := 164) hx hb dL_isOnLine_146 (by decide) (fun c_938 => ?_) (fun c_938 => ?_)
        · have hw := hw.1 c_938
          refine lv_iconst (v := 0) hx hb dL_isOnLine_164 (by decide) ?_
          refine lv_istore (lv' := [(6, .int 0), (0, .ref (ax 0)), (1, .ref (bx 0)), (2, .ref (bx 1)), (4, .int x4), (5, .int x5)]) hx hb dL_isOnLine_165 hl (by decide) rfl (fun ls hl => ?_)
          obtain ⟨n_939, hw⟩ := hw
          exact loop_167 n_939 x4 x5 0 hw ls (lv_sub hl [1, 2, 3, 4, 5, 0] rfl)
        · have hw := hw.2 c_938
          refine lv_aload_n hx hb dL_isOnLine_149 rfl (lv_at hl 0 rfl) ?_
          refine lv_aload_n hx hb dL_isOnLine_150 rfl (lv_at hl 0 rfl) ?_
          have hPc : va_P (eD E) vwCl (wX E ax gx lt mo ad ln PL pf pw pk lw lk ik) s.heap := hP.part [0, 1, 2, 3, 4, 5, 6] rfl
          refine vp_callSi (va_Run.run (va_runV (As := []) (rest := [.ref (ax 0)]) ⟨hx, hb, hml, hown, hta⟩ (c_X2_pen E l ax gx lt mo ad ln PL pf pw pk lw lk ik _ hw) (pcV (n := 0) hta tw_137 tw_134 tw_1 tw_135 tw_136 rfl rfl hd_X2_pen ⟨Nat.le_of_ble_eq_true rfl, Nat.le_of_ble_eq_true rfl⟩) ⟨fbR, va_recv hKE.1 hP (ci := 3) (q0 := 0) rfl rfl, fun U hU hW => ⟨rfl, preR.mk hPc hKE hU hW⟩⟩ rfl rfl hl.1 rfl (lv_room (Nat.le_of_ble_eq_true rfl)) dL_isOnLine_151 ⟨Nat.le_of_ble_eq_true rfl, Nat.le_of_ble_eq_true rfl⟩)) (fun r_940 hw => ?_)
          have hPc : va_P (eD E) vwCl (wX E ax gx lt mo ad ln PL pf pw pk lw lk ik) s.heap := hP.part [0, 1, 2, 3, 4, 5, 6] rfl
          refine vp_callSi (va_Run.run (va_runV (As := [.int r_940]) (rest := []) ⟨hx, hb, hml, hown, hta⟩ (c_X2_ink_r E l ax gx lt mo ad ln PL pf pw pk lw lk ik r_940 _ hw) (pcV (n := 1) hta tw_141 tw_138 tw_1 tw_139 tw_140 rfl rfl hd_X2_ink ⟨Nat.le_of_ble_eq_true rfl, Nat.le_of_ble_eq_true rfl⟩) ⟨fbR, va_recv hKE.1 hP (ci := 3) (q0 := 0) rfl rfl, fun U hU hW => ⟨rfl, preR.mk hPc hKE hU hW⟩⟩ rfl rfl hl.1 rfl (lv_room (Nat.le_of_ble_eq_true rfl)) dL_isOnLine_154 ⟨Nat.le_of_ble_eq_true rfl, Nat.le_of_ble_eq_true rfl⟩)) (fun r_941 hw => ?_)
          refine lv_if_ne (tgt := 164) hx hb dL_isOnLine_157 (by decide) (fun c_942 => ?_) (fun c_942 => ?_)
          · have hw := hw.2 c_942
            refine lv_iconst (v := 0) hx hb dL_isOnLine_164 (by decide) ?_
            refine lv_istore (lv' := [(6, .int 0), (0, .ref (ax 0)), (1, .ref (bx 0)), (2, .ref (bx 1)), (4, .int x4), (5, .int x5)]) hx hb dL_isOnLine_165 hl (by decide) rfl (fun ls hl => ?_)
            obtain ⟨n_943, hw⟩ := hw
            exact loop_167 n_943 x4 x5 0 hw ls (lv_sub hl [1, 2, 3, 4, 5, 0] rfl)
          · have hw := hw.1 c_942
            refine lv_iconst (v := 1) hx hb dL_isOnLine_160 (by decide) ?_
            refine lv_goto (tgt := 165) hx hb dL_isOnLine_161 (by decide) ?_
            refine lv_istore (lv' := [(6, .int 1), (0, .ref (ax 0)), (1, .ref (bx 0)), (2, .ref (bx 1)), (4, .int x4), (5, .int x5)]) hx hb dL_isOnLine_165 hl (by decide) rfl (fun ls hl => ?_)
            obtain ⟨n_944, hw⟩ := hw
            exact loop_167 n_944 x4 x5 1 hw ls (lv_sub hl [1, 2, 3, 4, 5, 0] rfl)
  unfold wp_L_isOnLine at hw
  refine lv_aload_n hx hb dL_isOnLine_0 rfl (lv_at hl 0 rfl) ?_
  have hPc : va_P (eD E) vwCl (wX E ax gx lt mo ad ln PL pf pw pk lw lk ik) s.heap := hP.part [0, 1, 2, 3, 4, 5, 6] rfl
  refine vp_callSi (va_Run.run (va_runV (As := []) (rest := []) ⟨hx, hb, hml, hown, hta⟩ (c_X2_queued E l ax gx lt mo ad ln PL pf pw pk lw lk ik _ hw) (pcV (n := 0) hta tw_510 tw_507 tw_1 tw_508 tw_509 rfl rfl hd_X2_queued ⟨Nat.le_of_ble_eq_true rfl, Nat.le_of_ble_eq_true rfl⟩) ⟨fbR, va_recv hKE.1 hP (ci := 3) (q0 := 0) rfl rfl, fun U hU hW => ⟨rfl, preR.mk hPc hKE hU hW⟩⟩ rfl rfl hl.1 rfl (lv_room (Nat.le_of_ble_eq_true rfl)) dL_isOnLine_1 ⟨Nat.le_of_ble_eq_true rfl, Nat.le_of_ble_eq_true rfl⟩)) (fun r_887 hw => ?_)
  refine lv_aload_n hx hb dL_isOnLine_4 rfl (lv_at hl 2 rfl) ?_
  refine lv_iconst (v := 0) hx hb dL_isOnLine_5 (by decide) ?_
  refine va_iald hx hb hKE.1 hP 8 0 rfl rfl (show vp_in 0 8 from by unfold vp_in; decide) dL_isOnLine_6 ?_
  refine lv_icmp_ne (tgt := 24) hx hb dL_isOnLine_7 (by decide) (fun c_888 => ?_) (fun c_888 => ?_)
  · have hw := hw.2 c_888
    exact hw.elim
  · have hw := hw.1 c_888
    refine lv_aload_n hx hb dL_isOnLine_10 rfl (lv_at hl 0 rfl) ?_
    have hPc : va_P (eD E) vwCl (wX E ax gx lt mo ad ln PL pf pw pk lw lk ik) s.heap := hP.part [0, 1, 2, 3, 4, 5, 6] rfl
    refine vp_callSi (va_Run.run (va_runV (As := []) (rest := []) ⟨hx, hb, hml, hown, hta⟩ (c_X2_errors E l ax gx lt mo ad ln PL pf pw pk lw lk ik _ hw) (pcV (n := 0) hta tw_514 tw_511 tw_1 tw_512 tw_513 rfl rfl hd_X2_errors ⟨Nat.le_of_ble_eq_true rfl, Nat.le_of_ble_eq_true rfl⟩) ⟨fbR, va_recv hKE.1 hP (ci := 3) (q0 := 0) rfl rfl, fun U hU hW => ⟨rfl, preR.mk hPc hKE hU hW⟩⟩ rfl rfl hl.1 rfl (lv_room (Nat.le_of_ble_eq_true rfl)) dL_isOnLine_11 ⟨Nat.le_of_ble_eq_true rfl, Nat.le_of_ble_eq_true rfl⟩)) (fun r_889 hw => ?_)
    refine lv_aload_n hx hb dL_isOnLine_14 rfl (lv_at hl 2 rfl) ?_
    refine lv_iconst (v := 1) hx hb dL_isOnLine_15 (by decide) ?_
    refine va_iald hx hb hKE.1 hP 8 0 rfl rfl (show vp_in 1 8 from by unfold vp_in; decide) dL_isOnLine_16 ?_
    refine lv_icmp_ne (tgt := 24) hx hb dL_isOnLine_17 (by decide) (fun c_890 => ?_) (fun c_890 => ?_)
    · have hw := hw.2 c_890
      exact hw.elim
    · have hw := hw.1 c_890
      refine lv_iconst (v := 1) hx hb dL_isOnLine_20 (by decide) ?_
      refine lv_goto (tgt := 25) hx hb dL_isOnLine_21 (by decide) ?_
      refine lv_istore_n (lv' := [(3, .int 1), (0, .ref (ax 0)), (1, .ref (bx 0)), (2, .ref (bx 1))]) hx hb dL_isOnLine_25 rfl hl (by decide) rfl (fun ls hl => ?_)
      refine lv_aload_n hx hb dL_isOnLine_26 rfl (lv_at hl 3 rfl) ?_
      refine lv_iconst (v := 0) hx hb dL_isOnLine_27 (by decide) ?_
      refine va_iald hx hb hKE.1 hP 8 0 rfl rfl (show vp_in 0 8 from by unfold vp_in; decide) dL_isOnLine_28 ?_
      refine lv_if_eq (tgt := 36) hx hb dL_isOnLine_29 (by decide) (fun c_891 => ?_) (fun c_891 => ?_)
      · have hw := hw.1 c_891
        refine lv_iload_n hx hb dL_isOnLine_36 rfl (lv_at hl 0 rfl) ?_
        refine lv_if_eq (tgt := 94) hx hb dL_isOnLine_37 (by decide) (fun c9 => absurd c9 (by decide)) (fun _ => ?_)
        refine lv_aload_n hx hb dL_isOnLine_40 rfl (lv_at hl 3 rfl) ?_
        refine lv_bipush (v := 7) hx hb dL_isOnLine_41 (by decide) ?_
        refine va_iald hx hb hKE.1 hP 8 0 rfl rfl (show vp_in 7 8 from by unfold vp_in; decide) dL_isOnLine_43 ?_
        refine lv_if_ne (tgt := 94) hx hb dL_isOnLine_44 (by decide) (fun c_892 => ?_) (fun c_892 => ?_)
        · have hw := hw.2 c_892
          exact hw.elim
        · have hw := hw.1 c_892
          refine lv_aload_n hx hb dL_isOnLine_47 rfl (lv_at hl 1 rfl) ?_
          have hPc : va_P (eD E) vwCl (wX E ax gx lt mo ad ln PL pf pw pk lw lk ik) s.heap := hP.part [0, 1, 2, 3, 4, 5, 6] rfl
          refine vp_callSi (va_Run.run (va_runV (As := []) (rest := []) ⟨hx, hb, hml, hown, hta⟩ (c_X2_timeLeft E l ax gx lt mo ad ln PL pf pw pk lw lk ik _ hw) (pcV (n := 0) hta tw_518 tw_515 tw_1 tw_516 tw_517 rfl rfl hd_X2_timeLeft ⟨Nat.le_of_ble_eq_true rfl, Nat.le_of_ble_eq_true rfl⟩) ⟨fbR, va_recv hKE.1 hP (ci := 3) (q0 := 0) rfl rfl, fun U hU hW => ⟨rfl, preR.mk hPc hKE hU hW⟩⟩ rfl rfl hl.1 rfl (lv_room (Nat.le_of_ble_eq_true rfl)) dL_isOnLine_48 ⟨Nat.le_of_ble_eq_true rfl, Nat.le_of_ble_eq_true rfl⟩)) (fun r_893 hw => ?_)
          refine lv_if_ne (tgt := 94) hx hb dL_isOnLine_51 (by decide) (fun c_894 => ?_) (fun c_894 => ?_)
          · have hw := hw.2 c_894
            exact hw.elim
          · have hw := hw.1 c_894
            refine lv_aload_n hx hb dL_isOnLine_54 rfl (lv_at hl 1 rfl) ?_
            have hPc : va_P (eD E) vwCl (wX E ax gx lt mo ad ln PL pf pw pk lw lk ik) s.heap := hP.part [0, 1, 2, 3, 4, 5, 6] rfl
            refine vp_callSi (va_Run.run (va_runV (As := []) (rest := []) ⟨hx, hb, hml, hown, hta⟩ (c_X2_at E l ax gx lt mo ad ln PL pf pw pk lw lk ik _ hw) (pcV (n := 0) hta tw_522 tw_519 tw_1 tw_520 tw_521 rfl rfl hd_X2_at ⟨Nat.le_of_ble_eq_true rfl, Nat.le_of_ble_eq_true rfl⟩) ⟨fbR, va_recv hKE.1 hP (ci := 3) (q0 := 0) rfl rfl, fun U hU hW => ⟨rfl, preR.mk hPc hKE hU hW⟩⟩ rfl rfl hl.1 rfl (lv_room (Nat.le_of_ble_eq_true rfl)) dL_isOnLine_55 ⟨Nat.le_of_ble_eq_true rfl, Nat.le_of_ble_eq_true rfl⟩)) (fun r_895 hw => ?_)
            refine lv_bipush (v := 100) hx hb dL_isOnLine_58 (by decide) ?_
            refine lv_aload_n hx hb dL_isOnLine_60 rfl (lv_at hl 3 rfl) ?_
            refine lv_bipush (v := 6) hx hb dL_isOnLine_61 (by decide) ?_
            refine va_iald hx hb hKE.1 hP 8 0 rfl rfl (show vp_in 6 8 from by unfold vp_in; decide) dL_isOnLine_63 ?_
            refine lv_imul hx hb dL_isOnLine_64 ?_
            refine lv_aload_n hx hb dL_isOnLine_65 rfl (lv_at hl 3 rfl) ?_
            refine lv_iconst (v := 5) hx hb dL_isOnLine_66 (by decide) ?_
            refine va_iald hx hb hKE.1 hP 8 0 rfl rfl (show vp_in 5 8 from by unfold vp_in; decide) dL_isOnLine_67 ?_
            refine lv_iadd hx hb dL_isOnLine_68 ?_
            refine lv_icmp_ne (tgt := 94) hx hb dL_isOnLine_69 (by decide) (fun c_896 => ?_) (fun c_896 => ?_)
            · have hw := hw.2 c_896
              exact hw.elim
            · have hw := hw.1 c_896
              refine lv_aload_n hx hb dL_isOnLine_72 rfl (lv_at hl 1 rfl) ?_
              have hPc : va_P (eD E) vwCl (wX E ax gx lt mo ad ln PL pf pw pk lw lk ik) s.heap := hP.part [0, 1, 2, 3, 4, 5, 6] rfl
              refine vp_callSi (va_Run.run (va_runV (As := []) (rest := []) ⟨hx, hb, hml, hown, hta⟩ (c_X2_isWaiting E l ax gx lt mo ad ln PL pf pw pk lw lk ik _ hw) (pcV (n := 0) hta tw_526 tw_523 tw_1 tw_524 tw_525 rfl rfl hd_X2_isWaiting ⟨Nat.le_of_ble_eq_true rfl, Nat.le_of_ble_eq_true rfl⟩) ⟨fbR, va_recv hKE.1 hP (ci := 3) (q0 := 0) rfl rfl, fun U hU hW => ⟨rfl, preR.mk hPc hKE hU hW⟩⟩ rfl rfl hl.1 rfl (lv_room (Nat.le_of_ble_eq_true rfl)) dL_isOnLine_73 ⟨Nat.le_of_ble_eq_true rfl, Nat.le_of_ble_eq_true rfl⟩)) (fun r_897 hw => ?_)
              refine lv_if_ne (tgt := 94) hx hb dL_isOnLine_76 (by decide) (fun c_898 => ?_) (fun c_898 => ?_)
              · have hw := hw.2 c_898
                exact hw.elim
              · have hw := hw.1 c_898
                refine lv_aload_n hx hb dL_isOnLine_79 rfl (lv_at hl 1 rfl) ?_
                have hPc : va_P (eD E) vwCl (wX E ax gx lt mo ad ln PL pf pw pk lw lk ik) s.heap := hP.part [0, 1, 2, 3, 4, 5, 6] rfl
                refine vp_callSi (va_Run.run (va_runV (As := []) (rest := []) ⟨hx, hb, hml, hown, hta⟩ (c_X2_marks E l ax gx lt mo ad ln PL pf pw pk lw lk ik _ hw) (pcV (n := 0) hta tw_219 tw_216 tw_1 tw_217 tw_218 rfl rfl hd_X2_marks ⟨Nat.le_of_ble_eq_true rfl, Nat.le_of_ble_eq_true rfl⟩) ⟨fbR, va_recv hKE.1 hP (ci := 3) (q0 := 0) rfl rfl, fun U hU hW => ⟨rfl, preR.mk hPc hKE hU hW⟩⟩ rfl rfl hl.1 rfl (lv_room (Nat.le_of_ble_eq_true rfl)) dL_isOnLine_80 ⟨Nat.le_of_ble_eq_true rfl, Nat.le_of_ble_eq_true rfl⟩)) (fun r_899 hw => ?_)
                refine lv_aload_n hx hb dL_isOnLine_83 rfl (lv_at hl 1 rfl) ?_
                have hPc : va_P (eD E) vwCl (wX E ax gx lt mo ad ln PL pf pw pk lw lk ik) s.heap := hP.part [0, 1, 2, 3, 4, 5, 6] rfl
                refine vp_callSi (va_Run.run (va_runV (As := []) (rest := [.int r_899]) ⟨hx, hb, hml, hown, hta⟩ (c_X2_marksInTheEnd E l ax gx lt mo ad ln PL pf pw pk lw lk ik _ hw) (pcV (n := 0) hta tw_223 tw_220 tw_1 tw_221 tw_222 rfl rfl hd_X2_marksInTheEnd ⟨Nat.le_of_ble_eq_true rfl, Nat.le_of_ble_eq_true rfl⟩) ⟨fbR, va_recv hKE.1 hP (ci := 3) (q0 := 0) rfl rfl, fun U hU hW => ⟨rfl, preR.mk hPc hKE hU hW⟩⟩ rfl rfl hl.1 rfl (lv_room (Nat.le_of_ble_eq_true rfl)) dL_isOnLine_84 ⟨Nat.le_of_ble_eq_true rfl, Nat.le_of_ble_eq_true rfl⟩)) (fun r_900 hw => ?_)
                refine lv_icmp_ne (tgt := 94) hx hb dL_isOnLine_87 (by decide) (fun c_901 => ?_) (fun c_901 => ?_)
                · have hw := hw.2 c_901
                  exact hw.elim
                · have hw := hw.1 c_901
                  refine lv_iconst (v := 1) hx hb dL_isOnLine_90 (by decide) ?_
                  refine lv_goto (tgt := 95) hx hb dL_isOnLine_91 (by decide) ?_
                  exact W.zret (v := 1) hx hb hr rfl (fun t ht hW => ⟨1, rfl, hw, ht⟩) (fun q hq => nomatch hq) dL_isOnLine_95
      · have hw := hw.2 c_891
        refine lv_iload_n hx hb dL_isOnLine_32 rfl (lv_at hl 0 rfl) ?_
        refine lv_if_ne (tgt := 96) hx hb dL_isOnLine_33 (by decide) (fun _ => ?_) (fun c9 => absurd c9 (by decide))
        refine lv_aload_n hx hb dL_isOnLine_96 rfl (lv_at hl 1 rfl) ?_
        refine lv_aload_n hx hb dL_isOnLine_97 rfl (lv_at hl 2 rfl) ?_
        refine lv_aload_n hx hb dL_isOnLine_98 rfl (lv_at hl 3 rfl) ?_
        have hPc : va_P (eD E) vwCl (wLP E ax bx gx lt mo ad ln PL pf pw pk lw lk ik cw mw) s.heap := hP
        refine vp_callSi (va_Run.run (va_runS (As := [.ref (ax 0), .ref (bx 0), .ref (bx 1)]) (rest := []) ⟨hx, hb, hml, hown, hta⟩ (c_L_due E l ax bx gx lt mo ad ln PL pf pw pk lw lk ik cw mw _ hw) (pcS (n := 3) hta tw_529 tw_527 tw_0 tw_528 rfl rfl hd_L_due ⟨Nat.le_of_ble_eq_true rfl, Nat.le_of_ble_eq_true rfl⟩) ⟨fbR, fun U hU hW => ⟨rfl, preR.mk hPc hKE hU hW⟩⟩ rfl rfl hl.1 rfl (lv_room (Nat.le_of_ble_eq_true rfl)) dL_isOnLine_99 ⟨Nat.le_of_ble_eq_true rfl, Nat.le_of_ble_eq_true rfl⟩)) (fun r_902 hw => ?_)
        refine lv_aload_n hx hb dL_isOnLine_102 rfl (lv_at hl 1 rfl) ?_
        have hPc : va_P (eD E) vwCl (wX E ax gx lt mo ad ln PL pf pw pk lw lk ik) s.heap := hP.part [0, 1, 2, 3, 4, 5, 6] rfl
        refine vp_callSi (va_Run.run (va_runV (As := []) (rest := [.int r_902]) ⟨hx, hb, hml, hown, hta⟩ (c_X2_timeLeft E l ax gx lt mo ad ln PL pf pw pk lw lk ik _ hw) (pcV (n := 0) hta tw_518 tw_515 tw_1 tw_516 tw_517 rfl rfl hd_X2_timeLeft ⟨Nat.le_of_ble_eq_true rfl, Nat.le_of_ble_eq_true rfl⟩) ⟨fbR, va_recv hKE.1 hP (ci := 3) (q0 := 0) rfl rfl, fun U hU hW => ⟨rfl, preR.mk hPc hKE hU hW⟩⟩ rfl rfl hl.1 rfl (lv_room (Nat.le_of_ble_eq_true rfl)) dL_isOnLine_103 ⟨Nat.le_of_ble_eq_true rfl, Nat.le_of_ble_eq_true rfl⟩)) (fun r_903 hw => ?_)
        refine lv_isub hx hb dL_isOnLine_106 ?_
        refine lv_istore (lv' := [(4, .int (r_902 - r_903)), (3, .int 1), (0, .ref (ax 0)), (1, .ref (bx 0)), (2, .ref (bx 1))]) hx hb dL_isOnLine_107 hl (by decide) rfl (fun ls hl => ?_)
        refine lv_aload_n hx hb dL_isOnLine_109 rfl (lv_at hl 3 rfl) ?_
        refine lv_iconst (v := 0) hx hb dL_isOnLine_110 (by decide) ?_
        refine va_iald hx hb hKE.1 hP 7 0 rfl rfl (show vp_in 0 64 from by unfold vp_in; decide) dL_isOnLine_111 ?_
        refine lv_iconst (v := 2) hx hb dL_isOnLine_112 (by decide) ?_
        refine lv_icmp_ne (tgt := 120) hx hb dL_isOnLine_113 (by decide) (fun c_904 => ?_) (fun c_904 => ?_)
        · have hw := hw.2 c_904
          refine lv_iconst (v := 0) hx hb dL_isOnLine_120 (by decide) ?_
          refine lv_aload_n hx hb dL_isOnLine_121 rfl (lv_at hl 2 rfl) ?_
          have hPc : va_P (eD E) vwCl (wX E ax gx lt mo ad ln PL pf pw pk lw lk ik) s.heap := hP.part [0, 1, 2, 3, 4, 5, 6] rfl
          refine vp_callSi (va_Run.run (va_runV (As := []) (rest := [.int 0]) ⟨hx, hb, hml, hown, hta⟩ (c_X2_isDown E l ax gx lt mo ad ln PL pf pw pk lw lk ik _ hw) (pcV (n := 0) hta tw_533 tw_530 tw_1 tw_531 tw_532 rfl rfl hd_X2_isDown ⟨Nat.le_of_ble_eq_true rfl, Nat.le_of_ble_eq_true rfl⟩) ⟨fbR, va_recv hKE.1 hP (ci := 3) (q0 := 0) rfl rfl, fun U hU hW => ⟨rfl, preR.mk hPc hKE hU hW⟩⟩ rfl rfl hl.1 rfl (lv_room (Nat.le_of_ble_eq_true rfl)) dL_isOnLine_122 ⟨Nat.le_of_ble_eq_true rfl, Nat.le_of_ble_eq_true rfl⟩)) (fun r_905 hw => ?_)
          refine lv_icmp_eq (tgt := 132) hx hb dL_isOnLine_125 (by decide) (fun c_906 => ?_) (fun c_906 => ?_)
          · have hw := hw.1 c_906
            refine lv_iconst (v := 0) hx hb dL_isOnLine_132 (by decide) ?_
            refine lv_istore (lv' := [(5, .int 0), (4, .int (r_902 - r_903)), (3, .int 1), (0, .ref (ax 0)), (1, .ref (bx 0)), (2, .ref (bx 1))]) hx hb dL_isOnLine_133 hl (by decide) rfl (fun ls hl => ?_)
            obtain ⟨n_945, hw⟩ := hw
            exact loop_135 n_945 (r_902 - r_903) 0 hw ls (lv_sub hl [3, 4, 5, 1, 0] rfl)
          · have hw := hw.2 c_906
            refine lv_iconst (v := 1) hx hb dL_isOnLine_128 (by decide) ?_
            refine lv_goto (tgt := 133) hx hb dL_isOnLine_129 (by decide) ?_
            refine lv_istore (lv' := [(5, .int 1), (4, .int (r_902 - r_903)), (3, .int 1), (0, .ref (ax 0)), (1, .ref (bx 0)), (2, .ref (bx 1))]) hx hb dL_isOnLine_133 hl (by decide) rfl (fun ls hl => ?_)
            obtain ⟨n_946, hw⟩ := hw
            exact loop_135 n_946 (r_902 - r_903) 1 hw ls (lv_sub hl [3, 4, 5, 1, 0] rfl)
        · have hw := hw.1 c_904
          refine lv_iconst (v := 1) hx hb dL_isOnLine_116 (by decide) ?_
          refine lv_goto (tgt := 121) hx hb dL_isOnLine_117 (by decide) ?_
          refine lv_aload_n hx hb dL_isOnLine_121 rfl (lv_at hl 2 rfl) ?_
          have hPc : va_P (eD E) vwCl (wX E ax gx lt mo ad ln PL pf pw pk lw lk ik) s.heap := hP.part [0, 1, 2, 3, 4, 5, 6] rfl
          refine vp_callSi (va_Run.run (va_runV (As := []) (rest := [.int 1]) ⟨hx, hb, hml, hown, hta⟩ (c_X2_isDown E l ax gx lt mo ad ln PL pf pw pk lw lk ik _ hw) (pcV (n := 0) hta tw_533 tw_530 tw_1 tw_531 tw_532 rfl rfl hd_X2_isDown ⟨Nat.le_of_ble_eq_true rfl, Nat.le_of_ble_eq_true rfl⟩) ⟨fbR, va_recv hKE.1 hP (ci := 3) (q0 := 0) rfl rfl, fun U hU hW => ⟨rfl, preR.mk hPc hKE hU hW⟩⟩ rfl rfl hl.1 rfl (lv_room (Nat.le_of_ble_eq_true rfl)) dL_isOnLine_122 ⟨Nat.le_of_ble_eq_true rfl, Nat.le_of_ble_eq_true rfl⟩)) (fun r_947 hw => ?_)
          refine lv_icmp_eq (tgt := 132) hx hb dL_isOnLine_125 (by decide) (fun c_948 => ?_) (fun c_948 => ?_)
          · have hw := hw.1 c_948
            refine lv_iconst (v := 0) hx hb dL_isOnLine_132 (by decide) ?_
            refine lv_istore (lv' := [(5, .int 0), (4, .int (r_902 - r_903)), (3, .int 1), (0, .ref (ax 0)), (1, .ref (bx 0)), (2, .ref (bx 1))]) hx hb dL_isOnLine_133 hl (by decide) rfl (fun ls hl => ?_)
            obtain ⟨n_949, hw⟩ := hw
            exact loop_135 n_949 (r_902 - r_903) 0 hw ls (lv_sub hl [3, 4, 5, 1, 0] rfl)
          · have hw := hw.2 c_948
            refine lv_iconst (v := 1) hx hb dL_isOnLine_128 (by decide) ?_
            refine lv_goto (tgt := 133) hx hb dL_isOnLine_129 (by decide) ?_
            refine lv_istore (lv' := [(5, .int 1), (4, .int (r_902 - r_903)), (3, .int 1), (0, .ref (ax 0)), (1, .ref (bx 0)), (2, .ref (bx 1))]) hx hb dL_isOnLine_133 hl (by decide) rfl (fun ls hl => ?_)
            obtain ⟨n_950, hw⟩ := hw
            exact loop_135 n_950 (r_902 - r_903) 1 hw ls (lv_sub hl [3, 4, 5, 1, 0] rfl)
def wp_L_isCut (E : EV) (post : Int32 → (Nat → Int32) → Option Nat → Int32 → Nat → Int32 → List Nat → (Nat → va_E) → (Nat → Int64) → Int32 → (Nat → Int64) → Int32 → (Nat → Int32) → (Nat → Int32) → (Nat → Int32) → Prop) (gx : Nat → Int32) (lt : Option Nat) (mo : Int32) (ad : Nat) (ln : Int32) (PL : List Nat) (pf : Nat → va_E) (pw : Nat → Int64) (pk : Int32) (lw : Nat → Int64) (lk : Int32) (ik : Nat → Int32) (cw : Nat → Int32) (mw : Nat → Int32) : Prop := (wp_X2_stepsUp E (fun r_951 : Int32 => (wp_X2_stepsDown E (fun r_952 : Int32 => (wp_X2_marks E (fun r_953 : Int32 => (wp_X2_pen E (fun r_954 : Int32 => (wp_X2_cut E (fun (r_955 : Int32) (gx_956 : Nat → Int32) (lt_957 : Option Nat) (mo_958 : Int32) (ad_959 : Nat) (ln_960 : Int32) (PL_961 : List Nat) (pf_962 : Nat → va_E) (pw_963 : Nat → Int64) (pk_964 : Int32) (lw_965 : Nat → Int64) (lk_966 : Int32) (ik_967 : Nat → Int32) => ((r_955 = ((mw (7 : Int32).toNatClampNeg) - (mw (7 : Int32).toNatClampNeg) / 10 * 10) → (wp_X2_isDown E (fun r_969 : Int32 => ((r_969 = 0 → (wp_X2_pending E (fun r_971 : Int32 => ((r_971 = 0 → (wp_X2_stepsUp E (fun r_973 : Int32 => ((r_973 = r_951 → (wp_X2_stepsDown E (fun r_975 : Int32 => ((r_975 = r_952 → (wp_X2_marks E (fun r_977 : Int32 => ((r_977 = r_953 → (wp_X2_pen E (fun r_979 : Int32 => ((r_979 = r_954 → (wp_X2_timeLeft E (fun r_981 : Int32 => (wp_L_due E (fun r_982 : Int32 => ((r_981 = r_982 → (wp_X2_cut E (fun (r_984 : Int32) (gx_985 : Nat → Int32) (lt_986 : Option Nat) (mo_987 : Int32) (ad_988 : Nat) (ln_989 : Int32) (PL_990 : List Nat) (pf_991 : Nat → va_E) (pw_992 : Nat → Int64) (pk_993 : Int32) (lw_994 : Nat → Int64) (lk_995 : Int32) (ik_996 : Nat → Int32) => ((r_984 = 0 → post 1 gx_985 lt_986 mo_987 ad_988 ln_989 PL_990 pf_991 pw_992 pk_993 lw_994 lk_995 ik_996 cw (upd mw (7 : Int32).toNatClampNeg ((mw (7 : Int32).toNatClampNeg) - r_955))) ∧ (¬ (r_984 = 0) → False))) gx_956 lt_957 mo_958 ad_959 ln_960 PL_961 pf_962 pw_963 pk_964 lw_965 lk_966 ik_967)) ∧ (¬ (r_981 = r_982) → False))) gx_956 lt_957 mo_958 ad_959 ln_960 PL_961 pf_962 pw_963 pk_964 lw_965 lk_966 ik_967 cw (upd mw (7 : Int32).toNatClampNeg ((mw (7 : Int32).toNatClampNeg) - r_955)))) gx_956 lt_957 mo_958 ad_959 ln_960 PL_961 pf_962 pw_963 pk_964 lw_965 lk_966 ik_967)) ∧ (¬ (r_979 = r_954) → False))) gx_956 lt_957 mo_958 ad_959 ln_960 PL_961 pf_962 pw_963 pk_964 lw_965 lk_966 ik_967)) ∧ (¬ (r_977 = r_953) → False))) gx_956 lt_957 mo_958 ad_959 ln_960 PL_961 pf_962 pw_963 pk_964 lw_965 lk_966 ik_967)) ∧ (¬ (r_975 = r_952) → False))) gx_956 lt_957 mo_958 ad_959 ln_960 PL_961 pf_962 pw_963 pk_964 lw_965 lk_966 ik_967)) ∧ (¬ (r_973 = r_951) → False))) gx_956 lt_957 mo_958 ad_959 ln_960 PL_961 pf_962 pw_963 pk_964 lw_965 lk_966 ik_967)) ∧ (¬ (r_971 = 0) → False))) gx_956 lt_957 mo_958 ad_959 ln_960 PL_961 pf_962 pw_963 pk_964 lw_965 lk_966 ik_967)) ∧ (¬ (r_969 = 0) → False))) gx_956 lt_957 mo_958 ad_959 ln_960 PL_961 pf_962 pw_963 pk_964 lw_965 lk_966 ik_967)) ∧ (¬ (r_955 = ((mw (7 : Int32).toNatClampNeg) - (mw (7 : Int32).toNatClampNeg) / 10 * 10)) → False))) gx lt mo ad ln PL pf pw pk lw lk ik)) gx lt mo ad ln PL pf pw pk lw lk ik)) gx lt mo ad ln PL pf pw pk lw lk ik)) gx lt mo ad ln PL pf pw pk lw lk ik)) gx lt mo ad ln PL pf pw pk lw lk ik)
set_option maxHeartbeats 4000000 in
set_option maxRecDepth 100000 in
theorem c_L_isCut (E : EV) (l : Launch) (ax : Nat → Nat) (bx : Nat → Nat) (gx : Nat → Int32) (lt : Option Nat) (mo : Int32) (ad : Nat) (ln : Int32) (PL : List Nat) (pf : Nat → va_E) (pw : Nat → Int64) (pk : Int32) (lw : Nat → Int64) (lk : Int32) (ik : Nat → Int32) (cw : Nat → Int32) (mw : Nat → Int32) (hz : Nat) (post : Int32 → (Nat → Int32) → Option Nat → Int32 → Nat → Int32 → List Nat → (Nat → va_E) → (Nat → Int64) → Int32 → (Nat → Int64) → Int32 → (Nat → Int32) → (Nat → Int32) → (Nat → Int32) → Prop) (hw : wp_L_isCut E post gx lt mo ad ln PL pf pw pk lw lk ik cw mw) : Met l yL_isCut (Cond.code yL_isCut cL_isCut 9 (some .boolean) :: ALLW) ({ frames := 4, cells := 0, slots := 0, locals := 88 } : Room) (va_Pc [.ref (ax 0), .ref (bx 0), .ref (bx 1)] (preM E (wLP E ax bx gx lt mo ad ln PL pf pw pk lw lk ik cw mw) hz)) (va_Qi (fun (r : Int32) (u : (Nat → Int32) × Option Nat × Int32 × Nat × Int32 × List Nat × (Nat → va_E) × (Nat → Int64) × Int32 × (Nat → Int64) × Int32 × (Nat → Int32) × (Nat → Int32) × (Nat → Int32)) => post r u.1 u.2.1 u.2.2.1 u.2.2.2.1 u.2.2.2.2.1 u.2.2.2.2.2.1 u.2.2.2.2.2.2.1 u.2.2.2.2.2.2.2.1 u.2.2.2.2.2.2.2.2.1 u.2.2.2.2.2.2.2.2.2.1 u.2.2.2.2.2.2.2.2.2.2.1 u.2.2.2.2.2.2.2.2.2.2.2.1 u.2.2.2.2.2.2.2.2.2.2.2.2.1 u.2.2.2.2.2.2.2.2.2.2.2.2.2) (fun (u : (Nat → Int32) × Option Nat × Int32 × Nat × Int32 × List Nat × (Nat → va_E) × (Nat → Int64) × Int32 × (Nat → Int64) × Int32 × (Nat → Int32) × (Nat → Int32) × (Nat → Int32)) t => va_P (eD E) vwCl (wLP E ax bx u.1 u.2.1 u.2.2.1 u.2.2.2.1 u.2.2.2.2.1 u.2.2.2.2.2.1 u.2.2.2.2.2.2.1 u.2.2.2.2.2.2.2.1 u.2.2.2.2.2.2.2.2.1 u.2.2.2.2.2.2.2.2.2.1 u.2.2.2.2.2.2.2.2.2.2.1 u.2.2.2.2.2.2.2.2.2.2.2.1 u.2.2.2.2.2.2.2.2.2.2.2.2.1 u.2.2.2.2.2.2.2.2.2.2.2.2.2) t.heap ∧ va_D (va_A (wLP E ax bx gx lt mo ad ln PL pf pw pk lw lk ik cw mw) hz) (wLP E ax bx u.1 u.2.1 u.2.2.1 u.2.2.2.1 u.2.2.2.2.1 u.2.2.2.2.2.1 u.2.2.2.2.2.2.1 u.2.2.2.2.2.2.2.1 u.2.2.2.2.2.2.2.2.1 u.2.2.2.2.2.2.2.2.2.1 u.2.2.2.2.2.2.2.2.2.2.1 u.2.2.2.2.2.2.2.2.2.2.2.1 u.2.2.2.2.2.2.2.2.2.2.2.2.1 u.2.2.2.2.2.2.2.2.2.2.2.2.2)) (va_A (wLP E ax bx gx lt mo ad ln PL pf pw pk lw lk ik cw mw) hz)) 0 0 (va_A (wLP E ax bx gx lt mo ad ln PL pf pw pk lw lk ik cw mw) hz) := by
  refine Met.ofW (cc := cL_isCut) (maxL := 9) (ret := (some .boolean)) (by decide) rfl ?_
  intro p e s m args below meth c s₁ B hml hv
  obtain ⟨rfl, hpre⟩ := hv
  have hx := B.exec
  have hb := B.bytes
  have hr := B.returns
  have hlocks := B.notSynchronized
  have hts := atoms_spec (ws := (Cond.code yL_isCut cL_isCut 9 (some .boolean) :: ALLW)) B.pre
  have hta : ∀ w ∈ ALLW, w.before ([.ref (ax 0), .ref (bx 0), .ref (bx 1)] : List Value).toArray s = true := fun w h => hts w (List.mem_cons_of_mem _ h)
  have hown : s.vm.findClass RL = some m.cls := findClass_of_methodNamed B.named
  obtain ⟨hsz, hP, hKE, hD0, hZ⟩ := hpre
  subst hsz
  have hD := hD0.self (sz := s.heap.size)
  generalize hAe : va_A (wLP E ax bx gx lt mo ad ln PL pf pw pk lw lk ik cw mw) s.heap.size = A at hD hZ ⊢
  have hA : ∀ q : Nat, s.heap.size ≤ q → A q := fun q h => by rw [← hAe]; exact Or.inr h
  have hS : va_S A s.heap s.heap [] := va_S.rf
  have hP : va_P (eD E) vwCl ([((ax 0), .inr (3, [.ref (ax 1), .ref (ax 2), .ref (ax 4), .ref (ax 6), .int (gx 4), .int (gx 5), .int (gx 6), .int (gx 7), va_rf lt, .int (gx 9), .int (gx 10), .int (gx 11), .int (gx 12), .int (gx 13), .int (gx 14), .int (gx 15), .int (gx 16), .int (gx 17), .int (gx 18)])), ((ax 1), .inr (0, [.int mo, .ref ad, .int ln])), ((ax 2), .inr (2, [.ref (ax 3), .int pk])), ((ax 3), .inl (eC E 1, 157, .inr (.inl pw))), ((ax 4), .inr (2, [.ref (ax 5), .int lk])), ((ax 5), .inl (eC E 1, 157, .inr (.inl lw))), ((ax 6), .inl (eC E 0, 3, .inl ik)), ((bx 0), .inl (eC E 0, 64, .inl cw)), ((bx 1), .inl (eC E 0, 8, .inl mw))] ++ va_pl PL pf) s.heap := hP
  have hD : va_D A ([((ax 0), .inr (3, [.ref (ax 1), .ref (ax 2), .ref (ax 4), .ref (ax 6), .int (gx 4), .int (gx 5), .int (gx 6), .int (gx 7), va_rf lt, .int (gx 9), .int (gx 10), .int (gx 11), .int (gx 12), .int (gx 13), .int (gx 14), .int (gx 15), .int (gx 16), .int (gx 17), .int (gx 18)])), ((ax 1), .inr (0, [.int mo, .ref ad, .int ln])), ((ax 2), .inr (2, [.ref (ax 3), .int pk])), ((ax 3), .inl (eC E 1, 157, .inr (.inl pw))), ((ax 4), .inr (2, [.ref (ax 5), .int lk])), ((ax 5), .inl (eC E 1, 157, .inr (.inl lw))), ((ax 6), .inl (eC E 0, 3, .inl ik)), ((bx 0), .inl (eC E 0, 64, .inl cw)), ((bx 1), .inl (eC E 0, 8, .inl mw))] ++ va_pl PL pf) := hD
  have hl := lv_entry ([.ref (ax 0), .ref (bx 0), .ref (bx 1)]) (n := 9) (Nat.le_of_ble_eq_true rfl)
  rw [lg_entry_eq]
  generalize (lg_sl ([.ref (ax 0), .ref (bx 0), .ref (bx 1)]) ++ List.replicate (9 - (lg_sl ([.ref (ax 0), .ref (bx 0), .ref (bx 1)])).length) Slot.unset).toArray = ls at hl ⊢
  have hl : lv_has ls 9 [(0, .ref (ax 0)), (1, .ref (bx 0)), (2, .ref (bx 1))] := hl
  unfold wp_L_isCut at hw
  refine lv_aload_n hx hb dL_isCut_0 rfl (lv_at hl 0 rfl) ?_
  have hPc : va_P (eD E) vwCl (wX E ax gx lt mo ad ln PL pf pw pk lw lk ik) s.heap := hP.part [0, 1, 2, 3, 4, 5, 6] rfl
  refine vp_callSi (va_Run.run (va_runV (As := []) (rest := []) ⟨hx, hb, hml, hown, hta⟩ (c_X2_stepsUp E l ax gx lt mo ad ln PL pf pw pk lw lk ik _ hw) (pcV (n := 0) hta tw_560 tw_557 tw_1 tw_558 tw_559 rfl rfl hd_X2_stepsUp ⟨Nat.le_of_ble_eq_true rfl, Nat.le_of_ble_eq_true rfl⟩) ⟨fbR, va_recv hKE.1 hP (ci := 3) (q0 := 0) rfl rfl, fun U hU hW => ⟨rfl, preR.mk hPc hKE hU hW⟩⟩ rfl rfl hl.1 rfl (lv_room (Nat.le_of_ble_eq_true rfl)) dL_isCut_1 ⟨Nat.le_of_ble_eq_true rfl, Nat.le_of_ble_eq_true rfl⟩)) (fun r_951 hw => ?_)
  refine lv_istore_n (lv' := [(3, .int r_951), (0, .ref (ax 0)), (1, .ref (bx 0)), (2, .ref (bx 1))]) hx hb dL_isCut_4 rfl hl (by decide) rfl (fun ls hl => ?_)
  refine lv_aload_n hx hb dL_isCut_5 rfl (lv_at hl 1 rfl) ?_
  have hPc : va_P (eD E) vwCl (wX E ax gx lt mo ad ln PL pf pw pk lw lk ik) s.heap := hP.part [0, 1, 2, 3, 4, 5, 6] rfl
  refine vp_callSi (va_Run.run (va_runV (As := []) (rest := []) ⟨hx, hb, hml, hown, hta⟩ (c_X2_stepsDown E l ax gx lt mo ad ln PL pf pw pk lw lk ik _ hw) (pcV (n := 0) hta tw_565 tw_562 tw_1 tw_563 tw_564 rfl rfl hd_X2_stepsDown ⟨Nat.le_of_ble_eq_true rfl, Nat.le_of_ble_eq_true rfl⟩) ⟨fbR, va_recv hKE.1 hP (ci := 3) (q0 := 0) rfl rfl, fun U hU hW => ⟨rfl, preR.mk hPc hKE hU hW⟩⟩ rfl rfl hl.1 rfl (lv_room (Nat.le_of_ble_eq_true rfl)) dL_isCut_6 ⟨Nat.le_of_ble_eq_true rfl, Nat.le_of_ble_eq_true rfl⟩)) (fun r_952 hw => ?_)
  refine lv_istore (lv' := [(4, .int r_952), (3, .int r_951), (0, .ref (ax 0)), (1, .ref (bx 0)), (2, .ref (bx 1))]) hx hb dL_isCut_9 hl (by decide) rfl (fun ls hl => ?_)
  refine lv_aload_n hx hb dL_isCut_11 rfl (lv_at hl 2 rfl) ?_
  have hPc : va_P (eD E) vwCl (wX E ax gx lt mo ad ln PL pf pw pk lw lk ik) s.heap := hP.part [0, 1, 2, 3, 4, 5, 6] rfl
  refine vp_callSi (va_Run.run (va_runV (As := []) (rest := []) ⟨hx, hb, hml, hown, hta⟩ (c_X2_marks E l ax gx lt mo ad ln PL pf pw pk lw lk ik _ hw) (pcV (n := 0) hta tw_219 tw_216 tw_1 tw_217 tw_218 rfl rfl hd_X2_marks ⟨Nat.le_of_ble_eq_true rfl, Nat.le_of_ble_eq_true rfl⟩) ⟨fbR, va_recv hKE.1 hP (ci := 3) (q0 := 0) rfl rfl, fun U hU hW => ⟨rfl, preR.mk hPc hKE hU hW⟩⟩ rfl rfl hl.1 rfl (lv_room (Nat.le_of_ble_eq_true rfl)) dL_isCut_12 ⟨Nat.le_of_ble_eq_true rfl, Nat.le_of_ble_eq_true rfl⟩)) (fun r_953 hw => ?_)
  refine lv_istore (lv' := [(5, .int r_953), (4, .int r_952), (3, .int r_951), (0, .ref (ax 0)), (1, .ref (bx 0)), (2, .ref (bx 1))]) hx hb dL_isCut_15 hl (by decide) rfl (fun ls hl => ?_)
  refine lv_aload_n hx hb dL_isCut_17 rfl (lv_at hl 3 rfl) ?_
  have hPc : va_P (eD E) vwCl (wX E ax gx lt mo ad ln PL pf pw pk lw lk ik) s.heap := hP.part [0, 1, 2, 3, 4, 5, 6] rfl
  refine vp_callSi (va_Run.run (va_runV (As := []) (rest := []) ⟨hx, hb, hml, hown, hta⟩ (c_X2_pen E l ax gx lt mo ad ln PL pf pw pk lw lk ik _ hw) (pcV (n := 0) hta tw_137 tw_134 tw_1 tw_135 tw_136 rfl rfl hd_X2_pen ⟨Nat.le_of_ble_eq_true rfl, Nat.le_of_ble_eq_true rfl⟩) ⟨fbR, va_recv hKE.1 hP (ci := 3) (q0 := 0) rfl rfl, fun U hU hW => ⟨rfl, preR.mk hPc hKE hU hW⟩⟩ rfl rfl hl.1 rfl (lv_room (Nat.le_of_ble_eq_true rfl)) dL_isCut_18 ⟨Nat.le_of_ble_eq_true rfl, Nat.le_of_ble_eq_true rfl⟩)) (fun r_954 hw => ?_)
  refine lv_istore (lv' := [(6, .int r_954), (5, .int r_953), (4, .int r_952), (3, .int r_951), (0, .ref (ax 0)), (1, .ref (bx 0)), (2, .ref (bx 1))]) hx hb dL_isCut_21 hl (by decide) rfl (fun ls hl => ?_)
  refine lv_aload_n hx hb dL_isCut_23 rfl (lv_at hl 4 rfl) ?_
  have hPc : va_P (eD E) vwCl (wX E ax gx lt mo ad ln PL pf pw pk lw lk ik) s.heap := hP.part [0, 1, 2, 3, 4, 5, 6] rfl
  have hDc : va_D A (wX E ax gx lt mo ad ln PL pf pw pk lw lk ik) := hD.part [0, 1, 2, 3, 4, 5, 6] (by decide) rfl
  have hFc : ∀ q, va_A (wX E ax gx lt mo ad ln PL pf pw pk lw lk ik) s.heap.size q → A q := va_freeP hD hS hA [0, 1, 2, 3, 4, 5, 6] rfl
  refine va_calli (va_runV (As := []) (rest := []) ⟨hx, hb, hml, hown, hta⟩ (c_X2_cut E l ax gx lt mo ad ln PL pf pw pk lw lk ik s.heap.size _ hw) (pcV (n := 0) hta tw_133 tw_130 tw_1 tw_131 tw_132 rfl rfl hd_X2_cut ⟨Nat.le_of_ble_eq_true rfl, Nat.le_of_ble_eq_true rfl⟩) ⟨fbM, va_recv hKE.1 hP (ci := 3) (q0 := 0) rfl rfl, fun U hU hW => ⟨rfl, preM.mk hPc hKE hDc hZ hS hFc hU hW⟩⟩ rfl rfl hl.1 rfl (lv_room (Nat.le_of_ble_eq_true rfl)) dL_isCut_24 ⟨Nat.le_of_ble_eq_true rfl, Nat.le_of_ble_eq_true rfl⟩) hS (fun q _ h => hFc q h) hFc (fun r_955 u t H locs ht hvm hw hB hz1 hk1 hS => ?_)
  obtain ⟨gx_956, lt_957, mo_958, ad_959, ln_960, PL_961, pf_962, pw_963, pk_964, lw_965, lk_966, ik_967⟩ := u
  obtain ⟨hP1, hD1⟩ := hB
  rw [ht] at hP1
  try dsimp only at hw hP1 hD1
  obtain ⟨hP, hD⟩ := va_joinP (wr := [((bx 0), .inl (eC E 0, 64, .inl cw)), ((bx 1), .inl (eC E 0, 8, .inl mw))]) (rx := [((ax 0), .inr (3, [.ref (ax 1), .ref (ax 2), .ref (ax 4), .ref (ax 6), .int (gx_956 4), .int (gx_956 5), .int (gx_956 6), .int (gx_956 7), va_rf lt_957, .int (gx_956 9), .int (gx_956 10), .int (gx_956 11), .int (gx_956 12), .int (gx_956 13), .int (gx_956 14), .int (gx_956 15), .int (gx_956 16), .int (gx_956 17), .int (gx_956 18)])), ((ax 1), .inr (0, [.int mo_958, .ref ad_959, .int ln_960])), ((ax 2), .inr (2, [.ref (ax 3), .int pk_964])), ((ax 3), .inl (eC E 1, 157, .inr (.inl pw_963))), ((ax 4), .inr (2, [.ref (ax 5), .int lk_966])), ((ax 5), .inl (eC E 1, 157, .inr (.inl lw_965))), ((ax 6), .inl (eC E 0, 3, .inl ik_967))]) (pl1 := va_pl PL_961 pf_962) hP hD [0, 1, 2, 3, 4, 5, 6] [7, 8] rfl rfl (by decide) (by decide) hk1 hFc hP1 hD1
  have hP : va_P (eD E) vwCl ([((ax 0), .inr (3, [.ref (ax 1), .ref (ax 2), .ref (ax 4), .ref (ax 6), .int (gx_956 4), .int (gx_956 5), .int (gx_956 6), .int (gx_956 7), va_rf lt_957, .int (gx_956 9), .int (gx_956 10), .int (gx_956 11), .int (gx_956 12), .int (gx_956 13), .int (gx_956 14), .int (gx_956 15), .int (gx_956 16), .int (gx_956 17), .int (gx_956 18)])), ((ax 1), .inr (0, [.int mo_958, .ref ad_959, .int ln_960])), ((ax 2), .inr (2, [.ref (ax 3), .int pk_964])), ((ax 3), .inl (eC E 1, 157, .inr (.inl pw_963))), ((ax 4), .inr (2, [.ref (ax 5), .int lk_966])), ((ax 5), .inl (eC E 1, 157, .inr (.inl lw_965))), ((ax 6), .inl (eC E 0, 3, .inl ik_967)), ((bx 0), .inl (eC E 0, 64, .inl cw)), ((bx 1), .inl (eC E 0, 8, .inl mw))] ++ va_pl PL_961 pf_962) H := hP.part [2, 3, 4, 5, 6, 7, 8, 0, 1] rfl
  have hD : va_D A ([((ax 0), .inr (3, [.ref (ax 1), .ref (ax 2), .ref (ax 4), .ref (ax 6), .int (gx_956 4), .int (gx_956 5), .int (gx_956 6), .int (gx_956 7), va_rf lt_957, .int (gx_956 9), .int (gx_956 10), .int (gx_956 11), .int (gx_956 12), .int (gx_956 13), .int (gx_956 14), .int (gx_956 15), .int (gx_956 16), .int (gx_956 17), .int (gx_956 18)])), ((ax 1), .inr (0, [.int mo_958, .ref ad_959, .int ln_960])), ((ax 2), .inr (2, [.ref (ax 3), .int pk_964])), ((ax 3), .inl (eC E 1, 157, .inr (.inl pw_963))), ((ax 4), .inr (2, [.ref (ax 5), .int lk_966])), ((ax 5), .inl (eC E 1, 157, .inr (.inl lw_965))), ((ax 6), .inl (eC E 0, 3, .inl ik_967)), ((bx 0), .inl (eC E 0, 64, .inl cw)), ((bx 1), .inl (eC E 0, 8, .inl mw))] ++ va_pl PL_961 pf_962) := hD.part [2, 3, 4, 5, 6, 7, 8, 0, 1] (by decide) rfl
  refine lv_istore (lv' := [(7, .int r_955), (6, .int r_954), (5, .int r_953), (4, .int r_952), (3, .int r_951), (0, .ref (ax 0)), (1, .ref (bx 0)), (2, .ref (bx 1))]) hx hb dL_isCut_27 hl (by decide) rfl (fun ls hl => ?_)
  refine lv_iload hx hb dL_isCut_29 (lv_at hl 0 rfl) ?_
  refine lv_aload_n hx hb dL_isCut_31 rfl (lv_at hl 7 rfl) ?_
  refine lv_bipush (v := 7) hx hb dL_isCut_32 (by decide) ?_
  refine va_iald hx hb hKE.1 hP 8 0 rfl rfl (show vp_in 7 8 from by unfold vp_in; decide) dL_isCut_34 ?_
  refine lv_bipush (v := 10) hx hb dL_isCut_35 (by decide) ?_
  refine lv_irem hx hb dL_isCut_37 (by decide) ?_
  refine lv_icmp_ne (tgt := 45) hx hb dL_isCut_38 (by decide) (fun c_968 => ?_) (fun c_968 => ?_)
  · have hw := hw.2 c_968
    exact hw.elim
  · have hw := hw.1 c_968
    refine lv_iconst (v := 1) hx hb dL_isCut_41 (by decide) ?_
    refine lv_goto (tgt := 46) hx hb dL_isCut_42 (by decide) ?_
    refine lv_istore (lv' := [(8, .int 1), (7, .int r_955), (6, .int r_954), (5, .int r_953), (4, .int r_952), (3, .int r_951), (0, .ref (ax 0)), (1, .ref (bx 0)), (2, .ref (bx 1))]) hx hb dL_isCut_46 hl (by decide) rfl (fun ls hl => ?_)
    refine lv_aload_n hx hb dL_isCut_48 rfl (lv_at hl 8 rfl) ?_
    refine lv_bipush (v := 7) hx hb dL_isCut_49 (by decide) ?_
    refine lv_dup2_11 hx hb dL_isCut_51 rfl rfl ?_
    refine va_iald hx hb hKE.1 hP 8 0 rfl rfl (show vp_in 7 8 from by unfold vp_in; decide) dL_isCut_52 ?_
    refine lv_iload hx hb dL_isCut_53 (lv_at hl 1 rfl) ?_
    refine lv_isub hx hb dL_isCut_55 ?_
    refine va_iast hx hb hKE.1 hP hD hS 8 0 rfl rfl (show vp_in 7 8 from by unfold vp_in; decide) dL_isCut_56 (fun H locs hP hD hS => ?_)
    have hP : va_P (eD E) vwCl ([((ax 0), .inr (3, [.ref (ax 1), .ref (ax 2), .ref (ax 4), .ref (ax 6), .int (gx_956 4), .int (gx_956 5), .int (gx_956 6), .int (gx_956 7), va_rf lt_957, .int (gx_956 9), .int (gx_956 10), .int (gx_956 11), .int (gx_956 12), .int (gx_956 13), .int (gx_956 14), .int (gx_956 15), .int (gx_956 16), .int (gx_956 17), .int (gx_956 18)])), ((ax 1), .inr (0, [.int mo_958, .ref ad_959, .int ln_960])), ((ax 2), .inr (2, [.ref (ax 3), .int pk_964])), ((ax 3), .inl (eC E 1, 157, .inr (.inl pw_963))), ((ax 4), .inr (2, [.ref (ax 5), .int lk_966])), ((ax 5), .inl (eC E 1, 157, .inr (.inl lw_965))), ((ax 6), .inl (eC E 0, 3, .inl ik_967)), ((bx 0), .inl (eC E 0, 64, .inl cw)), ((bx 1), .inl (eC E 0, 8, .inl (upd mw (7 : Int32).toNatClampNeg ((mw (7 : Int32).toNatClampNeg) - r_955))))] ++ va_pl PL_961 pf_962) H := hP
    have hD : va_D A ([((ax 0), .inr (3, [.ref (ax 1), .ref (ax 2), .ref (ax 4), .ref (ax 6), .int (gx_956 4), .int (gx_956 5), .int (gx_956 6), .int (gx_956 7), va_rf lt_957, .int (gx_956 9), .int (gx_956 10), .int (gx_956 11), .int (gx_956 12), .int (gx_956 13), .int (gx_956 14), .int (gx_956 15), .int (gx_956 16), .int (gx_956 17), .int (gx_956 18)])), ((ax 1), .inr (0, [.int mo_958, .ref ad_959, .int ln_960])), ((ax 2), .inr (2, [.ref (ax 3), .int pk_964])), ((ax 3), .inl (eC E 1, 157, .inr (.inl pw_963))), ((ax 4), .inr (2, [.ref (ax 5), .int lk_966])), ((ax 5), .inl (eC E 1, 157, .inr (.inl lw_965))), ((ax 6), .inl (eC E 0, 3, .inl ik_967)), ((bx 0), .inl (eC E 0, 64, .inl cw)), ((bx 1), .inl (eC E 0, 8, .inl (upd mw (7 : Int32).toNatClampNeg ((mw (7 : Int32).toNatClampNeg) - r_955))))] ++ va_pl PL_961 pf_962) := hD
    refine lv_iload hx hb dL_isCut_57 (lv_at hl 0 rfl) ?_
    refine lv_if_eq (tgt := 135) hx hb dL_isCut_59 (by decide) (fun c9 => absurd c9 (by decide)) (fun _ => ?_)
    refine lv_aload_n hx hb dL_isCut_62 rfl (lv_at hl 6 rfl) ?_
    have hPc : va_P (eD E) vwCl (wX E ax gx_956 lt_957 mo_958 ad_959 ln_960 PL_961 pf_962 pw_963 pk_964 lw_965 lk_966 ik_967) H := hP.part [0, 1, 2, 3, 4, 5, 6] rfl
    refine vp_callSi (va_Run.run (va_runV (As := []) (rest := []) ⟨hx, hb, hml, hown, hta⟩ (c_X2_isDown E l ax gx_956 lt_957 mo_958 ad_959 ln_960 PL_961 pf_962 pw_963 pk_964 lw_965 lk_966 ik_967 _ hw) (pcV (n := 0) hta tw_533 tw_530 tw_1 tw_531 tw_532 rfl rfl hd_X2_isDown ⟨Nat.le_of_ble_eq_true rfl, Nat.le_of_ble_eq_true rfl⟩) ⟨fbR, va_recv hKE.1 hP (ci := 3) (q0 := 0) rfl rfl, fun U hU hW => ⟨rfl, preR.mk hPc hKE hU hW⟩⟩ rfl rfl hl.1 rfl (lv_room (Nat.le_of_ble_eq_true rfl)) dL_isCut_63 ⟨Nat.le_of_ble_eq_true rfl, Nat.le_of_ble_eq_true rfl⟩)) (fun r_969 hw => ?_)
    refine lv_if_ne (tgt := 135) hx hb dL_isCut_66 (by decide) (fun c_970 => ?_) (fun c_970 => ?_)
    · have hw := hw.2 c_970
      exact hw.elim
    · have hw := hw.1 c_970
      refine lv_aload_n hx hb dL_isCut_69 rfl (lv_at hl 6 rfl) ?_
      have hPc : va_P (eD E) vwCl (wX E ax gx_956 lt_957 mo_958 ad_959 ln_960 PL_961 pf_962 pw_963 pk_964 lw_965 lk_966 ik_967) H := hP.part [0, 1, 2, 3, 4, 5, 6] rfl
      refine vp_callSi (va_Run.run (va_runV (As := []) (rest := []) ⟨hx, hb, hml, hown, hta⟩ (c_X2_pending E l ax gx_956 lt_957 mo_958 ad_959 ln_960 PL_961 pf_962 pw_963 pk_964 lw_965 lk_966 ik_967 _ hw) (pcV (n := 0) hta tw_129 tw_126 tw_1 tw_127 tw_128 rfl rfl hd_X2_pending ⟨Nat.le_of_ble_eq_true rfl, Nat.le_of_ble_eq_true rfl⟩) ⟨fbR, va_recv hKE.1 hP (ci := 3) (q0 := 0) rfl rfl, fun U hU hW => ⟨rfl, preR.mk hPc hKE hU hW⟩⟩ rfl rfl hl.1 rfl (lv_room (Nat.le_of_ble_eq_true rfl)) dL_isCut_70 ⟨Nat.le_of_ble_eq_true rfl, Nat.le_of_ble_eq_true rfl⟩)) (fun r_971 hw => ?_)
      refine lv_if_ne (tgt := 135) hx hb dL_isCut_73 (by decide) (fun c_972 => ?_) (fun c_972 => ?_)
      · have hw := hw.2 c_972
        exact hw.elim
      · have hw := hw.1 c_972
        refine lv_aload_n hx hb dL_isCut_76 rfl (lv_at hl 6 rfl) ?_
        have hPc : va_P (eD E) vwCl (wX E ax gx_956 lt_957 mo_958 ad_959 ln_960 PL_961 pf_962 pw_963 pk_964 lw_965 lk_966 ik_967) H := hP.part [0, 1, 2, 3, 4, 5, 6] rfl
        refine vp_callSi (va_Run.run (va_runV (As := []) (rest := []) ⟨hx, hb, hml, hown, hta⟩ (c_X2_stepsUp E l ax gx_956 lt_957 mo_958 ad_959 ln_960 PL_961 pf_962 pw_963 pk_964 lw_965 lk_966 ik_967 _ hw) (pcV (n := 0) hta tw_560 tw_557 tw_1 tw_558 tw_559 rfl rfl hd_X2_stepsUp ⟨Nat.le_of_ble_eq_true rfl, Nat.le_of_ble_eq_true rfl⟩) ⟨fbR, va_recv hKE.1 hP (ci := 3) (q0 := 0) rfl rfl, fun U hU hW => ⟨rfl, preR.mk hPc hKE hU hW⟩⟩ rfl rfl hl.1 rfl (lv_room (Nat.le_of_ble_eq_true rfl)) dL_isCut_77 ⟨Nat.le_of_ble_eq_true rfl, Nat.le_of_ble_eq_true rfl⟩)) (fun r_973 hw => ?_)
        refine lv_iload_n hx hb dL_isCut_80 rfl (lv_at hl 5 rfl) ?_
        refine lv_icmp_ne (tgt := 135) hx hb dL_isCut_81 (by decide) (fun c_974 => ?_) (fun c_974 => ?_)
        · have hw := hw.2 c_974
          exact hw.elim
        · have hw := hw.1 c_974
          refine lv_aload_n hx hb dL_isCut_84 rfl (lv_at hl 6 rfl) ?_
          have hPc : va_P (eD E) vwCl (wX E ax gx_956 lt_957 mo_958 ad_959 ln_960 PL_961 pf_962 pw_963 pk_964 lw_965 lk_966 ik_967) H := hP.part [0, 1, 2, 3, 4, 5, 6] rfl
          refine vp_callSi (va_Run.run (va_runV (As := []) (rest := []) ⟨hx, hb, hml, hown, hta⟩ (c_X2_stepsDown E l ax gx_956 lt_957 mo_958 ad_959 ln_960 PL_961 pf_962 pw_963 pk_964 lw_965 lk_966 ik_967 _ hw) (pcV (n := 0) hta tw_565 tw_562 tw_1 tw_563 tw_564 rfl rfl hd_X2_stepsDown ⟨Nat.le_of_ble_eq_true rfl, Nat.le_of_ble_eq_true rfl⟩) ⟨fbR, va_recv hKE.1 hP (ci := 3) (q0 := 0) rfl rfl, fun U hU hW => ⟨rfl, preR.mk hPc hKE hU hW⟩⟩ rfl rfl hl.1 rfl (lv_room (Nat.le_of_ble_eq_true rfl)) dL_isCut_85 ⟨Nat.le_of_ble_eq_true rfl, Nat.le_of_ble_eq_true rfl⟩)) (fun r_975 hw => ?_)
          refine lv_iload hx hb dL_isCut_88 (lv_at hl 4 rfl) ?_
          refine lv_icmp_ne (tgt := 135) hx hb dL_isCut_90 (by decide) (fun c_976 => ?_) (fun c_976 => ?_)
          · have hw := hw.2 c_976
            exact hw.elim
          · have hw := hw.1 c_976
            refine lv_aload_n hx hb dL_isCut_93 rfl (lv_at hl 6 rfl) ?_
            have hPc : va_P (eD E) vwCl (wX E ax gx_956 lt_957 mo_958 ad_959 ln_960 PL_961 pf_962 pw_963 pk_964 lw_965 lk_966 ik_967) H := hP.part [0, 1, 2, 3, 4, 5, 6] rfl
            refine vp_callSi (va_Run.run (va_runV (As := []) (rest := []) ⟨hx, hb, hml, hown, hta⟩ (c_X2_marks E l ax gx_956 lt_957 mo_958 ad_959 ln_960 PL_961 pf_962 pw_963 pk_964 lw_965 lk_966 ik_967 _ hw) (pcV (n := 0) hta tw_219 tw_216 tw_1 tw_217 tw_218 rfl rfl hd_X2_marks ⟨Nat.le_of_ble_eq_true rfl, Nat.le_of_ble_eq_true rfl⟩) ⟨fbR, va_recv hKE.1 hP (ci := 3) (q0 := 0) rfl rfl, fun U hU hW => ⟨rfl, preR.mk hPc hKE hU hW⟩⟩ rfl rfl hl.1 rfl (lv_room (Nat.le_of_ble_eq_true rfl)) dL_isCut_94 ⟨Nat.le_of_ble_eq_true rfl, Nat.le_of_ble_eq_true rfl⟩)) (fun r_977 hw => ?_)
            refine lv_iload hx hb dL_isCut_97 (lv_at hl 3 rfl) ?_
            refine lv_icmp_ne (tgt := 135) hx hb dL_isCut_99 (by decide) (fun c_978 => ?_) (fun c_978 => ?_)
            · have hw := hw.2 c_978
              exact hw.elim
            · have hw := hw.1 c_978
              refine lv_aload_n hx hb dL_isCut_102 rfl (lv_at hl 6 rfl) ?_
              have hPc : va_P (eD E) vwCl (wX E ax gx_956 lt_957 mo_958 ad_959 ln_960 PL_961 pf_962 pw_963 pk_964 lw_965 lk_966 ik_967) H := hP.part [0, 1, 2, 3, 4, 5, 6] rfl
              refine vp_callSi (va_Run.run (va_runV (As := []) (rest := []) ⟨hx, hb, hml, hown, hta⟩ (c_X2_pen E l ax gx_956 lt_957 mo_958 ad_959 ln_960 PL_961 pf_962 pw_963 pk_964 lw_965 lk_966 ik_967 _ hw) (pcV (n := 0) hta tw_137 tw_134 tw_1 tw_135 tw_136 rfl rfl hd_X2_pen ⟨Nat.le_of_ble_eq_true rfl, Nat.le_of_ble_eq_true rfl⟩) ⟨fbR, va_recv hKE.1 hP (ci := 3) (q0 := 0) rfl rfl, fun U hU hW => ⟨rfl, preR.mk hPc hKE hU hW⟩⟩ rfl rfl hl.1 rfl (lv_room (Nat.le_of_ble_eq_true rfl)) dL_isCut_103 ⟨Nat.le_of_ble_eq_true rfl, Nat.le_of_ble_eq_true rfl⟩)) (fun r_979 hw => ?_)
              refine lv_iload hx hb dL_isCut_106 (lv_at hl 2 rfl) ?_
              refine lv_icmp_ne (tgt := 135) hx hb dL_isCut_108 (by decide) (fun c_980 => ?_) (fun c_980 => ?_)
              · have hw := hw.2 c_980
                exact hw.elim
              · have hw := hw.1 c_980
                refine lv_aload_n hx hb dL_isCut_111 rfl (lv_at hl 6 rfl) ?_
                have hPc : va_P (eD E) vwCl (wX E ax gx_956 lt_957 mo_958 ad_959 ln_960 PL_961 pf_962 pw_963 pk_964 lw_965 lk_966 ik_967) H := hP.part [0, 1, 2, 3, 4, 5, 6] rfl
                refine vp_callSi (va_Run.run (va_runV (As := []) (rest := []) ⟨hx, hb, hml, hown, hta⟩ (c_X2_timeLeft E l ax gx_956 lt_957 mo_958 ad_959 ln_960 PL_961 pf_962 pw_963 pk_964 lw_965 lk_966 ik_967 _ hw) (pcV (n := 0) hta tw_518 tw_515 tw_1 tw_516 tw_517 rfl rfl hd_X2_timeLeft ⟨Nat.le_of_ble_eq_true rfl, Nat.le_of_ble_eq_true rfl⟩) ⟨fbR, va_recv hKE.1 hP (ci := 3) (q0 := 0) rfl rfl, fun U hU hW => ⟨rfl, preR.mk hPc hKE hU hW⟩⟩ rfl rfl hl.1 rfl (lv_room (Nat.le_of_ble_eq_true rfl)) dL_isCut_112 ⟨Nat.le_of_ble_eq_true rfl, Nat.le_of_ble_eq_true rfl⟩)) (fun r_981 hw => ?_)
                refine lv_aload_n hx hb dL_isCut_115 rfl (lv_at hl 6 rfl) ?_
                refine lv_aload_n hx hb dL_isCut_116 rfl (lv_at hl 7 rfl) ?_
                refine lv_aload_n hx hb dL_isCut_117 rfl (lv_at hl 8 rfl) ?_
                have hPc : va_P (eD E) vwCl (wLP E ax bx gx_956 lt_957 mo_958 ad_959 ln_960 PL_961 pf_962 pw_963 pk_964 lw_965 lk_966 ik_967 cw (upd mw (7 : Int32).toNatClampNeg ((mw (7 : Int32).toNatClampNeg) - r_955))) H := hP
                refine vp_callSi (va_Run.run (va_runS (As := [.ref (ax 0), .ref (bx 0), .ref (bx 1)]) (rest := [.int r_981]) ⟨hx, hb, hml, hown, hta⟩ (c_L_due E l ax bx gx_956 lt_957 mo_958 ad_959 ln_960 PL_961 pf_962 pw_963 pk_964 lw_965 lk_966 ik_967 cw (upd mw (7 : Int32).toNatClampNeg ((mw (7 : Int32).toNatClampNeg) - r_955)) _ hw) (pcS (n := 3) hta tw_529 tw_527 tw_0 tw_528 rfl rfl hd_L_due ⟨Nat.le_of_ble_eq_true rfl, Nat.le_of_ble_eq_true rfl⟩) ⟨fbR, fun U hU hW => ⟨rfl, preR.mk hPc hKE hU hW⟩⟩ rfl rfl hl.1 rfl (lv_room (Nat.le_of_ble_eq_true rfl)) dL_isCut_118 ⟨Nat.le_of_ble_eq_true rfl, Nat.le_of_ble_eq_true rfl⟩)) (fun r_982 hw => ?_)
                refine lv_icmp_ne (tgt := 135) hx hb dL_isCut_121 (by decide) (fun c_983 => ?_) (fun c_983 => ?_)
                · have hw := hw.2 c_983
                  exact hw.elim
                · have hw := hw.1 c_983
                  refine lv_aload_n hx hb dL_isCut_124 rfl (lv_at hl 6 rfl) ?_
                  have hPc : va_P (eD E) vwCl (wX E ax gx_956 lt_957 mo_958 ad_959 ln_960 PL_961 pf_962 pw_963 pk_964 lw_965 lk_966 ik_967) H := hP.part [0, 1, 2, 3, 4, 5, 6] rfl
                  have hDc : va_D A (wX E ax gx_956 lt_957 mo_958 ad_959 ln_960 PL_961 pf_962 pw_963 pk_964 lw_965 lk_966 ik_967) := hD.part [0, 1, 2, 3, 4, 5, 6] (by decide) rfl
                  have hFc : ∀ q, va_A (wX E ax gx_956 lt_957 mo_958 ad_959 ln_960 PL_961 pf_962 pw_963 pk_964 lw_965 lk_966 ik_967) H.size q → A q := va_freeP hD hS hA [0, 1, 2, 3, 4, 5, 6] rfl
                  refine va_calli (va_runV (As := []) (rest := []) ⟨hx, hb, hml, hown, hta⟩ (c_X2_cut E l ax gx_956 lt_957 mo_958 ad_959 ln_960 PL_961 pf_962 pw_963 pk_964 lw_965 lk_966 ik_967 H.size _ hw) (pcV (n := 0) hta tw_133 tw_130 tw_1 tw_131 tw_132 rfl rfl hd_X2_cut ⟨Nat.le_of_ble_eq_true rfl, Nat.le_of_ble_eq_true rfl⟩) ⟨fbM, va_recv hKE.1 hP (ci := 3) (q0 := 0) rfl rfl, fun U hU hW => ⟨rfl, preM.mk hPc hKE hDc hZ hS hFc hU hW⟩⟩ rfl rfl hl.1 rfl (lv_room (Nat.le_of_ble_eq_true rfl)) dL_isCut_125 ⟨Nat.le_of_ble_eq_true rfl, Nat.le_of_ble_eq_true rfl⟩) hS (fun q _ h => hFc q h) hFc (fun r_984 u t H locs ht hvm hw hB hz1 hk1 hS => ?_)
                  obtain ⟨gx_985, lt_986, mo_987, ad_988, ln_989, PL_990, pf_991, pw_992, pk_993, lw_994, lk_995, ik_996⟩ := u
                  obtain ⟨hP1, hD1⟩ := hB
                  rw [ht] at hP1
                  try dsimp only at hw hP1 hD1
                  obtain ⟨hP, hD⟩ := va_joinP (wr := [((bx 0), .inl (eC E 0, 64, .inl cw)), ((bx 1), .inl (eC E 0, 8, .inl (upd mw (7 : Int32).toNatClampNeg ((mw (7 : Int32).toNatClampNeg) - r_955))))]) (rx := [((ax 0), .inr (3, [.ref (ax 1), .ref (ax 2), .ref (ax 4), .ref (ax 6), .int (gx_985 4), .int (gx_985 5), .int (gx_985 6), .int (gx_985 7), va_rf lt_986, .int (gx_985 9), .int (gx_985 10), .int (gx_985 11), .int (gx_985 12), .int (gx_985 13), .int (gx_985 14), .int (gx_985 15), .int (gx_985 16), .int (gx_985 17), .int (gx_985 18)])), ((ax 1), .inr (0, [.int mo_987, .ref ad_988, .int ln_989])), ((ax 2), .inr (2, [.ref (ax 3), .int pk_993])), ((ax 3), .inl (eC E 1, 157, .inr (.inl pw_992))), ((ax 4), .inr (2, [.ref (ax 5), .int lk_995])), ((ax 5), .inl (eC E 1, 157, .inr (.inl lw_994))), ((ax 6), .inl (eC E 0, 3, .inl ik_996))]) (pl1 := va_pl PL_990 pf_991) hP hD [0, 1, 2, 3, 4, 5, 6] [7, 8] rfl rfl (by decide) (by decide) hk1 hFc hP1 hD1
                  have hP : va_P (eD E) vwCl ([((ax 0), .inr (3, [.ref (ax 1), .ref (ax 2), .ref (ax 4), .ref (ax 6), .int (gx_985 4), .int (gx_985 5), .int (gx_985 6), .int (gx_985 7), va_rf lt_986, .int (gx_985 9), .int (gx_985 10), .int (gx_985 11), .int (gx_985 12), .int (gx_985 13), .int (gx_985 14), .int (gx_985 15), .int (gx_985 16), .int (gx_985 17), .int (gx_985 18)])), ((ax 1), .inr (0, [.int mo_987, .ref ad_988, .int ln_989])), ((ax 2), .inr (2, [.ref (ax 3), .int pk_993])), ((ax 3), .inl (eC E 1, 157, .inr (.inl pw_992))), ((ax 4), .inr (2, [.ref (ax 5), .int lk_995])), ((ax 5), .inl (eC E 1, 157, .inr (.inl lw_994))), ((ax 6), .inl (eC E 0, 3, .inl ik_996)), ((bx 0), .inl (eC E 0, 64, .inl cw)), ((bx 1), .inl (eC E 0, 8, .inl (upd mw (7 : Int32).toNatClampNeg ((mw (7 : Int32).toNatClampNeg) - r_955))))] ++ va_pl PL_990 pf_991) H := hP.part [2, 3, 4, 5, 6, 7, 8, 0, 1] rfl
                  have hD : va_D A ([((ax 0), .inr (3, [.ref (ax 1), .ref (ax 2), .ref (ax 4), .ref (ax 6), .int (gx_985 4), .int (gx_985 5), .int (gx_985 6), .int (gx_985 7), va_rf lt_986, .int (gx_985 9), .int (gx_985 10), .int (gx_985 11), .int (gx_985 12), .int (gx_985 13), .int (gx_985 14), .int (gx_985 15), .int (gx_985 16), .int (gx_985 17), .int (gx_985 18)])), ((ax 1), .inr (0, [.int mo_987, .ref ad_988, .int ln_989])), ((ax 2), .inr (2, [.ref (ax 3), .int pk_993])), ((ax 3), .inl (eC E 1, 157, .inr (.inl pw_992))), ((ax 4), .inr (2, [.ref (ax 5), .int lk_995])), ((ax 5), .inl (eC E 1, 157, .inr (.inl lw_994))), ((ax 6), .inl (eC E 0, 3, .inl ik_996)), ((bx 0), .inl (eC E 0, 64, .inl cw)), ((bx 1), .inl (eC E 0, 8, .inl (upd mw (7 : Int32).toNatClampNeg ((mw (7 : Int32).toNatClampNeg) - r_955))))] ++ va_pl PL_990 pf_991) := hD.part [2, 3, 4, 5, 6, 7, 8, 0, 1] (by decide) rfl
                  refine lv_if_ne (tgt := 135) hx hb dL_isCut_128 (by decide) (fun c_997 => ?_) (fun c_997 => ?_)
                  · have hw := hw.2 c_997
                    exact hw.elim
                  · have hw := hw.1 c_997
                    refine lv_iconst (v := 1) hx hb dL_isCut_131 (by decide) ?_
                    refine lv_goto (tgt := 136) hx hb dL_isCut_132 (by decide) ?_
                    have hP9 : va_P (eD E) vwCl (wLP E ax bx gx_985 lt_986 mo_987 ad_988 ln_989 PL_990 pf_991 pw_992 pk_993 lw_994 lk_995 ik_996 cw (upd mw (7 : Int32).toNatClampNeg ((mw (7 : Int32).toNatClampNeg) - r_955))) H := hP
                    have hD9 : va_D A (wLP E ax bx gx_985 lt_986 mo_987 ad_988 ln_989 PL_990 pf_991 pw_992 pk_993 lw_994 lk_995 ik_996 cw (upd mw (7 : Int32).toNatClampNeg ((mw (7 : Int32).toNatClampNeg) - r_955))) := hD
                    exact W.zret (v := 1) hx hb hr rfl (fun t ht hW => ⟨⟨1, (gx_985, lt_986, mo_987, ad_988, ln_989, PL_990, pf_991, pw_992, pk_993, lw_994, lk_995, ik_996, cw, (upd mw (7 : Int32).toNatClampNeg ((mw (7 : Int32).toNatClampNeg) - r_955))), rfl, hw, ⟨by rw [ht]; exact hP9, hD9⟩⟩, hS.F ht⟩) hS.2.2 dL_isCut_136
def wp_L_isRefused (E : EV) (post : Int32 → (Nat → Int32) → Option Nat → Int32 → Nat → Int32 → List Nat → (Nat → va_E) → (Nat → Int64) → Int32 → (Nat → Int64) → Int32 → (Nat → Int32) → Prop) (gx : Nat → Int32) (lt : Option Nat) (mo : Int32) (ad : Nat) (ln : Int32) (PL : List Nat) (pf : Nat → va_E) (pw : Nat → Int64) (pk : Int32) (lw : Nat → Int64) (lk : Int32) (ik : Nat → Int32) (p0 : Int32) : Prop := (((p0 - p0 / 2 * 2) = 0 → (wp_L_all E (fun r_1114 : Int64 => (wp_L_act E (fun (r_1115 : Int32) (gx_1116 : Nat → Int32) (lt_1117 : Option Nat) (mo_1118 : Int32) (ad_1119 : Nat) (ln_1120 : Int32) (PL_1121 : List Nat) (pf_1122 : Nat → va_E) (pw_1123 : Nat → Int64) (pk_1124 : Int32) (lw_1125 : Nat → Int64) (lk_1126 : Int32) (ik_1127 : Nat → Int32) => ((r_1115 = (-1152) → (wp_L_act E (fun (r_1129 : Int32) (gx_1130 : Nat → Int32) (lt_1131 : Option Nat) (mo_1132 : Int32) (ad_1133 : Nat) (ln_1134 : Int32) (PL_1135 : List Nat) (pf_1136 : Nat → va_E) (pw_1137 : Nat → Int64) (pk_1138 : Int32) (lw_1139 : Nat → Int64) (lk_1140 : Int32) (ik_1141 : Nat → Int32) => ((r_1129 = (-1152) → (wp_L_act E (fun (r_1143 : Int32) (gx_1144 : Nat → Int32) (lt_1145 : Option Nat) (mo_1146 : Int32) (ad_1147 : Nat) (ln_1148 : Int32) (PL_1149 : List Nat) (pf_1150 : Nat → va_E) (pw_1151 : Nat → Int64) (pk_1152 : Int32) (lw_1153 : Nat → Int64) (lk_1154 : Int32) (ik_1155 : Nat → Int32) => ((r_1143 = (-1151) → (wp_L_act E (fun (r_1157 : Int32) (gx_1158 : Nat → Int32) (lt_1159 : Option Nat) (mo_1160 : Int32) (ad_1161 : Nat) (ln_1162 : Int32) (PL_1163 : List Nat) (pf_1164 : Nat → va_E) (pw_1165 : Nat → Int64) (pk_1166 : Int32) (lw_1167 : Nat → Int64) (lk_1168 : Int32) (ik_1169 : Nat → Int32) => ((r_1157 = (-1151) → (wp_L_act E (fun (r_1171 : Int32) (gx_1172 : Nat → Int32) (lt_1173 : Option Nat) (mo_1174 : Int32) (ad_1175 : Nat) (ln_1176 : Int32) (PL_1177 : List Nat) (pf_1178 : Nat → va_E) (pw_1179 : Nat → Int64) (pk_1180 : Int32) (lw_1181 : Nat → Int64) (lk_1182 : Int32) (ik_1183 : Nat → Int32) => ((r_1171 = (-1152) → (wp_L_act E (fun (r_1185 : Int32) (gx_1186 : Nat → Int32) (lt_1187 : Option Nat) (mo_1188 : Int32) (ad_1189 : Nat) (ln_1190 : Int32) (PL_1191 : List Nat) (pf_1192 : Nat → va_E) (pw_1193 : Nat → Int64) (pk_1194 : Int32) (lw_1195 : Nat → Int64) (lk_1196 : Int32) (ik_1197 : Nat → Int32) => ((r_1185 = (-1151) → (wp_L_act E (fun (r_1199 : Int32) (gx_1200 : Nat → Int32) (lt_1201 : Option Nat) (mo_1202 : Int32) (ad_1203 : Nat) (ln_1204 : Int32) (PL_1205 : List Nat) (pf_1206 : Nat → va_E) (pw_1207 : Nat → Int64) (pk_1208 : Int32) (lw_1209 : Nat → Int64) (lk_1210 : Int32) (ik_1211 : Nat → Int32) => ((r_1199 = (-1151) → (wp_L_act E (fun (r_1213 : Int32) (gx_1214 : Nat → Int32) (lt_1215 : Option Nat) (mo_1216 : Int32) (ad_1217 : Nat) (ln_1218 : Int32) (PL_1219 : List Nat) (pf_1220 : Nat → va_E) (pw_1221 : Nat → Int64) (pk_1222 : Int32) (lw_1223 : Nat → Int64) (lk_1224 : Int32) (ik_1225 : Nat → Int32) => ((r_1213 = (-1151) → (wp_L_all E (fun r_1227 : Int64 => (((lg_cmp r_1227 r_1114) = 0 → post 1 gx_1214 lt_1215 mo_1216 ad_1217 ln_1218 PL_1219 pf_1220 pw_1221 pk_1222 lw_1223 lk_1224 ik_1225) ∧ (¬ (lg_cmp r_1227 r_1114) = 0 → False))) gx_1214 lt_1215 mo_1216 ad_1217 ln_1218 PL_1219 pf_1220 pw_1221 pk_1222 lw_1223 lk_1224 ik_1225)) ∧ (¬ (r_1213 = (-1151)) → False))) gx_1200 lt_1201 mo_1202 ad_1203 ln_1204 PL_1205 pf_1206 pw_1207 pk_1208 lw_1209 lk_1210 ik_1211 5 5 ((-1) - (p0 - p0 / 30 * 30)))) ∧ (¬ (r_1199 = (-1151)) → False))) gx_1186 lt_1187 mo_1188 ad_1189 ln_1190 PL_1191 pf_1192 pw_1193 pk_1194 lw_1195 lk_1196 ik_1197 5 ((-1) - (p0 - p0 / 30 * 30)) 5)) ∧ (¬ (r_1185 = (-1151)) → False))) gx_1172 lt_1173 mo_1174 ad_1175 ln_1176 PL_1177 pf_1178 pw_1179 pk_1180 lw_1181 lk_1182 ik_1183 4 ((-1) - (p0 - p0 / 30 * 30)) 0)) ∧ (¬ (r_1171 = (-1152)) → False))) gx_1158 lt_1159 mo_1160 ad_1161 ln_1162 PL_1163 pf_1164 pw_1165 pk_1166 lw_1167 lk_1168 ik_1169 3 ((p0 / 2) - (p0 / 2) / 3 * 3) (0 - (p0 - p0 / 30 * 30)))) ∧ (¬ (r_1157 = (-1151)) → False))) gx_1144 lt_1145 mo_1146 ad_1147 ln_1148 PL_1149 pf_1150 pw_1151 pk_1152 lw_1153 lk_1154 ik_1155 3 ((-1) - (p0 - p0 / 30 * 30)) 0)) ∧ (¬ (r_1143 = (-1151)) → False))) gx_1130 lt_1131 mo_1132 ad_1133 ln_1134 PL_1135 pf_1136 pw_1137 pk_1138 lw_1139 lk_1140 ik_1141 2 ((-1) - (p0 - p0 / 30 * 30)) 0)) ∧ (¬ (r_1129 = (-1152)) → False))) gx_1116 lt_1117 mo_1118 ad_1119 ln_1120 PL_1121 pf_1122 pw_1123 pk_1124 lw_1125 lk_1126 ik_1127 1 (0 - (p0 - p0 / 30 * 30)) 0)) ∧ (¬ (r_1115 = (-1152)) → False))) gx lt mo ad ln PL pf pw pk lw lk ik 0 ((-1) - (p0 - p0 / 30 * 30)) 0)) gx lt mo ad ln PL pf pw pk lw lk ik)) ∧ (¬ (p0 - p0 / 2 * 2) = 0 → (wp_L_all E (fun r_999 : Int64 => (wp_L_act E (fun (r_1000 : Int32) (gx_1001 : Nat → Int32) (lt_1002 : Option Nat) (mo_1003 : Int32) (ad_1004 : Nat) (ln_1005 : Int32) (PL_1006 : List Nat) (pf_1007 : Nat → va_E) (pw_1008 : Nat → Int64) (pk_1009 : Int32) (lw_1010 : Nat → Int64) (lk_1011 : Int32) (ik_1012 : Nat → Int32) => ((r_1000 = (-1152) → (wp_L_act E (fun (r_1014 : Int32) (gx_1015 : Nat → Int32) (lt_1016 : Option Nat) (mo_1017 : Int32) (ad_1018 : Nat) (ln_1019 : Int32) (PL_1020 : List Nat) (pf_1021 : Nat → va_E) (pw_1022 : Nat → Int64) (pk_1023 : Int32) (lw_1024 : Nat → Int64) (lk_1025 : Int32) (ik_1026 : Nat → Int32) => ((r_1014 = (-1152) → (wp_L_act E (fun (r_1028 : Int32) (gx_1029 : Nat → Int32) (lt_1030 : Option Nat) (mo_1031 : Int32) (ad_1032 : Nat) (ln_1033 : Int32) (PL_1034 : List Nat) (pf_1035 : Nat → va_E) (pw_1036 : Nat → Int64) (pk_1037 : Int32) (lw_1038 : Nat → Int64) (lk_1039 : Int32) (ik_1040 : Nat → Int32) => ((r_1028 = (-1151) → (wp_L_act E (fun (r_1042 : Int32) (gx_1043 : Nat → Int32) (lt_1044 : Option Nat) (mo_1045 : Int32) (ad_1046 : Nat) (ln_1047 : Int32) (PL_1048 : List Nat) (pf_1049 : Nat → va_E) (pw_1050 : Nat → Int64) (pk_1051 : Int32) (lw_1052 : Nat → Int64) (lk_1053 : Int32) (ik_1054 : Nat → Int32) => ((r_1042 = (-1151) → (wp_L_act E (fun (r_1056 : Int32) (gx_1057 : Nat → Int32) (lt_1058 : Option Nat) (mo_1059 : Int32) (ad_1060 : Nat) (ln_1061 : Int32) (PL_1062 : List Nat) (pf_1063 : Nat → va_E) (pw_1064 : Nat → Int64) (pk_1065 : Int32) (lw_1066 : Nat → Int64) (lk_1067 : Int32) (ik_1068 : Nat → Int32) => ((r_1056 = (-1152) → (wp_L_act E (fun (r_1070 : Int32) (gx_1071 : Nat → Int32) (lt_1072 : Option Nat) (mo_1073 : Int32) (ad_1074 : Nat) (ln_1075 : Int32) (PL_1076 : List Nat) (pf_1077 : Nat → va_E) (pw_1078 : Nat → Int64) (pk_1079 : Int32) (lw_1080 : Nat → Int64) (lk_1081 : Int32) (ik_1082 : Nat → Int32) => ((r_1070 = (-1151) → (wp_L_act E (fun (r_1084 : Int32) (gx_1085 : Nat → Int32) (lt_1086 : Option Nat) (mo_1087 : Int32) (ad_1088 : Nat) (ln_1089 : Int32) (PL_1090 : List Nat) (pf_1091 : Nat → va_E) (pw_1092 : Nat → Int64) (pk_1093 : Int32) (lw_1094 : Nat → Int64) (lk_1095 : Int32) (ik_1096 : Nat → Int32) => ((r_1084 = (-1151) → (wp_L_act E (fun (r_1098 : Int32) (gx_1099 : Nat → Int32) (lt_1100 : Option Nat) (mo_1101 : Int32) (ad_1102 : Nat) (ln_1103 : Int32) (PL_1104 : List Nat) (pf_1105 : Nat → va_E) (pw_1106 : Nat → Int64) (pk_1107 : Int32) (lw_1108 : Nat → Int64) (lk_1109 : Int32) (ik_1110 : Nat → Int32) => ((r_1098 = (-1151) → (wp_L_all E (fun r_1112 : Int64 => (((lg_cmp r_1112 r_999) = 0 → post 1 gx_1099 lt_1100 mo_1101 ad_1102 ln_1103 PL_1104 pf_1105 pw_1106 pk_1107 lw_1108 lk_1109 ik_1110) ∧ (¬ (lg_cmp r_1112 r_999) = 0 → False))) gx_1099 lt_1100 mo_1101 ad_1102 ln_1103 PL_1104 pf_1105 pw_1106 pk_1107 lw_1108 lk_1109 ik_1110)) ∧ (¬ (r_1098 = (-1151)) → False))) gx_1085 lt_1086 mo_1087 ad_1088 ln_1089 PL_1090 pf_1091 pw_1092 pk_1093 lw_1094 lk_1095 ik_1096 5 5 (100 + (p0 - p0 / 30 * 30)))) ∧ (¬ (r_1084 = (-1151)) → False))) gx_1071 lt_1072 mo_1073 ad_1074 ln_1075 PL_1076 pf_1077 pw_1078 pk_1079 lw_1080 lk_1081 ik_1082 5 (100 + (p0 - p0 / 30 * 30)) 5)) ∧ (¬ (r_1070 = (-1151)) → False))) gx_1057 lt_1058 mo_1059 ad_1060 ln_1061 PL_1062 pf_1063 pw_1064 pk_1065 lw_1066 lk_1067 ik_1068 4 (3 + (p0 - p0 / 30 * 30)) 0)) ∧ (¬ (r_1056 = (-1152)) → False))) gx_1043 lt_1044 mo_1045 ad_1046 ln_1047 PL_1048 pf_1049 pw_1050 pk_1051 lw_1052 lk_1053 ik_1054 3 ((p0 / 2) - (p0 / 2) / 3 * 3) 501)) ∧ (¬ (r_1042 = (-1151)) → False))) gx_1029 lt_1030 mo_1031 ad_1032 ln_1033 PL_1034 pf_1035 pw_1036 pk_1037 lw_1038 lk_1039 ik_1040 3 (3 + (p0 - p0 / 30 * 30)) 0)) ∧ (¬ (r_1028 = (-1151)) → False))) gx_1015 lt_1016 mo_1017 ad_1018 ln_1019 PL_1020 pf_1021 pw_1022 pk_1023 lw_1024 lk_1025 ik_1026 2 (3 + (p0 - p0 / 30 * 30)) 0)) ∧ (¬ (r_1014 = (-1152)) → False))) gx_1001 lt_1002 mo_1003 ad_1004 ln_1005 PL_1006 pf_1007 pw_1008 pk_1009 lw_1010 lk_1011 ik_1012 1 1001 0)) ∧ (¬ (r_1000 = (-1152)) → False))) gx lt mo ad ln PL pf pw pk lw lk ik 0 (256 + (p0 - p0 / 30 * 30)) 0)) gx lt mo ad ln PL pf pw pk lw lk ik)))
set_option maxHeartbeats 4000000 in
set_option maxRecDepth 100000 in
theorem c_L_isRefused (E : EV) (l : Launch) (ax : Nat → Nat) (gx : Nat → Int32) (lt : Option Nat) (mo : Int32) (ad : Nat) (ln : Int32) (PL : List Nat) (pf : Nat → va_E) (pw : Nat → Int64) (pk : Int32) (lw : Nat → Int64) (lk : Int32) (ik : Nat → Int32) (p0 : Int32) (hz : Nat) (post : Int32 → (Nat → Int32) → Option Nat → Int32 → Nat → Int32 → List Nat → (Nat → va_E) → (Nat → Int64) → Int32 → (Nat → Int64) → Int32 → (Nat → Int32) → Prop) (hw : wp_L_isRefused E post gx lt mo ad ln PL pf pw pk lw lk ik p0) (hst : l.stackTraces = false) : Met l yL_isRefused (Cond.code yL_isRefused cL_isRefused 8 (some .boolean) :: ALLW) ({ frames := 13, cells := 72, slots := 2304, locals := 279 } : Room) (va_Pc [.ref (ax 0), .int p0] (preM E (wX E ax gx lt mo ad ln PL pf pw pk lw lk ik) hz)) (va_Qi (fun (r : Int32) (u : (Nat → Int32) × Option Nat × Int32 × Nat × Int32 × List Nat × (Nat → va_E) × (Nat → Int64) × Int32 × (Nat → Int64) × Int32 × (Nat → Int32)) => post r u.1 u.2.1 u.2.2.1 u.2.2.2.1 u.2.2.2.2.1 u.2.2.2.2.2.1 u.2.2.2.2.2.2.1 u.2.2.2.2.2.2.2.1 u.2.2.2.2.2.2.2.2.1 u.2.2.2.2.2.2.2.2.2.1 u.2.2.2.2.2.2.2.2.2.2.1 u.2.2.2.2.2.2.2.2.2.2.2) (fun (u : (Nat → Int32) × Option Nat × Int32 × Nat × Int32 × List Nat × (Nat → va_E) × (Nat → Int64) × Int32 × (Nat → Int64) × Int32 × (Nat → Int32)) t => va_P (eD E) vwCl (wX E ax u.1 u.2.1 u.2.2.1 u.2.2.2.1 u.2.2.2.2.1 u.2.2.2.2.2.1 u.2.2.2.2.2.2.1 u.2.2.2.2.2.2.2.1 u.2.2.2.2.2.2.2.2.1 u.2.2.2.2.2.2.2.2.2.1 u.2.2.2.2.2.2.2.2.2.2.1 u.2.2.2.2.2.2.2.2.2.2.2) t.heap ∧ va_D (va_A (wX E ax gx lt mo ad ln PL pf pw pk lw lk ik) hz) (wX E ax u.1 u.2.1 u.2.2.1 u.2.2.2.1 u.2.2.2.2.1 u.2.2.2.2.2.1 u.2.2.2.2.2.2.1 u.2.2.2.2.2.2.2.1 u.2.2.2.2.2.2.2.2.1 u.2.2.2.2.2.2.2.2.2.1 u.2.2.2.2.2.2.2.2.2.2.1 u.2.2.2.2.2.2.2.2.2.2.2)) (va_A (wX E ax gx lt mo ad ln PL pf pw pk lw lk ik) hz)) 72 2304 (va_A (wX E ax gx lt mo ad ln PL pf pw pk lw lk ik) hz) := by
  refine Met.ofW (cc := cL_isRefused) (maxL := 8) (ret := (some .boolean)) (by decide) rfl ?_
  intro p e s m args below meth c s₁ B hml hv
  obtain ⟨rfl, hpre⟩ := hv
  have hx := B.exec
  have hb := B.bytes
  have hr := B.returns
  have hlocks := B.notSynchronized
  have hts := atoms_spec (ws := (Cond.code yL_isRefused cL_isRefused 8 (some .boolean) :: ALLW)) B.pre
  have hta : ∀ w ∈ ALLW, w.before ([.ref (ax 0), .int p0] : List Value).toArray s = true := fun w h => hts w (List.mem_cons_of_mem _ h)
  have hown : s.vm.findClass RL = some m.cls := findClass_of_methodNamed B.named
  obtain ⟨hsz, hP, hKE, hD0, hZ⟩ := hpre
  subst hsz
  have hD := hD0.self (sz := s.heap.size)
  generalize hAe : va_A (wX E ax gx lt mo ad ln PL pf pw pk lw lk ik) s.heap.size = A at hD hZ ⊢
  have hA : ∀ q : Nat, s.heap.size ≤ q → A q := fun q h => by rw [← hAe]; exact Or.inr h
  have hS : va_S A s.heap s.heap [] := va_S.rf
  have hP : va_P (eD E) vwCl ([((ax 0), .inr (3, [.ref (ax 1), .ref (ax 2), .ref (ax 4), .ref (ax 6), .int (gx 4), .int (gx 5), .int (gx 6), .int (gx 7), va_rf lt, .int (gx 9), .int (gx 10), .int (gx 11), .int (gx 12), .int (gx 13), .int (gx 14), .int (gx 15), .int (gx 16), .int (gx 17), .int (gx 18)])), ((ax 1), .inr (0, [.int mo, .ref ad, .int ln])), ((ax 2), .inr (2, [.ref (ax 3), .int pk])), ((ax 3), .inl (eC E 1, 157, .inr (.inl pw))), ((ax 4), .inr (2, [.ref (ax 5), .int lk])), ((ax 5), .inl (eC E 1, 157, .inr (.inl lw))), ((ax 6), .inl (eC E 0, 3, .inl ik))] ++ va_pl PL pf) s.heap := hP
  have hD : va_D A ([((ax 0), .inr (3, [.ref (ax 1), .ref (ax 2), .ref (ax 4), .ref (ax 6), .int (gx 4), .int (gx 5), .int (gx 6), .int (gx 7), va_rf lt, .int (gx 9), .int (gx 10), .int (gx 11), .int (gx 12), .int (gx 13), .int (gx 14), .int (gx 15), .int (gx 16), .int (gx 17), .int (gx 18)])), ((ax 1), .inr (0, [.int mo, .ref ad, .int ln])), ((ax 2), .inr (2, [.ref (ax 3), .int pk])), ((ax 3), .inl (eC E 1, 157, .inr (.inl pw))), ((ax 4), .inr (2, [.ref (ax 5), .int lk])), ((ax 5), .inl (eC E 1, 157, .inr (.inl lw))), ((ax 6), .inl (eC E 0, 3, .inl ik))] ++ va_pl PL pf) := hD
  have hl := lv_entry ([.ref (ax 0), .int p0]) (n := 8) (Nat.le_of_ble_eq_true rfl)
  rw [lg_entry_eq]
  generalize (lg_sl ([.ref (ax 0), .int p0]) ++ List.replicate (8 - (lg_sl ([.ref (ax 0), .int p0])).length) Slot.unset).toArray = ls at hl ⊢
  have hl : lv_has ls 8 [(0, .ref (ax 0)), (1, .int p0)] := hl
  unfold wp_L_isRefused at hw
  refine lv_iload_n hx hb dL_isRefused_0 rfl (lv_at hl 1 rfl) ?_
  refine lv_iconst (v := 2) hx hb dL_isRefused_1 (by decide) ?_
  refine lv_irem hx hb dL_isRefused_2 (by decide) ?_
  refine lv_if_ne (tgt := 10) hx hb dL_isRefused_3 (by decide) (fun c_998 => ?_) (fun c_998 => ?_)
  · have hw := hw.2 c_998
    refine lv_iconst (v := 0) hx hb dL_isRefused_10 (by decide) ?_
    refine lv_istore_n (lv' := [(2, .int 0), (0, .ref (ax 0)), (1, .int p0)]) hx hb dL_isRefused_11 rfl hl (by decide) rfl (fun ls hl => ?_)
    refine lv_iload_n hx hb dL_isRefused_12 rfl (lv_at hl 0 rfl) ?_
    refine lv_if_eq (tgt := 25) hx hb dL_isRefused_13 (by decide) (fun _ => ?_) (fun c9 => absurd (by decide) c9)
    refine lv_iconst (v := 3) hx hb dL_isRefused_25 (by decide) ?_
    refine lv_iload_n hx hb dL_isRefused_26 rfl (lv_at hl 2 rfl) ?_
    refine lv_bipush (v := 30) hx hb dL_isRefused_27 (by decide) ?_
    refine lv_irem hx hb dL_isRefused_29 (by decide) ?_
    refine lv_iadd hx hb dL_isRefused_30 ?_
    refine lv_istore_n (lv' := [(3, .int (3 + (p0 - p0 / 30 * 30))), (2, .int 0), (0, .ref (ax 0)), (1, .int p0)]) hx hb dL_isRefused_31 rfl hl (by decide) rfl (fun ls hl => ?_)
    refine lv_iload_n hx hb dL_isRefused_32 rfl (lv_at hl 1 rfl) ?_
    refine lv_if_eq (tgt := 45) hx hb dL_isRefused_33 (by decide) (fun _ => ?_) (fun c9 => absurd (by decide) c9)
    refine lv_bipush (v := 100) hx hb dL_isRefused_45 (by decide) ?_
    refine lv_iload_n hx hb dL_isRefused_47 rfl (lv_at hl 3 rfl) ?_
    refine lv_bipush (v := 30) hx hb dL_isRefused_48 (by decide) ?_
    refine lv_irem hx hb dL_isRefused_50 (by decide) ?_
    refine lv_iadd hx hb dL_isRefused_51 ?_
    refine lv_istore (lv' := [(4, .int (100 + (p0 - p0 / 30 * 30))), (3, .int (3 + (p0 - p0 / 30 * 30))), (2, .int 0), (0, .ref (ax 0)), (1, .int p0)]) hx hb dL_isRefused_52 hl (by decide) rfl (fun ls hl => ?_)
    refine lv_aload_n hx hb dL_isRefused_54 rfl (lv_at hl 3 rfl) ?_
    have hPc : va_P (eD E) vwCl (wX E ax gx lt mo ad ln PL pf pw pk lw lk ik) s.heap := hP
    refine vp_callSl (va_Run.run (va_runS (As := [.ref (ax 0)]) (rest := []) ⟨hx, hb, hml, hown, hta⟩ (c_L_all E l ax gx lt mo ad ln PL pf pw pk lw lk ik _ hw) (pcS (n := 1) hta tw_548 tw_546 tw_0 tw_547 rfl rfl hd_L_all ⟨Nat.le_of_ble_eq_true rfl, Nat.le_of_ble_eq_true rfl⟩) ⟨fbR, fun U hU hW => ⟨rfl, preR.mk hPc hKE hU hW⟩⟩ rfl rfl hl.1 rfl (lv_room (Nat.le_of_ble_eq_true rfl)) dL_isRefused_55 ⟨Nat.le_of_ble_eq_true rfl, Nat.le_of_ble_eq_true rfl⟩)) (fun r_999 hw => ?_)
    refine lv_lstore (lv' := [(5, .long r_999), (4, .int (100 + (p0 - p0 / 30 * 30))), (3, .int (3 + (p0 - p0 / 30 * 30))), (2, .int 0), (0, .ref (ax 0)), (1, .int p0)]) hx hb dL_isRefused_58 hl (by decide) rfl (fun ls hl => ?_)
    refine lv_aload_n hx hb dL_isRefused_60 rfl (lv_at hl 4 rfl) ?_
    refine lv_iconst (v := 0) hx hb dL_isRefused_61 (by decide) ?_
    refine lv_iload_n hx hb dL_isRefused_62 rfl (lv_at hl 3 rfl) ?_
    refine lv_if_eq (tgt := 75) hx hb dL_isRefused_63 (by decide) (fun _ => ?_) (fun c9 => absurd (by decide) c9)
    refine lv_sipush (v := 256) hx hb dL_isRefused_75 (by decide) ?_
    refine lv_iload_n hx hb dL_isRefused_78 rfl (lv_at hl 5 rfl) ?_
    refine lv_bipush (v := 30) hx hb dL_isRefused_79 (by decide) ?_
    refine lv_irem hx hb dL_isRefused_81 (by decide) ?_
    refine lv_iadd hx hb dL_isRefused_82 ?_
    refine lv_iconst (v := 0) hx hb dL_isRefused_83 (by decide) ?_
    have hPc : va_P (eD E) vwCl (wX E ax gx lt mo ad ln PL pf pw pk lw lk ik) s.heap := hP
    have hDc : va_D A (wX E ax gx lt mo ad ln PL pf pw pk lw lk ik) := hD
    have hFc : ∀ q, va_A (wX E ax gx lt mo ad ln PL pf pw pk lw lk ik) s.heap.size q → A q := frS hDc hS hA
    refine va_calli (vx_runSW (As := [.ref (ax 0), .int 0, .int (256 + (p0 - p0 / 30 * 30)), .int 0]) (rest := []) ⟨hx, hb, hml, hown, hta⟩ (c_L_act E l ax gx lt mo ad ln PL pf pw pk lw lk ik 0 (256 + (p0 - p0 / 30 * 30)) 0 s.heap.size _ hw hst) (pcSW (n := 4) hta tw_231 tw_229 tw_0 tw_230 rfl rfl hd_L_act ⟨Nat.le_of_ble_eq_true rfl, Nat.le_of_ble_eq_true rfl⟩) ⟨fbM, fun U hU hW => ⟨rfl, preM.mk hPc hKE hDc hZ hS hFc hU hW⟩⟩ rfl rfl hl.1 rfl (lv_room (Nat.le_of_ble_eq_true rfl)) dL_isRefused_84 ⟨Nat.le_of_ble_eq_true rfl, Nat.le_of_ble_eq_true rfl⟩) hS (fun q _ h => hFc q h) hFc (fun r_1000 u t H locs ht hvm hw hB hz1 hk1 hS => ?_)
    obtain ⟨gx_1001, lt_1002, mo_1003, ad_1004, ln_1005, PL_1006, pf_1007, pw_1008, pk_1009, lw_1010, lk_1011, ik_1012⟩ := u
    obtain ⟨hP1, hD1⟩ := hB
    rw [ht] at hP1
    try dsimp only at hw hP1 hD1
    have hP : va_P (eD E) vwCl ([((ax 0), .inr (3, [.ref (ax 1), .ref (ax 2), .ref (ax 4), .ref (ax 6), .int (gx_1001 4), .int (gx_1001 5), .int (gx_1001 6), .int (gx_1001 7), va_rf lt_1002, .int (gx_1001 9), .int (gx_1001 10), .int (gx_1001 11), .int (gx_1001 12), .int (gx_1001 13), .int (gx_1001 14), .int (gx_1001 15), .int (gx_1001 16), .int (gx_1001 17), .int (gx_1001 18)])), ((ax 1), .inr (0, [.int mo_1003, .ref ad_1004, .int ln_1005])), ((ax 2), .inr (2, [.ref (ax 3), .int pk_1009])), ((ax 3), .inl (eC E 1, 157, .inr (.inl pw_1008))), ((ax 4), .inr (2, [.ref (ax 5), .int lk_1011])), ((ax 5), .inl (eC E 1, 157, .inr (.inl lw_1010))), ((ax 6), .inl (eC E 0, 3, .inl ik_1012))] ++ va_pl PL_1006 pf_1007) H := hP1
    have hD : va_D A ([((ax 0), .inr (3, [.ref (ax 1), .ref (ax 2), .ref (ax 4), .ref (ax 6), .int (gx_1001 4), .int (gx_1001 5), .int (gx_1001 6), .int (gx_1001 7), va_rf lt_1002, .int (gx_1001 9), .int (gx_1001 10), .int (gx_1001 11), .int (gx_1001 12), .int (gx_1001 13), .int (gx_1001 14), .int (gx_1001 15), .int (gx_1001 16), .int (gx_1001 17), .int (gx_1001 18)])), ((ax 1), .inr (0, [.int mo_1003, .ref ad_1004, .int ln_1005])), ((ax 2), .inr (2, [.ref (ax 3), .int pk_1009])), ((ax 3), .inl (eC E 1, 157, .inr (.inl pw_1008))), ((ax 4), .inr (2, [.ref (ax 5), .int lk_1011])), ((ax 5), .inl (eC E 1, 157, .inr (.inl lw_1010))), ((ax 6), .inl (eC E 0, 3, .inl ik_1012))] ++ va_pl PL_1006 pf_1007) := hD1.weaken (fun _ q _ h => hFc q.1 h)
    refine lv_sipush (v := (-1152)) hx hb dL_isRefused_87 (by decide) ?_
    refine lv_icmp_ne (tgt := 224) hx hb dL_isRefused_90 (by decide) (fun c_1013 => ?_) (fun c_1013 => ?_)
    · have hw := hw.2 c_1013
      exact hw.elim
    · have hw := hw.1 c_1013
      refine lv_aload_n hx hb dL_isRefused_93 rfl (lv_at hl 4 rfl) ?_
      refine lv_iconst (v := 1) hx hb dL_isRefused_94 (by decide) ?_
      refine lv_iload_n hx hb dL_isRefused_95 rfl (lv_at hl 3 rfl) ?_
      refine lv_if_eq (tgt := 108) hx hb dL_isRefused_96 (by decide) (fun _ => ?_) (fun c9 => absurd (by decide) c9)
      refine lv_sipush (v := 1001) hx hb dL_isRefused_108 (by decide) ?_
      refine lv_iconst (v := 0) hx hb dL_isRefused_111 (by decide) ?_
      have hPc : va_P (eD E) vwCl (wX E ax gx_1001 lt_1002 mo_1003 ad_1004 ln_1005 PL_1006 pf_1007 pw_1008 pk_1009 lw_1010 lk_1011 ik_1012) H := hP
      have hDc : va_D A (wX E ax gx_1001 lt_1002 mo_1003 ad_1004 ln_1005 PL_1006 pf_1007 pw_1008 pk_1009 lw_1010 lk_1011 ik_1012) := hD
      have hFc : ∀ q, va_A (wX E ax gx_1001 lt_1002 mo_1003 ad_1004 ln_1005 PL_1006 pf_1007 pw_1008 pk_1009 lw_1010 lk_1011 ik_1012) H.size q → A q := frS hDc hS hA
      refine va_calli (vx_runSW (As := [.ref (ax 0), .int 1, .int 1001, .int 0]) (rest := []) ⟨hx, hb, hml, hown, hta⟩ (c_L_act E l ax gx_1001 lt_1002 mo_1003 ad_1004 ln_1005 PL_1006 pf_1007 pw_1008 pk_1009 lw_1010 lk_1011 ik_1012 1 1001 0 H.size _ hw hst) (pcSW (n := 4) hta tw_231 tw_229 tw_0 tw_230 rfl rfl hd_L_act ⟨Nat.le_of_ble_eq_true rfl, Nat.le_of_ble_eq_true rfl⟩) ⟨fbM, fun U hU hW => ⟨rfl, preM.mk hPc hKE hDc hZ hS hFc hU hW⟩⟩ rfl rfl hl.1 rfl (lv_room (Nat.le_of_ble_eq_true rfl)) dL_isRefused_112 ⟨Nat.le_of_ble_eq_true rfl, Nat.le_of_ble_eq_true rfl⟩) hS (fun q _ h => hFc q h) hFc (fun r_1014 u t H locs ht hvm hw hB hz1 hk1 hS => ?_)
      obtain ⟨gx_1015, lt_1016, mo_1017, ad_1018, ln_1019, PL_1020, pf_1021, pw_1022, pk_1023, lw_1024, lk_1025, ik_1026⟩ := u
      obtain ⟨hP1, hD1⟩ := hB
      rw [ht] at hP1
      try dsimp only at hw hP1 hD1
      have hP : va_P (eD E) vwCl ([((ax 0), .inr (3, [.ref (ax 1), .ref (ax 2), .ref (ax 4), .ref (ax 6), .int (gx_1015 4), .int (gx_1015 5), .int (gx_1015 6), .int (gx_1015 7), va_rf lt_1016, .int (gx_1015 9), .int (gx_1015 10), .int (gx_1015 11), .int (gx_1015 12), .int (gx_1015 13), .int (gx_1015 14), .int (gx_1015 15), .int (gx_1015 16), .int (gx_1015 17), .int (gx_1015 18)])), ((ax 1), .inr (0, [.int mo_1017, .ref ad_1018, .int ln_1019])), ((ax 2), .inr (2, [.ref (ax 3), .int pk_1023])), ((ax 3), .inl (eC E 1, 157, .inr (.inl pw_1022))), ((ax 4), .inr (2, [.ref (ax 5), .int lk_1025])), ((ax 5), .inl (eC E 1, 157, .inr (.inl lw_1024))), ((ax 6), .inl (eC E 0, 3, .inl ik_1026))] ++ va_pl PL_1020 pf_1021) H := hP1
      have hD : va_D A ([((ax 0), .inr (3, [.ref (ax 1), .ref (ax 2), .ref (ax 4), .ref (ax 6), .int (gx_1015 4), .int (gx_1015 5), .int (gx_1015 6), .int (gx_1015 7), va_rf lt_1016, .int (gx_1015 9), .int (gx_1015 10), .int (gx_1015 11), .int (gx_1015 12), .int (gx_1015 13), .int (gx_1015 14), .int (gx_1015 15), .int (gx_1015 16), .int (gx_1015 17), .int (gx_1015 18)])), ((ax 1), .inr (0, [.int mo_1017, .ref ad_1018, .int ln_1019])), ((ax 2), .inr (2, [.ref (ax 3), .int pk_1023])), ((ax 3), .inl (eC E 1, 157, .inr (.inl pw_1022))), ((ax 4), .inr (2, [.ref (ax 5), .int lk_1025])), ((ax 5), .inl (eC E 1, 157, .inr (.inl lw_1024))), ((ax 6), .inl (eC E 0, 3, .inl ik_1026))] ++ va_pl PL_1020 pf_1021) := hD1.weaken (fun _ q _ h => hFc q.1 h)
      refine lv_sipush (v := (-1152)) hx hb dL_isRefused_115 (by decide) ?_
      refine lv_icmp_ne (tgt := 224) hx hb dL_isRefused_118 (by decide) (fun c_1027 => ?_) (fun c_1027 => ?_)
      · have hw := hw.2 c_1027
        exact hw.elim
      · have hw := hw.1 c_1027
        refine lv_aload_n hx hb dL_isRefused_121 rfl (lv_at hl 4 rfl) ?_
        refine lv_iconst (v := 2) hx hb dL_isRefused_122 (by decide) ?_
        refine lv_iload_n hx hb dL_isRefused_123 rfl (lv_at hl 2 rfl) ?_
        refine lv_iconst (v := 0) hx hb dL_isRefused_124 (by decide) ?_
        have hPc : va_P (eD E) vwCl (wX E ax gx_1015 lt_1016 mo_1017 ad_1018 ln_1019 PL_1020 pf_1021 pw_1022 pk_1023 lw_1024 lk_1025 ik_1026) H := hP
        have hDc : va_D A (wX E ax gx_1015 lt_1016 mo_1017 ad_1018 ln_1019 PL_1020 pf_1021 pw_1022 pk_1023 lw_1024 lk_1025 ik_1026) := hD
        have hFc : ∀ q, va_A (wX E ax gx_1015 lt_1016 mo_1017 ad_1018 ln_1019 PL_1020 pf_1021 pw_1022 pk_1023 lw_1024 lk_1025 ik_1026) H.size q → A q := frS hDc hS hA
        refine va_calli (vx_runSW (As := [.ref (ax 0), .int 2, .int (3 + (p0 - p0 / 30 * 30)), .int 0]) (rest := []) ⟨hx, hb, hml, hown, hta⟩ (c_L_act E l ax gx_1015 lt_1016 mo_1017 ad_1018 ln_1019 PL_1020 pf_1021 pw_1022 pk_1023 lw_1024 lk_1025 ik_1026 2 (3 + (p0 - p0 / 30 * 30)) 0 H.size _ hw hst) (pcSW (n := 4) hta tw_231 tw_229 tw_0 tw_230 rfl rfl hd_L_act ⟨Nat.le_of_ble_eq_true rfl, Nat.le_of_ble_eq_true rfl⟩) ⟨fbM, fun U hU hW => ⟨rfl, preM.mk hPc hKE hDc hZ hS hFc hU hW⟩⟩ rfl rfl hl.1 rfl (lv_room (Nat.le_of_ble_eq_true rfl)) dL_isRefused_125 ⟨Nat.le_of_ble_eq_true rfl, Nat.le_of_ble_eq_true rfl⟩) hS (fun q _ h => hFc q h) hFc (fun r_1028 u t H locs ht hvm hw hB hz1 hk1 hS => ?_)
        obtain ⟨gx_1029, lt_1030, mo_1031, ad_1032, ln_1033, PL_1034, pf_1035, pw_1036, pk_1037, lw_1038, lk_1039, ik_1040⟩ := u
        obtain ⟨hP1, hD1⟩ := hB
        rw [ht] at hP1
        try dsimp only at hw hP1 hD1
        have hP : va_P (eD E) vwCl ([((ax 0), .inr (3, [.ref (ax 1), .ref (ax 2), .ref (ax 4), .ref (ax 6), .int (gx_1029 4), .int (gx_1029 5), .int (gx_1029 6), .int (gx_1029 7), va_rf lt_1030, .int (gx_1029 9), .int (gx_1029 10), .int (gx_1029 11), .int (gx_1029 12), .int (gx_1029 13), .int (gx_1029 14), .int (gx_1029 15), .int (gx_1029 16), .int (gx_1029 17), .int (gx_1029 18)])), ((ax 1), .inr (0, [.int mo_1031, .ref ad_1032, .int ln_1033])), ((ax 2), .inr (2, [.ref (ax 3), .int pk_1037])), ((ax 3), .inl (eC E 1, 157, .inr (.inl pw_1036))), ((ax 4), .inr (2, [.ref (ax 5), .int lk_1039])), ((ax 5), .inl (eC E 1, 157, .inr (.inl lw_1038))), ((ax 6), .inl (eC E 0, 3, .inl ik_1040))] ++ va_pl PL_1034 pf_1035) H := hP1
        have hD : va_D A ([((ax 0), .inr (3, [.ref (ax 1), .ref (ax 2), .ref (ax 4), .ref (ax 6), .int (gx_1029 4), .int (gx_1029 5), .int (gx_1029 6), .int (gx_1029 7), va_rf lt_1030, .int (gx_1029 9), .int (gx_1029 10), .int (gx_1029 11), .int (gx_1029 12), .int (gx_1029 13), .int (gx_1029 14), .int (gx_1029 15), .int (gx_1029 16), .int (gx_1029 17), .int (gx_1029 18)])), ((ax 1), .inr (0, [.int mo_1031, .ref ad_1032, .int ln_1033])), ((ax 2), .inr (2, [.ref (ax 3), .int pk_1037])), ((ax 3), .inl (eC E 1, 157, .inr (.inl pw_1036))), ((ax 4), .inr (2, [.ref (ax 5), .int lk_1039])), ((ax 5), .inl (eC E 1, 157, .inr (.inl lw_1038))), ((ax 6), .inl (eC E 0, 3, .inl ik_1040))] ++ va_pl PL_1034 pf_1035) := hD1.weaken (fun _ q _ h => hFc q.1 h)
        refine lv_sipush (v := (-1151)) hx hb dL_isRefused_128 (by decide) ?_
        refine lv_icmp_ne (tgt := 224) hx hb dL_isRefused_131 (by decide) (fun c_1041 => ?_) (fun c_1041 => ?_)
        · have hw := hw.2 c_1041
          exact hw.elim
        · have hw := hw.1 c_1041
          refine lv_aload_n hx hb dL_isRefused_134 rfl (lv_at hl 4 rfl) ?_
          refine lv_iconst (v := 3) hx hb dL_isRefused_135 (by decide) ?_
          refine lv_iload_n hx hb dL_isRefused_136 rfl (lv_at hl 2 rfl) ?_
          refine lv_iconst (v := 0) hx hb dL_isRefused_137 (by decide) ?_
          have hPc : va_P (eD E) vwCl (wX E ax gx_1029 lt_1030 mo_1031 ad_1032 ln_1033 PL_1034 pf_1035 pw_1036 pk_1037 lw_1038 lk_1039 ik_1040) H := hP
          have hDc : va_D A (wX E ax gx_1029 lt_1030 mo_1031 ad_1032 ln_1033 PL_1034 pf_1035 pw_1036 pk_1037 lw_1038 lk_1039 ik_1040) := hD
          have hFc : ∀ q, va_A (wX E ax gx_1029 lt_1030 mo_1031 ad_1032 ln_1033 PL_1034 pf_1035 pw_1036 pk_1037 lw_1038 lk_1039 ik_1040) H.size q → A q := frS hDc hS hA
          refine va_calli (vx_runSW (As := [.ref (ax 0), .int 3, .int (3 + (p0 - p0 / 30 * 30)), .int 0]) (rest := []) ⟨hx, hb, hml, hown, hta⟩ (c_L_act E l ax gx_1029 lt_1030 mo_1031 ad_1032 ln_1033 PL_1034 pf_1035 pw_1036 pk_1037 lw_1038 lk_1039 ik_1040 3 (3 + (p0 - p0 / 30 * 30)) 0 H.size _ hw hst) (pcSW (n := 4) hta tw_231 tw_229 tw_0 tw_230 rfl rfl hd_L_act ⟨Nat.le_of_ble_eq_true rfl, Nat.le_of_ble_eq_true rfl⟩) ⟨fbM, fun U hU hW => ⟨rfl, preM.mk hPc hKE hDc hZ hS hFc hU hW⟩⟩ rfl rfl hl.1 rfl (lv_room (Nat.le_of_ble_eq_true rfl)) dL_isRefused_138 ⟨Nat.le_of_ble_eq_true rfl, Nat.le_of_ble_eq_true rfl⟩) hS (fun q _ h => hFc q h) hFc (fun r_1042 u t H locs ht hvm hw hB hz1 hk1 hS => ?_)
          obtain ⟨gx_1043, lt_1044, mo_1045, ad_1046, ln_1047, PL_1048, pf_1049, pw_1050, pk_1051, lw_1052, lk_1053, ik_1054⟩ := u
          obtain ⟨hP1, hD1⟩ := hB
          rw [ht] at hP1
          try dsimp only at hw hP1 hD1
          have hP : va_P (eD E) vwCl ([((ax 0), .inr (3, [.ref (ax 1), .ref (ax 2), .ref (ax 4), .ref (ax 6), .int (gx_1043 4), .int (gx_1043 5), .int (gx_1043 6), .int (gx_1043 7), va_rf lt_1044, .int (gx_1043 9), .int (gx_1043 10), .int (gx_1043 11), .int (gx_1043 12), .int (gx_1043 13), .int (gx_1043 14), .int (gx_1043 15), .int (gx_1043 16), .int (gx_1043 17), .int (gx_1043 18)])), ((ax 1), .inr (0, [.int mo_1045, .ref ad_1046, .int ln_1047])), ((ax 2), .inr (2, [.ref (ax 3), .int pk_1051])), ((ax 3), .inl (eC E 1, 157, .inr (.inl pw_1050))), ((ax 4), .inr (2, [.ref (ax 5), .int lk_1053])), ((ax 5), .inl (eC E 1, 157, .inr (.inl lw_1052))), ((ax 6), .inl (eC E 0, 3, .inl ik_1054))] ++ va_pl PL_1048 pf_1049) H := hP1
          have hD : va_D A ([((ax 0), .inr (3, [.ref (ax 1), .ref (ax 2), .ref (ax 4), .ref (ax 6), .int (gx_1043 4), .int (gx_1043 5), .int (gx_1043 6), .int (gx_1043 7), va_rf lt_1044, .int (gx_1043 9), .int (gx_1043 10), .int (gx_1043 11), .int (gx_1043 12), .int (gx_1043 13), .int (gx_1043 14), .int (gx_1043 15), .int (gx_1043 16), .int (gx_1043 17), .int (gx_1043 18)])), ((ax 1), .inr (0, [.int mo_1045, .ref ad_1046, .int ln_1047])), ((ax 2), .inr (2, [.ref (ax 3), .int pk_1051])), ((ax 3), .inl (eC E 1, 157, .inr (.inl pw_1050))), ((ax 4), .inr (2, [.ref (ax 5), .int lk_1053])), ((ax 5), .inl (eC E 1, 157, .inr (.inl lw_1052))), ((ax 6), .inl (eC E 0, 3, .inl ik_1054))] ++ va_pl PL_1048 pf_1049) := hD1.weaken (fun _ q _ h => hFc q.1 h)
          refine lv_sipush (v := (-1151)) hx hb dL_isRefused_141 (by decide) ?_
          refine lv_icmp_ne (tgt := 224) hx hb dL_isRefused_144 (by decide) (fun c_1055 => ?_) (fun c_1055 => ?_)
          · have hw := hw.2 c_1055
            exact hw.elim
          · have hw := hw.1 c_1055
            refine lv_aload_n hx hb dL_isRefused_147 rfl (lv_at hl 4 rfl) ?_
            refine lv_iconst (v := 3) hx hb dL_isRefused_148 (by decide) ?_
            refine lv_iload_n hx hb dL_isRefused_149 rfl (lv_at hl 5 rfl) ?_
            refine lv_iconst (v := 2) hx hb dL_isRefused_150 (by decide) ?_
            refine lv_idiv hx hb dL_isRefused_151 (by decide) ?_
            refine lv_iconst (v := 3) hx hb dL_isRefused_152 (by decide) ?_
            refine lv_irem hx hb dL_isRefused_153 (by decide) ?_
            refine lv_iload_n hx hb dL_isRefused_154 rfl (lv_at hl 3 rfl) ?_
            refine lv_if_eq (tgt := 167) hx hb dL_isRefused_155 (by decide) (fun _ => ?_) (fun c9 => absurd (by decide) c9)
            refine lv_sipush (v := 501) hx hb dL_isRefused_167 (by decide) ?_
            have hPc : va_P (eD E) vwCl (wX E ax gx_1043 lt_1044 mo_1045 ad_1046 ln_1047 PL_1048 pf_1049 pw_1050 pk_1051 lw_1052 lk_1053 ik_1054) H := hP
            have hDc : va_D A (wX E ax gx_1043 lt_1044 mo_1045 ad_1046 ln_1047 PL_1048 pf_1049 pw_1050 pk_1051 lw_1052 lk_1053 ik_1054) := hD
            have hFc : ∀ q, va_A (wX E ax gx_1043 lt_1044 mo_1045 ad_1046 ln_1047 PL_1048 pf_1049 pw_1050 pk_1051 lw_1052 lk_1053 ik_1054) H.size q → A q := frS hDc hS hA
            refine va_calli (vx_runSW (As := [.ref (ax 0), .int 3, .int ((p0 / 2) - (p0 / 2) / 3 * 3), .int 501]) (rest := []) ⟨hx, hb, hml, hown, hta⟩ (c_L_act E l ax gx_1043 lt_1044 mo_1045 ad_1046 ln_1047 PL_1048 pf_1049 pw_1050 pk_1051 lw_1052 lk_1053 ik_1054 3 ((p0 / 2) - (p0 / 2) / 3 * 3) 501 H.size _ hw hst) (pcSW (n := 4) hta tw_231 tw_229 tw_0 tw_230 rfl rfl hd_L_act ⟨Nat.le_of_ble_eq_true rfl, Nat.le_of_ble_eq_true rfl⟩) ⟨fbM, fun U hU hW => ⟨rfl, preM.mk hPc hKE hDc hZ hS hFc hU hW⟩⟩ rfl rfl hl.1 rfl (lv_room (Nat.le_of_ble_eq_true rfl)) dL_isRefused_170 ⟨Nat.le_of_ble_eq_true rfl, Nat.le_of_ble_eq_true rfl⟩) hS (fun q _ h => hFc q h) hFc (fun r_1056 u t H locs ht hvm hw hB hz1 hk1 hS => ?_)
            obtain ⟨gx_1057, lt_1058, mo_1059, ad_1060, ln_1061, PL_1062, pf_1063, pw_1064, pk_1065, lw_1066, lk_1067, ik_1068⟩ := u
            obtain ⟨hP1, hD1⟩ := hB
            rw [ht] at hP1
            try dsimp only at hw hP1 hD1
            have hP : va_P (eD E) vwCl ([((ax 0), .inr (3, [.ref (ax 1), .ref (ax 2), .ref (ax 4), .ref (ax 6), .int (gx_1057 4), .int (gx_1057 5), .int (gx_1057 6), .int (gx_1057 7), va_rf lt_1058, .int (gx_1057 9), .int (gx_1057 10), .int (gx_1057 11), .int (gx_1057 12), .int (gx_1057 13), .int (gx_1057 14), .int (gx_1057 15), .int (gx_1057 16), .int (gx_1057 17), .int (gx_1057 18)])), ((ax 1), .inr (0, [.int mo_1059, .ref ad_1060, .int ln_1061])), ((ax 2), .inr (2, [.ref (ax 3), .int pk_1065])), ((ax 3), .inl (eC E 1, 157, .inr (.inl pw_1064))), ((ax 4), .inr (2, [.ref (ax 5), .int lk_1067])), ((ax 5), .inl (eC E 1, 157, .inr (.inl lw_1066))), ((ax 6), .inl (eC E 0, 3, .inl ik_1068))] ++ va_pl PL_1062 pf_1063) H := hP1
            have hD : va_D A ([((ax 0), .inr (3, [.ref (ax 1), .ref (ax 2), .ref (ax 4), .ref (ax 6), .int (gx_1057 4), .int (gx_1057 5), .int (gx_1057 6), .int (gx_1057 7), va_rf lt_1058, .int (gx_1057 9), .int (gx_1057 10), .int (gx_1057 11), .int (gx_1057 12), .int (gx_1057 13), .int (gx_1057 14), .int (gx_1057 15), .int (gx_1057 16), .int (gx_1057 17), .int (gx_1057 18)])), ((ax 1), .inr (0, [.int mo_1059, .ref ad_1060, .int ln_1061])), ((ax 2), .inr (2, [.ref (ax 3), .int pk_1065])), ((ax 3), .inl (eC E 1, 157, .inr (.inl pw_1064))), ((ax 4), .inr (2, [.ref (ax 5), .int lk_1067])), ((ax 5), .inl (eC E 1, 157, .inr (.inl lw_1066))), ((ax 6), .inl (eC E 0, 3, .inl ik_1068))] ++ va_pl PL_1062 pf_1063) := hD1.weaken (fun _ q _ h => hFc q.1 h)
            refine lv_sipush (v := (-1152)) hx hb dL_isRefused_173 (by decide) ?_
            refine lv_icmp_ne (tgt := 224) hx hb dL_isRefused_176 (by decide) (fun c_1069 => ?_) (fun c_1069 => ?_)
            · have hw := hw.2 c_1069
              exact hw.elim
            · have hw := hw.1 c_1069
              refine lv_aload_n hx hb dL_isRefused_179 rfl (lv_at hl 4 rfl) ?_
              refine lv_iconst (v := 4) hx hb dL_isRefused_180 (by decide) ?_
              refine lv_iload_n hx hb dL_isRefused_181 rfl (lv_at hl 2 rfl) ?_
              refine lv_iconst (v := 0) hx hb dL_isRefused_182 (by decide) ?_
              have hPc : va_P (eD E) vwCl (wX E ax gx_1057 lt_1058 mo_1059 ad_1060 ln_1061 PL_1062 pf_1063 pw_1064 pk_1065 lw_1066 lk_1067 ik_1068) H := hP
              have hDc : va_D A (wX E ax gx_1057 lt_1058 mo_1059 ad_1060 ln_1061 PL_1062 pf_1063 pw_1064 pk_1065 lw_1066 lk_1067 ik_1068) := hD
              have hFc : ∀ q, va_A (wX E ax gx_1057 lt_1058 mo_1059 ad_1060 ln_1061 PL_1062 pf_1063 pw_1064 pk_1065 lw_1066 lk_1067 ik_1068) H.size q → A q := frS hDc hS hA
              refine va_calli (vx_runSW (As := [.ref (ax 0), .int 4, .int (3 + (p0 - p0 / 30 * 30)), .int 0]) (rest := []) ⟨hx, hb, hml, hown, hta⟩ (c_L_act E l ax gx_1057 lt_1058 mo_1059 ad_1060 ln_1061 PL_1062 pf_1063 pw_1064 pk_1065 lw_1066 lk_1067 ik_1068 4 (3 + (p0 - p0 / 30 * 30)) 0 H.size _ hw hst) (pcSW (n := 4) hta tw_231 tw_229 tw_0 tw_230 rfl rfl hd_L_act ⟨Nat.le_of_ble_eq_true rfl, Nat.le_of_ble_eq_true rfl⟩) ⟨fbM, fun U hU hW => ⟨rfl, preM.mk hPc hKE hDc hZ hS hFc hU hW⟩⟩ rfl rfl hl.1 rfl (lv_room (Nat.le_of_ble_eq_true rfl)) dL_isRefused_183 ⟨Nat.le_of_ble_eq_true rfl, Nat.le_of_ble_eq_true rfl⟩) hS (fun q _ h => hFc q h) hFc (fun r_1070 u t H locs ht hvm hw hB hz1 hk1 hS => ?_)
              obtain ⟨gx_1071, lt_1072, mo_1073, ad_1074, ln_1075, PL_1076, pf_1077, pw_1078, pk_1079, lw_1080, lk_1081, ik_1082⟩ := u
              obtain ⟨hP1, hD1⟩ := hB
              rw [ht] at hP1
              try dsimp only at hw hP1 hD1
              have hP : va_P (eD E) vwCl ([((ax 0), .inr (3, [.ref (ax 1), .ref (ax 2), .ref (ax 4), .ref (ax 6), .int (gx_1071 4), .int (gx_1071 5), .int (gx_1071 6), .int (gx_1071 7), va_rf lt_1072, .int (gx_1071 9), .int (gx_1071 10), .int (gx_1071 11), .int (gx_1071 12), .int (gx_1071 13), .int (gx_1071 14), .int (gx_1071 15), .int (gx_1071 16), .int (gx_1071 17), .int (gx_1071 18)])), ((ax 1), .inr (0, [.int mo_1073, .ref ad_1074, .int ln_1075])), ((ax 2), .inr (2, [.ref (ax 3), .int pk_1079])), ((ax 3), .inl (eC E 1, 157, .inr (.inl pw_1078))), ((ax 4), .inr (2, [.ref (ax 5), .int lk_1081])), ((ax 5), .inl (eC E 1, 157, .inr (.inl lw_1080))), ((ax 6), .inl (eC E 0, 3, .inl ik_1082))] ++ va_pl PL_1076 pf_1077) H := hP1
              have hD : va_D A ([((ax 0), .inr (3, [.ref (ax 1), .ref (ax 2), .ref (ax 4), .ref (ax 6), .int (gx_1071 4), .int (gx_1071 5), .int (gx_1071 6), .int (gx_1071 7), va_rf lt_1072, .int (gx_1071 9), .int (gx_1071 10), .int (gx_1071 11), .int (gx_1071 12), .int (gx_1071 13), .int (gx_1071 14), .int (gx_1071 15), .int (gx_1071 16), .int (gx_1071 17), .int (gx_1071 18)])), ((ax 1), .inr (0, [.int mo_1073, .ref ad_1074, .int ln_1075])), ((ax 2), .inr (2, [.ref (ax 3), .int pk_1079])), ((ax 3), .inl (eC E 1, 157, .inr (.inl pw_1078))), ((ax 4), .inr (2, [.ref (ax 5), .int lk_1081])), ((ax 5), .inl (eC E 1, 157, .inr (.inl lw_1080))), ((ax 6), .inl (eC E 0, 3, .inl ik_1082))] ++ va_pl PL_1076 pf_1077) := hD1.weaken (fun _ q _ h => hFc q.1 h)
              refine lv_sipush (v := (-1151)) hx hb dL_isRefused_186 (by decide) ?_
              refine lv_icmp_ne (tgt := 224) hx hb dL_isRefused_189 (by decide) (fun c_1083 => ?_) (fun c_1083 => ?_)
              · have hw := hw.2 c_1083
                exact hw.elim
              · have hw := hw.1 c_1083
                refine lv_aload_n hx hb dL_isRefused_192 rfl (lv_at hl 4 rfl) ?_
                refine lv_iconst (v := 5) hx hb dL_isRefused_193 (by decide) ?_
                refine lv_iload hx hb dL_isRefused_194 (lv_at hl 1 rfl) ?_
                refine lv_iconst (v := 5) hx hb dL_isRefused_196 (by decide) ?_
                have hPc : va_P (eD E) vwCl (wX E ax gx_1071 lt_1072 mo_1073 ad_1074 ln_1075 PL_1076 pf_1077 pw_1078 pk_1079 lw_1080 lk_1081 ik_1082) H := hP
                have hDc : va_D A (wX E ax gx_1071 lt_1072 mo_1073 ad_1074 ln_1075 PL_1076 pf_1077 pw_1078 pk_1079 lw_1080 lk_1081 ik_1082) := hD
                have hFc : ∀ q, va_A (wX E ax gx_1071 lt_1072 mo_1073 ad_1074 ln_1075 PL_1076 pf_1077 pw_1078 pk_1079 lw_1080 lk_1081 ik_1082) H.size q → A q := frS hDc hS hA
                refine va_calli (vx_runSW (As := [.ref (ax 0), .int 5, .int (100 + (p0 - p0 / 30 * 30)), .int 5]) (rest := []) ⟨hx, hb, hml, hown, hta⟩ (c_L_act E l ax gx_1071 lt_1072 mo_1073 ad_1074 ln_1075 PL_1076 pf_1077 pw_1078 pk_1079 lw_1080 lk_1081 ik_1082 5 (100 + (p0 - p0 / 30 * 30)) 5 H.size _ hw hst) (pcSW (n := 4) hta tw_231 tw_229 tw_0 tw_230 rfl rfl hd_L_act ⟨Nat.le_of_ble_eq_true rfl, Nat.le_of_ble_eq_true rfl⟩) ⟨fbM, fun U hU hW => ⟨rfl, preM.mk hPc hKE hDc hZ hS hFc hU hW⟩⟩ rfl rfl hl.1 rfl (lv_room (Nat.le_of_ble_eq_true rfl)) dL_isRefused_197 ⟨Nat.le_of_ble_eq_true rfl, Nat.le_of_ble_eq_true rfl⟩) hS (fun q _ h => hFc q h) hFc (fun r_1084 u t H locs ht hvm hw hB hz1 hk1 hS => ?_)
                obtain ⟨gx_1085, lt_1086, mo_1087, ad_1088, ln_1089, PL_1090, pf_1091, pw_1092, pk_1093, lw_1094, lk_1095, ik_1096⟩ := u
                obtain ⟨hP1, hD1⟩ := hB
                rw [ht] at hP1
                try dsimp only at hw hP1 hD1
                have hP : va_P (eD E) vwCl ([((ax 0), .inr (3, [.ref (ax 1), .ref (ax 2), .ref (ax 4), .ref (ax 6), .int (gx_1085 4), .int (gx_1085 5), .int (gx_1085 6), .int (gx_1085 7), va_rf lt_1086, .int (gx_1085 9), .int (gx_1085 10), .int (gx_1085 11), .int (gx_1085 12), .int (gx_1085 13), .int (gx_1085 14), .int (gx_1085 15), .int (gx_1085 16), .int (gx_1085 17), .int (gx_1085 18)])), ((ax 1), .inr (0, [.int mo_1087, .ref ad_1088, .int ln_1089])), ((ax 2), .inr (2, [.ref (ax 3), .int pk_1093])), ((ax 3), .inl (eC E 1, 157, .inr (.inl pw_1092))), ((ax 4), .inr (2, [.ref (ax 5), .int lk_1095])), ((ax 5), .inl (eC E 1, 157, .inr (.inl lw_1094))), ((ax 6), .inl (eC E 0, 3, .inl ik_1096))] ++ va_pl PL_1090 pf_1091) H := hP1
                have hD : va_D A ([((ax 0), .inr (3, [.ref (ax 1), .ref (ax 2), .ref (ax 4), .ref (ax 6), .int (gx_1085 4), .int (gx_1085 5), .int (gx_1085 6), .int (gx_1085 7), va_rf lt_1086, .int (gx_1085 9), .int (gx_1085 10), .int (gx_1085 11), .int (gx_1085 12), .int (gx_1085 13), .int (gx_1085 14), .int (gx_1085 15), .int (gx_1085 16), .int (gx_1085 17), .int (gx_1085 18)])), ((ax 1), .inr (0, [.int mo_1087, .ref ad_1088, .int ln_1089])), ((ax 2), .inr (2, [.ref (ax 3), .int pk_1093])), ((ax 3), .inl (eC E 1, 157, .inr (.inl pw_1092))), ((ax 4), .inr (2, [.ref (ax 5), .int lk_1095])), ((ax 5), .inl (eC E 1, 157, .inr (.inl lw_1094))), ((ax 6), .inl (eC E 0, 3, .inl ik_1096))] ++ va_pl PL_1090 pf_1091) := hD1.weaken (fun _ q _ h => hFc q.1 h)
                refine lv_sipush (v := (-1151)) hx hb dL_isRefused_200 (by decide) ?_
                refine lv_icmp_ne (tgt := 224) hx hb dL_isRefused_203 (by decide) (fun c_1097 => ?_) (fun c_1097 => ?_)
                · have hw := hw.2 c_1097
                  exact hw.elim
                · have hw := hw.1 c_1097
                  refine lv_aload_n hx hb dL_isRefused_206 rfl (lv_at hl 4 rfl) ?_
                  refine lv_iconst (v := 5) hx hb dL_isRefused_207 (by decide) ?_
                  refine lv_iconst (v := 5) hx hb dL_isRefused_208 (by decide) ?_
                  refine lv_iload hx hb dL_isRefused_209 (lv_at hl 1 rfl) ?_
                  have hPc : va_P (eD E) vwCl (wX E ax gx_1085 lt_1086 mo_1087 ad_1088 ln_1089 PL_1090 pf_1091 pw_1092 pk_1093 lw_1094 lk_1095 ik_1096) H := hP
                  have hDc : va_D A (wX E ax gx_1085 lt_1086 mo_1087 ad_1088 ln_1089 PL_1090 pf_1091 pw_1092 pk_1093 lw_1094 lk_1095 ik_1096) := hD
                  have hFc : ∀ q, va_A (wX E ax gx_1085 lt_1086 mo_1087 ad_1088 ln_1089 PL_1090 pf_1091 pw_1092 pk_1093 lw_1094 lk_1095 ik_1096) H.size q → A q := frS hDc hS hA
                  refine va_calli (vx_runSW (As := [.ref (ax 0), .int 5, .int 5, .int (100 + (p0 - p0 / 30 * 30))]) (rest := []) ⟨hx, hb, hml, hown, hta⟩ (c_L_act E l ax gx_1085 lt_1086 mo_1087 ad_1088 ln_1089 PL_1090 pf_1091 pw_1092 pk_1093 lw_1094 lk_1095 ik_1096 5 5 (100 + (p0 - p0 / 30 * 30)) H.size _ hw hst) (pcSW (n := 4) hta tw_231 tw_229 tw_0 tw_230 rfl rfl hd_L_act ⟨Nat.le_of_ble_eq_true rfl, Nat.le_of_ble_eq_true rfl⟩) ⟨fbM, fun U hU hW => ⟨rfl, preM.mk hPc hKE hDc hZ hS hFc hU hW⟩⟩ rfl rfl hl.1 rfl (lv_room (Nat.le_of_ble_eq_true rfl)) dL_isRefused_211 ⟨Nat.le_of_ble_eq_true rfl, Nat.le_of_ble_eq_true rfl⟩) hS (fun q _ h => hFc q h) hFc (fun r_1098 u t H locs ht hvm hw hB hz1 hk1 hS => ?_)
                  obtain ⟨gx_1099, lt_1100, mo_1101, ad_1102, ln_1103, PL_1104, pf_1105, pw_1106, pk_1107, lw_1108, lk_1109, ik_1110⟩ := u
                  obtain ⟨hP1, hD1⟩ := hB
                  rw [ht] at hP1
                  try dsimp only at hw hP1 hD1
                  have hP : va_P (eD E) vwCl ([((ax 0), .inr (3, [.ref (ax 1), .ref (ax 2), .ref (ax 4), .ref (ax 6), .int (gx_1099 4), .int (gx_1099 5), .int (gx_1099 6), .int (gx_1099 7), va_rf lt_1100, .int (gx_1099 9), .int (gx_1099 10), .int (gx_1099 11), .int (gx_1099 12), .int (gx_1099 13), .int (gx_1099 14), .int (gx_1099 15), .int (gx_1099 16), .int (gx_1099 17), .int (gx_1099 18)])), ((ax 1), .inr (0, [.int mo_1101, .ref ad_1102, .int ln_1103])), ((ax 2), .inr (2, [.ref (ax 3), .int pk_1107])), ((ax 3), .inl (eC E 1, 157, .inr (.inl pw_1106))), ((ax 4), .inr (2, [.ref (ax 5), .int lk_1109])), ((ax 5), .inl (eC E 1, 157, .inr (.inl lw_1108))), ((ax 6), .inl (eC E 0, 3, .inl ik_1110))] ++ va_pl PL_1104 pf_1105) H := hP1
                  have hD : va_D A ([((ax 0), .inr (3, [.ref (ax 1), .ref (ax 2), .ref (ax 4), .ref (ax 6), .int (gx_1099 4), .int (gx_1099 5), .int (gx_1099 6), .int (gx_1099 7), va_rf lt_1100, .int (gx_1099 9), .int (gx_1099 10), .int (gx_1099 11), .int (gx_1099 12), .int (gx_1099 13), .int (gx_1099 14), .int (gx_1099 15), .int (gx_1099 16), .int (gx_1099 17), .int (gx_1099 18)])), ((ax 1), .inr (0, [.int mo_1101, .ref ad_1102, .int ln_1103])), ((ax 2), .inr (2, [.ref (ax 3), .int pk_1107])), ((ax 3), .inl (eC E 1, 157, .inr (.inl pw_1106))), ((ax 4), .inr (2, [.ref (ax 5), .int lk_1109])), ((ax 5), .inl (eC E 1, 157, .inr (.inl lw_1108))), ((ax 6), .inl (eC E 0, 3, .inl ik_1110))] ++ va_pl PL_1104 pf_1105) := hD1.weaken (fun _ q _ h => hFc q.1 h)
                  refine lv_sipush (v := (-1151)) hx hb dL_isRefused_214 (by decide) ?_
                  refine lv_icmp_ne (tgt := 224) hx hb dL_isRefused_217 (by decide) (fun c_1111 => ?_) (fun c_1111 => ?_)
                  · have hw := hw.2 c_1111
                    exact hw.elim
                  · have hw := hw.1 c_1111
                    refine lv_iconst (v := 1) hx hb dL_isRefused_220 (by decide) ?_
                    refine lv_goto (tgt := 225) hx hb dL_isRefused_221 (by decide) ?_
                    refine lv_istore (lv' := [(7, .int 1), (5, .long r_999), (4, .int (100 + (p0 - p0 / 30 * 30))), (3, .int (3 + (p0 - p0 / 30 * 30))), (2, .int 0), (0, .ref (ax 0)), (1, .int p0)]) hx hb dL_isRefused_225 hl (by decide) rfl (fun ls hl => ?_)
                    refine lv_iload hx hb dL_isRefused_227 (lv_at hl 0 rfl) ?_
                    refine lv_if_eq (tgt := 246) hx hb dL_isRefused_229 (by decide) (fun c9 => absurd c9 (by decide)) (fun _ => ?_)
                    refine lv_aload_n hx hb dL_isRefused_232 rfl (lv_at hl 5 rfl) ?_
                    have hPc : va_P (eD E) vwCl (wX E ax gx_1099 lt_1100 mo_1101 ad_1102 ln_1103 PL_1104 pf_1105 pw_1106 pk_1107 lw_1108 lk_1109 ik_1110) H := hP
                    refine vp_callSl (va_Run.run (va_runS (As := [.ref (ax 0)]) (rest := []) ⟨hx, hb, hml, hown, hta⟩ (c_L_all E l ax gx_1099 lt_1100 mo_1101 ad_1102 ln_1103 PL_1104 pf_1105 pw_1106 pk_1107 lw_1108 lk_1109 ik_1110 _ hw) (pcS (n := 1) hta tw_548 tw_546 tw_0 tw_547 rfl rfl hd_L_all ⟨Nat.le_of_ble_eq_true rfl, Nat.le_of_ble_eq_true rfl⟩) ⟨fbR, fun U hU hW => ⟨rfl, preR.mk hPc hKE hU hW⟩⟩ rfl rfl hl.1 rfl (lv_room (Nat.le_of_ble_eq_true rfl)) dL_isRefused_233 ⟨Nat.le_of_ble_eq_true rfl, Nat.le_of_ble_eq_true rfl⟩)) (fun r_1112 hw => ?_)
                    refine lv_lload hx hb dL_isRefused_236 (lv_at hl 1 rfl) ?_
                    refine W.lcmp hx hb dL_isRefused_238 ?_
                    refine lv_if_ne (tgt := 246) hx hb dL_isRefused_239 (by decide) (fun c_1113 => ?_) (fun c_1113 => ?_)
                    · have hw := hw.2 c_1113
                      exact hw.elim
                    · have hw := hw.1 c_1113
                      refine lv_iconst (v := 1) hx hb dL_isRefused_242 (by decide) ?_
                      refine lv_goto (tgt := 247) hx hb dL_isRefused_243 (by decide) ?_
                      have hP9 : va_P (eD E) vwCl (wX E ax gx_1099 lt_1100 mo_1101 ad_1102 ln_1103 PL_1104 pf_1105 pw_1106 pk_1107 lw_1108 lk_1109 ik_1110) H := hP
                      have hD9 : va_D A (wX E ax gx_1099 lt_1100 mo_1101 ad_1102 ln_1103 PL_1104 pf_1105 pw_1106 pk_1107 lw_1108 lk_1109 ik_1110) := hD
                      exact W.zret (v := 1) hx hb hr rfl (fun t ht hW => ⟨⟨1, (gx_1099, lt_1100, mo_1101, ad_1102, ln_1103, PL_1104, pf_1105, pw_1106, pk_1107, lw_1108, lk_1109, ik_1110), rfl, hw, ⟨by rw [ht]; exact hP9, hD9⟩⟩, hS.F ht⟩) hS.2.2 dL_isRefused_247
  · have hw := hw.1 c_998
    refine lv_iconst (v := 1) hx hb dL_isRefused_6 (by decide) ?_
    refine lv_goto (tgt := 11) hx hb dL_isRefused_7 (by decide) ?_
    refine lv_istore_n (lv' := [(2, .int 1), (0, .ref (ax 0)), (1, .int p0)]) hx hb dL_isRefused_11 rfl hl (by decide) rfl (fun ls hl => ?_)
    refine lv_iload_n hx hb dL_isRefused_12 rfl (lv_at hl 0 rfl) ?_
    refine lv_if_eq (tgt := 25) hx hb dL_isRefused_13 (by decide) (fun c9 => absurd c9 (by decide)) (fun _ => ?_)
    refine lv_iconst (v := (-1)) hx hb dL_isRefused_16 (by decide) ?_
    refine lv_iload_n hx hb dL_isRefused_17 rfl (lv_at hl 2 rfl) ?_
    refine lv_bipush (v := 30) hx hb dL_isRefused_18 (by decide) ?_
    refine lv_irem hx hb dL_isRefused_20 (by decide) ?_
    refine lv_isub hx hb dL_isRefused_21 ?_
    refine lv_goto (tgt := 31) hx hb dL_isRefused_22 (by decide) ?_
    refine lv_istore_n (lv' := [(3, .int ((-1) - (p0 - p0 / 30 * 30))), (2, .int 1), (0, .ref (ax 0)), (1, .int p0)]) hx hb dL_isRefused_31 rfl hl (by decide) rfl (fun ls hl => ?_)
    refine lv_iload_n hx hb dL_isRefused_32 rfl (lv_at hl 1 rfl) ?_
    refine lv_if_eq (tgt := 45) hx hb dL_isRefused_33 (by decide) (fun c9 => absurd c9 (by decide)) (fun _ => ?_)
    refine lv_iconst (v := (-1)) hx hb dL_isRefused_36 (by decide) ?_
    refine lv_iload_n hx hb dL_isRefused_37 rfl (lv_at hl 3 rfl) ?_
    refine lv_bipush (v := 30) hx hb dL_isRefused_38 (by decide) ?_
    refine lv_irem hx hb dL_isRefused_40 (by decide) ?_
    refine lv_isub hx hb dL_isRefused_41 ?_
    refine lv_goto (tgt := 52) hx hb dL_isRefused_42 (by decide) ?_
    refine lv_istore (lv' := [(4, .int ((-1) - (p0 - p0 / 30 * 30))), (3, .int ((-1) - (p0 - p0 / 30 * 30))), (2, .int 1), (0, .ref (ax 0)), (1, .int p0)]) hx hb dL_isRefused_52 hl (by decide) rfl (fun ls hl => ?_)
    refine lv_aload_n hx hb dL_isRefused_54 rfl (lv_at hl 3 rfl) ?_
    have hPc : va_P (eD E) vwCl (wX E ax gx lt mo ad ln PL pf pw pk lw lk ik) s.heap := hP
    refine vp_callSl (va_Run.run (va_runS (As := [.ref (ax 0)]) (rest := []) ⟨hx, hb, hml, hown, hta⟩ (c_L_all E l ax gx lt mo ad ln PL pf pw pk lw lk ik _ hw) (pcS (n := 1) hta tw_548 tw_546 tw_0 tw_547 rfl rfl hd_L_all ⟨Nat.le_of_ble_eq_true rfl, Nat.le_of_ble_eq_true rfl⟩) ⟨fbR, fun U hU hW => ⟨rfl, preR.mk hPc hKE hU hW⟩⟩ rfl rfl hl.1 rfl (lv_room (Nat.le_of_ble_eq_true rfl)) dL_isRefused_55 ⟨Nat.le_of_ble_eq_true rfl, Nat.le_of_ble_eq_true rfl⟩)) (fun r_1114 hw => ?_)
    refine lv_lstore (lv' := [(5, .long r_1114), (4, .int ((-1) - (p0 - p0 / 30 * 30))), (3, .int ((-1) - (p0 - p0 / 30 * 30))), (2, .int 1), (0, .ref (ax 0)), (1, .int p0)]) hx hb dL_isRefused_58 hl (by decide) rfl (fun ls hl => ?_)
    refine lv_aload_n hx hb dL_isRefused_60 rfl (lv_at hl 4 rfl) ?_
    refine lv_iconst (v := 0) hx hb dL_isRefused_61 (by decide) ?_
    refine lv_iload_n hx hb dL_isRefused_62 rfl (lv_at hl 3 rfl) ?_
    refine lv_if_eq (tgt := 75) hx hb dL_isRefused_63 (by decide) (fun c9 => absurd c9 (by decide)) (fun _ => ?_)
    refine lv_iconst (v := (-1)) hx hb dL_isRefused_66 (by decide) ?_
    refine lv_iload_n hx hb dL_isRefused_67 rfl (lv_at hl 5 rfl) ?_
    refine lv_bipush (v := 30) hx hb dL_isRefused_68 (by decide) ?_
    refine lv_irem hx hb dL_isRefused_70 (by decide) ?_
    refine lv_isub hx hb dL_isRefused_71 ?_
    refine lv_goto (tgt := 83) hx hb dL_isRefused_72 (by decide) ?_
    refine lv_iconst (v := 0) hx hb dL_isRefused_83 (by decide) ?_
    have hPc : va_P (eD E) vwCl (wX E ax gx lt mo ad ln PL pf pw pk lw lk ik) s.heap := hP
    have hDc : va_D A (wX E ax gx lt mo ad ln PL pf pw pk lw lk ik) := hD
    have hFc : ∀ q, va_A (wX E ax gx lt mo ad ln PL pf pw pk lw lk ik) s.heap.size q → A q := frS hDc hS hA
    refine va_calli (vx_runSW (As := [.ref (ax 0), .int 0, .int ((-1) - (p0 - p0 / 30 * 30)), .int 0]) (rest := []) ⟨hx, hb, hml, hown, hta⟩ (c_L_act E l ax gx lt mo ad ln PL pf pw pk lw lk ik 0 ((-1) - (p0 - p0 / 30 * 30)) 0 s.heap.size _ hw hst) (pcSW (n := 4) hta tw_231 tw_229 tw_0 tw_230 rfl rfl hd_L_act ⟨Nat.le_of_ble_eq_true rfl, Nat.le_of_ble_eq_true rfl⟩) ⟨fbM, fun U hU hW => ⟨rfl, preM.mk hPc hKE hDc hZ hS hFc hU hW⟩⟩ rfl rfl hl.1 rfl (lv_room (Nat.le_of_ble_eq_true rfl)) dL_isRefused_84 ⟨Nat.le_of_ble_eq_true rfl, Nat.le_of_ble_eq_true rfl⟩) hS (fun q _ h => hFc q h) hFc (fun r_1115 u t H locs ht hvm hw hB hz1 hk1 hS => ?_)
    obtain ⟨gx_1116, lt_1117, mo_1118, ad_1119, ln_1120, PL_1121, pf_1122, pw_1123, pk_1124, lw_1125, lk_1126, ik_1127⟩ := u
    obtain ⟨hP1, hD1⟩ := hB
    rw [ht] at hP1
    try dsimp only at hw hP1 hD1
    have hP : va_P (eD E) vwCl ([((ax 0), .inr (3, [.ref (ax 1), .ref (ax 2), .ref (ax 4), .ref (ax 6), .int (gx_1116 4), .int (gx_1116 5), .int (gx_1116 6), .int (gx_1116 7), va_rf lt_1117, .int (gx_1116 9), .int (gx_1116 10), .int (gx_1116 11), .int (gx_1116 12), .int (gx_1116 13), .int (gx_1116 14), .int (gx_1116 15), .int (gx_1116 16), .int (gx_1116 17), .int (gx_1116 18)])), ((ax 1), .inr (0, [.int mo_1118, .ref ad_1119, .int ln_1120])), ((ax 2), .inr (2, [.ref (ax 3), .int pk_1124])), ((ax 3), .inl (eC E 1, 157, .inr (.inl pw_1123))), ((ax 4), .inr (2, [.ref (ax 5), .int lk_1126])), ((ax 5), .inl (eC E 1, 157, .inr (.inl lw_1125))), ((ax 6), .inl (eC E 0, 3, .inl ik_1127))] ++ va_pl PL_1121 pf_1122) H := hP1
    have hD : va_D A ([((ax 0), .inr (3, [.ref (ax 1), .ref (ax 2), .ref (ax 4), .ref (ax 6), .int (gx_1116 4), .int (gx_1116 5), .int (gx_1116 6), .int (gx_1116 7), va_rf lt_1117, .int (gx_1116 9), .int (gx_1116 10), .int (gx_1116 11), .int (gx_1116 12), .int (gx_1116 13), .int (gx_1116 14), .int (gx_1116 15), .int (gx_1116 16), .int (gx_1116 17), .int (gx_1116 18)])), ((ax 1), .inr (0, [.int mo_1118, .ref ad_1119, .int ln_1120])), ((ax 2), .inr (2, [.ref (ax 3), .int pk_1124])), ((ax 3), .inl (eC E 1, 157, .inr (.inl pw_1123))), ((ax 4), .inr (2, [.ref (ax 5), .int lk_1126])), ((ax 5), .inl (eC E 1, 157, .inr (.inl lw_1125))), ((ax 6), .inl (eC E 0, 3, .inl ik_1127))] ++ va_pl PL_1121 pf_1122) := hD1.weaken (fun _ q _ h => hFc q.1 h)
    refine lv_sipush (v := (-1152)) hx hb dL_isRefused_87 (by decide) ?_
    refine lv_icmp_ne (tgt := 224) hx hb dL_isRefused_90 (by decide) (fun c_1128 => ?_) (fun c_1128 => ?_)
    · have hw := hw.2 c_1128
      exact hw.elim
    · have hw := hw.1 c_1128
      refine lv_aload_n hx hb dL_isRefused_93 rfl (lv_at hl 4 rfl) ?_
      refine lv_iconst (v := 1) hx hb dL_isRefused_94 (by decide) ?_
      refine lv_iload_n hx hb dL_isRefused_95 rfl (lv_at hl 3 rfl) ?_
      refine lv_if_eq (tgt := 108) hx hb dL_isRefused_96 (by decide) (fun c9 => absurd c9 (by decide)) (fun _ => ?_)
      refine lv_iconst (v := 0) hx hb dL_isRefused_99 (by decide) ?_
      refine lv_iload_n hx hb dL_isRefused_100 rfl (lv_at hl 5 rfl) ?_
      refine lv_bipush (v := 30) hx hb dL_isRefused_101 (by decide) ?_
      refine lv_irem hx hb dL_isRefused_103 (by decide) ?_
      refine lv_isub hx hb dL_isRefused_104 ?_
      refine lv_goto (tgt := 111) hx hb dL_isRefused_105 (by decide) ?_
      refine lv_iconst (v := 0) hx hb dL_isRefused_111 (by decide) ?_
      have hPc : va_P (eD E) vwCl (wX E ax gx_1116 lt_1117 mo_1118 ad_1119 ln_1120 PL_1121 pf_1122 pw_1123 pk_1124 lw_1125 lk_1126 ik_1127) H := hP
      have hDc : va_D A (wX E ax gx_1116 lt_1117 mo_1118 ad_1119 ln_1120 PL_1121 pf_1122 pw_1123 pk_1124 lw_1125 lk_1126 ik_1127) := hD
      have hFc : ∀ q, va_A (wX E ax gx_1116 lt_1117 mo_1118 ad_1119 ln_1120 PL_1121 pf_1122 pw_1123 pk_1124 lw_1125 lk_1126 ik_1127) H.size q → A q := frS hDc hS hA
      refine va_calli (vx_runSW (As := [.ref (ax 0), .int 1, .int (0 - (p0 - p0 / 30 * 30)), .int 0]) (rest := []) ⟨hx, hb, hml, hown, hta⟩ (c_L_act E l ax gx_1116 lt_1117 mo_1118 ad_1119 ln_1120 PL_1121 pf_1122 pw_1123 pk_1124 lw_1125 lk_1126 ik_1127 1 (0 - (p0 - p0 / 30 * 30)) 0 H.size _ hw hst) (pcSW (n := 4) hta tw_231 tw_229 tw_0 tw_230 rfl rfl hd_L_act ⟨Nat.le_of_ble_eq_true rfl, Nat.le_of_ble_eq_true rfl⟩) ⟨fbM, fun U hU hW => ⟨rfl, preM.mk hPc hKE hDc hZ hS hFc hU hW⟩⟩ rfl rfl hl.1 rfl (lv_room (Nat.le_of_ble_eq_true rfl)) dL_isRefused_112 ⟨Nat.le_of_ble_eq_true rfl, Nat.le_of_ble_eq_true rfl⟩) hS (fun q _ h => hFc q h) hFc (fun r_1129 u t H locs ht hvm hw hB hz1 hk1 hS => ?_)
      obtain ⟨gx_1130, lt_1131, mo_1132, ad_1133, ln_1134, PL_1135, pf_1136, pw_1137, pk_1138, lw_1139, lk_1140, ik_1141⟩ := u
      obtain ⟨hP1, hD1⟩ := hB
      rw [ht] at hP1
      try dsimp only at hw hP1 hD1
      have hP : va_P (eD E) vwCl ([((ax 0), .inr (3, [.ref (ax 1), .ref (ax 2), .ref (ax 4), .ref (ax 6), .int (gx_1130 4), .int (gx_1130 5), .int (gx_1130 6), .int (gx_1130 7), va_rf lt_1131, .int (gx_1130 9), .int (gx_1130 10), .int (gx_1130 11), .int (gx_1130 12), .int (gx_1130 13), .int (gx_1130 14), .int (gx_1130 15), .int (gx_1130 16), .int (gx_1130 17), .int (gx_1130 18)])), ((ax 1), .inr (0, [.int mo_1132, .ref ad_1133, .int ln_1134])), ((ax 2), .inr (2, [.ref (ax 3), .int pk_1138])), ((ax 3), .inl (eC E 1, 157, .inr (.inl pw_1137))), ((ax 4), .inr (2, [.ref (ax 5), .int lk_1140])), ((ax 5), .inl (eC E 1, 157, .inr (.inl lw_1139))), ((ax 6), .inl (eC E 0, 3, .inl ik_1141))] ++ va_pl PL_1135 pf_1136) H := hP1
      have hD : va_D A ([((ax 0), .inr (3, [.ref (ax 1), .ref (ax 2), .ref (ax 4), .ref (ax 6), .int (gx_1130 4), .int (gx_1130 5), .int (gx_1130 6), .int (gx_1130 7), va_rf lt_1131, .int (gx_1130 9), .int (gx_1130 10), .int (gx_1130 11), .int (gx_1130 12), .int (gx_1130 13), .int (gx_1130 14), .int (gx_1130 15), .int (gx_1130 16), .int (gx_1130 17), .int (gx_1130 18)])), ((ax 1), .inr (0, [.int mo_1132, .ref ad_1133, .int ln_1134])), ((ax 2), .inr (2, [.ref (ax 3), .int pk_1138])), ((ax 3), .inl (eC E 1, 157, .inr (.inl pw_1137))), ((ax 4), .inr (2, [.ref (ax 5), .int lk_1140])), ((ax 5), .inl (eC E 1, 157, .inr (.inl lw_1139))), ((ax 6), .inl (eC E 0, 3, .inl ik_1141))] ++ va_pl PL_1135 pf_1136) := hD1.weaken (fun _ q _ h => hFc q.1 h)
      refine lv_sipush (v := (-1152)) hx hb dL_isRefused_115 (by decide) ?_
      refine lv_icmp_ne (tgt := 224) hx hb dL_isRefused_118 (by decide) (fun c_1142 => ?_) (fun c_1142 => ?_)
      · have hw := hw.2 c_1142
        exact hw.elim
      · have hw := hw.1 c_1142
        refine lv_aload_n hx hb dL_isRefused_121 rfl (lv_at hl 4 rfl) ?_
        refine lv_iconst (v := 2) hx hb dL_isRefused_122 (by decide) ?_
        refine lv_iload_n hx hb dL_isRefused_123 rfl (lv_at hl 2 rfl) ?_
        refine lv_iconst (v := 0) hx hb dL_isRefused_124 (by decide) ?_
        have hPc : va_P (eD E) vwCl (wX E ax gx_1130 lt_1131 mo_1132 ad_1133 ln_1134 PL_1135 pf_1136 pw_1137 pk_1138 lw_1139 lk_1140 ik_1141) H := hP
        have hDc : va_D A (wX E ax gx_1130 lt_1131 mo_1132 ad_1133 ln_1134 PL_1135 pf_1136 pw_1137 pk_1138 lw_1139 lk_1140 ik_1141) := hD
        have hFc : ∀ q, va_A (wX E ax gx_1130 lt_1131 mo_1132 ad_1133 ln_1134 PL_1135 pf_1136 pw_1137 pk_1138 lw_1139 lk_1140 ik_1141) H.size q → A q := frS hDc hS hA
        refine va_calli (vx_runSW (As := [.ref (ax 0), .int 2, .int ((-1) - (p0 - p0 / 30 * 30)), .int 0]) (rest := []) ⟨hx, hb, hml, hown, hta⟩ (c_L_act E l ax gx_1130 lt_1131 mo_1132 ad_1133 ln_1134 PL_1135 pf_1136 pw_1137 pk_1138 lw_1139 lk_1140 ik_1141 2 ((-1) - (p0 - p0 / 30 * 30)) 0 H.size _ hw hst) (pcSW (n := 4) hta tw_231 tw_229 tw_0 tw_230 rfl rfl hd_L_act ⟨Nat.le_of_ble_eq_true rfl, Nat.le_of_ble_eq_true rfl⟩) ⟨fbM, fun U hU hW => ⟨rfl, preM.mk hPc hKE hDc hZ hS hFc hU hW⟩⟩ rfl rfl hl.1 rfl (lv_room (Nat.le_of_ble_eq_true rfl)) dL_isRefused_125 ⟨Nat.le_of_ble_eq_true rfl, Nat.le_of_ble_eq_true rfl⟩) hS (fun q _ h => hFc q h) hFc (fun r_1143 u t H locs ht hvm hw hB hz1 hk1 hS => ?_)
        obtain ⟨gx_1144, lt_1145, mo_1146, ad_1147, ln_1148, PL_1149, pf_1150, pw_1151, pk_1152, lw_1153, lk_1154, ik_1155⟩ := u
        obtain ⟨hP1, hD1⟩ := hB
        rw [ht] at hP1
        try dsimp only at hw hP1 hD1
        have hP : va_P (eD E) vwCl ([((ax 0), .inr (3, [.ref (ax 1), .ref (ax 2), .ref (ax 4), .ref (ax 6), .int (gx_1144 4), .int (gx_1144 5), .int (gx_1144 6), .int (gx_1144 7), va_rf lt_1145, .int (gx_1144 9), .int (gx_1144 10), .int (gx_1144 11), .int (gx_1144 12), .int (gx_1144 13), .int (gx_1144 14), .int (gx_1144 15), .int (gx_1144 16), .int (gx_1144 17), .int (gx_1144 18)])), ((ax 1), .inr (0, [.int mo_1146, .ref ad_1147, .int ln_1148])), ((ax 2), .inr (2, [.ref (ax 3), .int pk_1152])), ((ax 3), .inl (eC E 1, 157, .inr (.inl pw_1151))), ((ax 4), .inr (2, [.ref (ax 5), .int lk_1154])), ((ax 5), .inl (eC E 1, 157, .inr (.inl lw_1153))), ((ax 6), .inl (eC E 0, 3, .inl ik_1155))] ++ va_pl PL_1149 pf_1150) H := hP1
        have hD : va_D A ([((ax 0), .inr (3, [.ref (ax 1), .ref (ax 2), .ref (ax 4), .ref (ax 6), .int (gx_1144 4), .int (gx_1144 5), .int (gx_1144 6), .int (gx_1144 7), va_rf lt_1145, .int (gx_1144 9), .int (gx_1144 10), .int (gx_1144 11), .int (gx_1144 12), .int (gx_1144 13), .int (gx_1144 14), .int (gx_1144 15), .int (gx_1144 16), .int (gx_1144 17), .int (gx_1144 18)])), ((ax 1), .inr (0, [.int mo_1146, .ref ad_1147, .int ln_1148])), ((ax 2), .inr (2, [.ref (ax 3), .int pk_1152])), ((ax 3), .inl (eC E 1, 157, .inr (.inl pw_1151))), ((ax 4), .inr (2, [.ref (ax 5), .int lk_1154])), ((ax 5), .inl (eC E 1, 157, .inr (.inl lw_1153))), ((ax 6), .inl (eC E 0, 3, .inl ik_1155))] ++ va_pl PL_1149 pf_1150) := hD1.weaken (fun _ q _ h => hFc q.1 h)
        refine lv_sipush (v := (-1151)) hx hb dL_isRefused_128 (by decide) ?_
        refine lv_icmp_ne (tgt := 224) hx hb dL_isRefused_131 (by decide) (fun c_1156 => ?_) (fun c_1156 => ?_)
        · have hw := hw.2 c_1156
          exact hw.elim
        · have hw := hw.1 c_1156
          refine lv_aload_n hx hb dL_isRefused_134 rfl (lv_at hl 4 rfl) ?_
          refine lv_iconst (v := 3) hx hb dL_isRefused_135 (by decide) ?_
          refine lv_iload_n hx hb dL_isRefused_136 rfl (lv_at hl 2 rfl) ?_
          refine lv_iconst (v := 0) hx hb dL_isRefused_137 (by decide) ?_
          have hPc : va_P (eD E) vwCl (wX E ax gx_1144 lt_1145 mo_1146 ad_1147 ln_1148 PL_1149 pf_1150 pw_1151 pk_1152 lw_1153 lk_1154 ik_1155) H := hP
          have hDc : va_D A (wX E ax gx_1144 lt_1145 mo_1146 ad_1147 ln_1148 PL_1149 pf_1150 pw_1151 pk_1152 lw_1153 lk_1154 ik_1155) := hD
          have hFc : ∀ q, va_A (wX E ax gx_1144 lt_1145 mo_1146 ad_1147 ln_1148 PL_1149 pf_1150 pw_1151 pk_1152 lw_1153 lk_1154 ik_1155) H.size q → A q := frS hDc hS hA
          refine va_calli (vx_runSW (As := [.ref (ax 0), .int 3, .int ((-1) - (p0 - p0 / 30 * 30)), .int 0]) (rest := []) ⟨hx, hb, hml, hown, hta⟩ (c_L_act E l ax gx_1144 lt_1145 mo_1146 ad_1147 ln_1148 PL_1149 pf_1150 pw_1151 pk_1152 lw_1153 lk_1154 ik_1155 3 ((-1) - (p0 - p0 / 30 * 30)) 0 H.size _ hw hst) (pcSW (n := 4) hta tw_231 tw_229 tw_0 tw_230 rfl rfl hd_L_act ⟨Nat.le_of_ble_eq_true rfl, Nat.le_of_ble_eq_true rfl⟩) ⟨fbM, fun U hU hW => ⟨rfl, preM.mk hPc hKE hDc hZ hS hFc hU hW⟩⟩ rfl rfl hl.1 rfl (lv_room (Nat.le_of_ble_eq_true rfl)) dL_isRefused_138 ⟨Nat.le_of_ble_eq_true rfl, Nat.le_of_ble_eq_true rfl⟩) hS (fun q _ h => hFc q h) hFc (fun r_1157 u t H locs ht hvm hw hB hz1 hk1 hS => ?_)
          obtain ⟨gx_1158, lt_1159, mo_1160, ad_1161, ln_1162, PL_1163, pf_1164, pw_1165, pk_1166, lw_1167, lk_1168, ik_1169⟩ := u
          obtain ⟨hP1, hD1⟩ := hB
          rw [ht] at hP1
          try dsimp only at hw hP1 hD1
          have hP : va_P (eD E) vwCl ([((ax 0), .inr (3, [.ref (ax 1), .ref (ax 2), .ref (ax 4), .ref (ax 6), .int (gx_1158 4), .int (gx_1158 5), .int (gx_1158 6), .int (gx_1158 7), va_rf lt_1159, .int (gx_1158 9), .int (gx_1158 10), .int (gx_1158 11), .int (gx_1158 12), .int (gx_1158 13), .int (gx_1158 14), .int (gx_1158 15), .int (gx_1158 16), .int (gx_1158 17), .int (gx_1158 18)])), ((ax 1), .inr (0, [.int mo_1160, .ref ad_1161, .int ln_1162])), ((ax 2), .inr (2, [.ref (ax 3), .int pk_1166])), ((ax 3), .inl (eC E 1, 157, .inr (.inl pw_1165))), ((ax 4), .inr (2, [.ref (ax 5), .int lk_1168])), ((ax 5), .inl (eC E 1, 157, .inr (.inl lw_1167))), ((ax 6), .inl (eC E 0, 3, .inl ik_1169))] ++ va_pl PL_1163 pf_1164) H := hP1
          have hD : va_D A ([((ax 0), .inr (3, [.ref (ax 1), .ref (ax 2), .ref (ax 4), .ref (ax 6), .int (gx_1158 4), .int (gx_1158 5), .int (gx_1158 6), .int (gx_1158 7), va_rf lt_1159, .int (gx_1158 9), .int (gx_1158 10), .int (gx_1158 11), .int (gx_1158 12), .int (gx_1158 13), .int (gx_1158 14), .int (gx_1158 15), .int (gx_1158 16), .int (gx_1158 17), .int (gx_1158 18)])), ((ax 1), .inr (0, [.int mo_1160, .ref ad_1161, .int ln_1162])), ((ax 2), .inr (2, [.ref (ax 3), .int pk_1166])), ((ax 3), .inl (eC E 1, 157, .inr (.inl pw_1165))), ((ax 4), .inr (2, [.ref (ax 5), .int lk_1168])), ((ax 5), .inl (eC E 1, 157, .inr (.inl lw_1167))), ((ax 6), .inl (eC E 0, 3, .inl ik_1169))] ++ va_pl PL_1163 pf_1164) := hD1.weaken (fun _ q _ h => hFc q.1 h)
          refine lv_sipush (v := (-1151)) hx hb dL_isRefused_141 (by decide) ?_
          refine lv_icmp_ne (tgt := 224) hx hb dL_isRefused_144 (by decide) (fun c_1170 => ?_) (fun c_1170 => ?_)
          · have hw := hw.2 c_1170
            exact hw.elim
          · have hw := hw.1 c_1170
            refine lv_aload_n hx hb dL_isRefused_147 rfl (lv_at hl 4 rfl) ?_
            refine lv_iconst (v := 3) hx hb dL_isRefused_148 (by decide) ?_
            refine lv_iload_n hx hb dL_isRefused_149 rfl (lv_at hl 5 rfl) ?_
            refine lv_iconst (v := 2) hx hb dL_isRefused_150 (by decide) ?_
            refine lv_idiv hx hb dL_isRefused_151 (by decide) ?_
            refine lv_iconst (v := 3) hx hb dL_isRefused_152 (by decide) ?_
            refine lv_irem hx hb dL_isRefused_153 (by decide) ?_
            refine lv_iload_n hx hb dL_isRefused_154 rfl (lv_at hl 3 rfl) ?_
            refine lv_if_eq (tgt := 167) hx hb dL_isRefused_155 (by decide) (fun c9 => absurd c9 (by decide)) (fun _ => ?_)
            refine lv_iconst (v := 0) hx hb dL_isRefused_158 (by decide) ?_
            refine lv_iload_n hx hb dL_isRefused_159 rfl (lv_at hl 5 rfl) ?_
            refine lv_bipush (v := 30) hx hb dL_isRefused_160 (by decide) ?_
            refine lv_irem hx hb dL_isRefused_162 (by decide) ?_
            refine lv_isub hx hb dL_isRefused_163 ?_
            refine lv_goto (tgt := 170) hx hb dL_isRefused_164 (by decide) ?_
            have hPc : va_P (eD E) vwCl (wX E ax gx_1158 lt_1159 mo_1160 ad_1161 ln_1162 PL_1163 pf_1164 pw_1165 pk_1166 lw_1167 lk_1168 ik_1169) H := hP
            have hDc : va_D A (wX E ax gx_1158 lt_1159 mo_1160 ad_1161 ln_1162 PL_1163 pf_1164 pw_1165 pk_1166 lw_1167 lk_1168 ik_1169) := hD
            have hFc : ∀ q, va_A (wX E ax gx_1158 lt_1159 mo_1160 ad_1161 ln_1162 PL_1163 pf_1164 pw_1165 pk_1166 lw_1167 lk_1168 ik_1169) H.size q → A q := frS hDc hS hA
            refine va_calli (vx_runSW (As := [.ref (ax 0), .int 3, .int ((p0 / 2) - (p0 / 2) / 3 * 3), .int (0 - (p0 - p0 / 30 * 30))]) (rest := []) ⟨hx, hb, hml, hown, hta⟩ (c_L_act E l ax gx_1158 lt_1159 mo_1160 ad_1161 ln_1162 PL_1163 pf_1164 pw_1165 pk_1166 lw_1167 lk_1168 ik_1169 3 ((p0 / 2) - (p0 / 2) / 3 * 3) (0 - (p0 - p0 / 30 * 30)) H.size _ hw hst) (pcSW (n := 4) hta tw_231 tw_229 tw_0 tw_230 rfl rfl hd_L_act ⟨Nat.le_of_ble_eq_true rfl, Nat.le_of_ble_eq_true rfl⟩) ⟨fbM, fun U hU hW => ⟨rfl, preM.mk hPc hKE hDc hZ hS hFc hU hW⟩⟩ rfl rfl hl.1 rfl (lv_room (Nat.le_of_ble_eq_true rfl)) dL_isRefused_170 ⟨Nat.le_of_ble_eq_true rfl, Nat.le_of_ble_eq_true rfl⟩) hS (fun q _ h => hFc q h) hFc (fun r_1171 u t H locs ht hvm hw hB hz1 hk1 hS => ?_)
            obtain ⟨gx_1172, lt_1173, mo_1174, ad_1175, ln_1176, PL_1177, pf_1178, pw_1179, pk_1180, lw_1181, lk_1182, ik_1183⟩ := u
            obtain ⟨hP1, hD1⟩ := hB
            rw [ht] at hP1
            try dsimp only at hw hP1 hD1
            have hP : va_P (eD E) vwCl ([((ax 0), .inr (3, [.ref (ax 1), .ref (ax 2), .ref (ax 4), .ref (ax 6), .int (gx_1172 4), .int (gx_1172 5), .int (gx_1172 6), .int (gx_1172 7), va_rf lt_1173, .int (gx_1172 9), .int (gx_1172 10), .int (gx_1172 11), .int (gx_1172 12), .int (gx_1172 13), .int (gx_1172 14), .int (gx_1172 15), .int (gx_1172 16), .int (gx_1172 17), .int (gx_1172 18)])), ((ax 1), .inr (0, [.int mo_1174, .ref ad_1175, .int ln_1176])), ((ax 2), .inr (2, [.ref (ax 3), .int pk_1180])), ((ax 3), .inl (eC E 1, 157, .inr (.inl pw_1179))), ((ax 4), .inr (2, [.ref (ax 5), .int lk_1182])), ((ax 5), .inl (eC E 1, 157, .inr (.inl lw_1181))), ((ax 6), .inl (eC E 0, 3, .inl ik_1183))] ++ va_pl PL_1177 pf_1178) H := hP1
            have hD : va_D A ([((ax 0), .inr (3, [.ref (ax 1), .ref (ax 2), .ref (ax 4), .ref (ax 6), .int (gx_1172 4), .int (gx_1172 5), .int (gx_1172 6), .int (gx_1172 7), va_rf lt_1173, .int (gx_1172 9), .int (gx_1172 10), .int (gx_1172 11), .int (gx_1172 12), .int (gx_1172 13), .int (gx_1172 14), .int (gx_1172 15), .int (gx_1172 16), .int (gx_1172 17), .int (gx_1172 18)])), ((ax 1), .inr (0, [.int mo_1174, .ref ad_1175, .int ln_1176])), ((ax 2), .inr (2, [.ref (ax 3), .int pk_1180])), ((ax 3), .inl (eC E 1, 157, .inr (.inl pw_1179))), ((ax 4), .inr (2, [.ref (ax 5), .int lk_1182])), ((ax 5), .inl (eC E 1, 157, .inr (.inl lw_1181))), ((ax 6), .inl (eC E 0, 3, .inl ik_1183))] ++ va_pl PL_1177 pf_1178) := hD1.weaken (fun _ q _ h => hFc q.1 h)
            refine lv_sipush (v := (-1152)) hx hb dL_isRefused_173 (by decide) ?_
            refine lv_icmp_ne (tgt := 224) hx hb dL_isRefused_176 (by decide) (fun c_1184 => ?_) (fun c_1184 => ?_)
            · have hw := hw.2 c_1184
              exact hw.elim
            · have hw := hw.1 c_1184
              refine lv_aload_n hx hb dL_isRefused_179 rfl (lv_at hl 4 rfl) ?_
              refine lv_iconst (v := 4) hx hb dL_isRefused_180 (by decide) ?_
              refine lv_iload_n hx hb dL_isRefused_181 rfl (lv_at hl 2 rfl) ?_
              refine lv_iconst (v := 0) hx hb dL_isRefused_182 (by decide) ?_
              have hPc : va_P (eD E) vwCl (wX E ax gx_1172 lt_1173 mo_1174 ad_1175 ln_1176 PL_1177 pf_1178 pw_1179 pk_1180 lw_1181 lk_1182 ik_1183) H := hP
              have hDc : va_D A (wX E ax gx_1172 lt_1173 mo_1174 ad_1175 ln_1176 PL_1177 pf_1178 pw_1179 pk_1180 lw_1181 lk_1182 ik_1183) := hD
              have hFc : ∀ q, va_A (wX E ax gx_1172 lt_1173 mo_1174 ad_1175 ln_1176 PL_1177 pf_1178 pw_1179 pk_1180 lw_1181 lk_1182 ik_1183) H.size q → A q := frS hDc hS hA
              refine va_calli (vx_runSW (As := [.ref (ax 0), .int 4, .int ((-1) - (p0 - p0 / 30 * 30)), .int 0]) (rest := []) ⟨hx, hb, hml, hown, hta⟩ (c_L_act E l ax gx_1172 lt_1173 mo_1174 ad_1175 ln_1176 PL_1177 pf_1178 pw_1179 pk_1180 lw_1181 lk_1182 ik_1183 4 ((-1) - (p0 - p0 / 30 * 30)) 0 H.size _ hw hst) (pcSW (n := 4) hta tw_231 tw_229 tw_0 tw_230 rfl rfl hd_L_act ⟨Nat.le_of_ble_eq_true rfl, Nat.le_of_ble_eq_true rfl⟩) ⟨fbM, fun U hU hW => ⟨rfl, preM.mk hPc hKE hDc hZ hS hFc hU hW⟩⟩ rfl rfl hl.1 rfl (lv_room (Nat.le_of_ble_eq_true rfl)) dL_isRefused_183 ⟨Nat.le_of_ble_eq_true rfl, Nat.le_of_ble_eq_true rfl⟩) hS (fun q _ h => hFc q h) hFc (fun r_1185 u t H locs ht hvm hw hB hz1 hk1 hS => ?_)
              obtain ⟨gx_1186, lt_1187, mo_1188, ad_1189, ln_1190, PL_1191, pf_1192, pw_1193, pk_1194, lw_1195, lk_1196, ik_1197⟩ := u
              obtain ⟨hP1, hD1⟩ := hB
              rw [ht] at hP1
              try dsimp only at hw hP1 hD1
              have hP : va_P (eD E) vwCl ([((ax 0), .inr (3, [.ref (ax 1), .ref (ax 2), .ref (ax 4), .ref (ax 6), .int (gx_1186 4), .int (gx_1186 5), .int (gx_1186 6), .int (gx_1186 7), va_rf lt_1187, .int (gx_1186 9), .int (gx_1186 10), .int (gx_1186 11), .int (gx_1186 12), .int (gx_1186 13), .int (gx_1186 14), .int (gx_1186 15), .int (gx_1186 16), .int (gx_1186 17), .int (gx_1186 18)])), ((ax 1), .inr (0, [.int mo_1188, .ref ad_1189, .int ln_1190])), ((ax 2), .inr (2, [.ref (ax 3), .int pk_1194])), ((ax 3), .inl (eC E 1, 157, .inr (.inl pw_1193))), ((ax 4), .inr (2, [.ref (ax 5), .int lk_1196])), ((ax 5), .inl (eC E 1, 157, .inr (.inl lw_1195))), ((ax 6), .inl (eC E 0, 3, .inl ik_1197))] ++ va_pl PL_1191 pf_1192) H := hP1
              have hD : va_D A ([((ax 0), .inr (3, [.ref (ax 1), .ref (ax 2), .ref (ax 4), .ref (ax 6), .int (gx_1186 4), .int (gx_1186 5), .int (gx_1186 6), .int (gx_1186 7), va_rf lt_1187, .int (gx_1186 9), .int (gx_1186 10), .int (gx_1186 11), .int (gx_1186 12), .int (gx_1186 13), .int (gx_1186 14), .int (gx_1186 15), .int (gx_1186 16), .int (gx_1186 17), .int (gx_1186 18)])), ((ax 1), .inr (0, [.int mo_1188, .ref ad_1189, .int ln_1190])), ((ax 2), .inr (2, [.ref (ax 3), .int pk_1194])), ((ax 3), .inl (eC E 1, 157, .inr (.inl pw_1193))), ((ax 4), .inr (2, [.ref (ax 5), .int lk_1196])), ((ax 5), .inl (eC E 1, 157, .inr (.inl lw_1195))), ((ax 6), .inl (eC E 0, 3, .inl ik_1197))] ++ va_pl PL_1191 pf_1192) := hD1.weaken (fun _ q _ h => hFc q.1 h)
              refine lv_sipush (v := (-1151)) hx hb dL_isRefused_186 (by decide) ?_
              refine lv_icmp_ne (tgt := 224) hx hb dL_isRefused_189 (by decide) (fun c_1198 => ?_) (fun c_1198 => ?_)
              · have hw := hw.2 c_1198
                exact hw.elim
              · have hw := hw.1 c_1198
                refine lv_aload_n hx hb dL_isRefused_192 rfl (lv_at hl 4 rfl) ?_
                refine lv_iconst (v := 5) hx hb dL_isRefused_193 (by decide) ?_
                refine lv_iload hx hb dL_isRefused_194 (lv_at hl 1 rfl) ?_
                refine lv_iconst (v := 5) hx hb dL_isRefused_196 (by decide) ?_
                have hPc : va_P (eD E) vwCl (wX E ax gx_1186 lt_1187 mo_1188 ad_1189 ln_1190 PL_1191 pf_1192 pw_1193 pk_1194 lw_1195 lk_1196 ik_1197) H := hP
                have hDc : va_D A (wX E ax gx_1186 lt_1187 mo_1188 ad_1189 ln_1190 PL_1191 pf_1192 pw_1193 pk_1194 lw_1195 lk_1196 ik_1197) := hD
                have hFc : ∀ q, va_A (wX E ax gx_1186 lt_1187 mo_1188 ad_1189 ln_1190 PL_1191 pf_1192 pw_1193 pk_1194 lw_1195 lk_1196 ik_1197) H.size q → A q := frS hDc hS hA
                refine va_calli (vx_runSW (As := [.ref (ax 0), .int 5, .int ((-1) - (p0 - p0 / 30 * 30)), .int 5]) (rest := []) ⟨hx, hb, hml, hown, hta⟩ (c_L_act E l ax gx_1186 lt_1187 mo_1188 ad_1189 ln_1190 PL_1191 pf_1192 pw_1193 pk_1194 lw_1195 lk_1196 ik_1197 5 ((-1) - (p0 - p0 / 30 * 30)) 5 H.size _ hw hst) (pcSW (n := 4) hta tw_231 tw_229 tw_0 tw_230 rfl rfl hd_L_act ⟨Nat.le_of_ble_eq_true rfl, Nat.le_of_ble_eq_true rfl⟩) ⟨fbM, fun U hU hW => ⟨rfl, preM.mk hPc hKE hDc hZ hS hFc hU hW⟩⟩ rfl rfl hl.1 rfl (lv_room (Nat.le_of_ble_eq_true rfl)) dL_isRefused_197 ⟨Nat.le_of_ble_eq_true rfl, Nat.le_of_ble_eq_true rfl⟩) hS (fun q _ h => hFc q h) hFc (fun r_1199 u t H locs ht hvm hw hB hz1 hk1 hS => ?_)
                obtain ⟨gx_1200, lt_1201, mo_1202, ad_1203, ln_1204, PL_1205, pf_1206, pw_1207, pk_1208, lw_1209, lk_1210, ik_1211⟩ := u
                obtain ⟨hP1, hD1⟩ := hB
                rw [ht] at hP1
                try dsimp only at hw hP1 hD1
                have hP : va_P (eD E) vwCl ([((ax 0), .inr (3, [.ref (ax 1), .ref (ax 2), .ref (ax 4), .ref (ax 6), .int (gx_1200 4), .int (gx_1200 5), .int (gx_1200 6), .int (gx_1200 7), va_rf lt_1201, .int (gx_1200 9), .int (gx_1200 10), .int (gx_1200 11), .int (gx_1200 12), .int (gx_1200 13), .int (gx_1200 14), .int (gx_1200 15), .int (gx_1200 16), .int (gx_1200 17), .int (gx_1200 18)])), ((ax 1), .inr (0, [.int mo_1202, .ref ad_1203, .int ln_1204])), ((ax 2), .inr (2, [.ref (ax 3), .int pk_1208])), ((ax 3), .inl (eC E 1, 157, .inr (.inl pw_1207))), ((ax 4), .inr (2, [.ref (ax 5), .int lk_1210])), ((ax 5), .inl (eC E 1, 157, .inr (.inl lw_1209))), ((ax 6), .inl (eC E 0, 3, .inl ik_1211))] ++ va_pl PL_1205 pf_1206) H := hP1
                have hD : va_D A ([((ax 0), .inr (3, [.ref (ax 1), .ref (ax 2), .ref (ax 4), .ref (ax 6), .int (gx_1200 4), .int (gx_1200 5), .int (gx_1200 6), .int (gx_1200 7), va_rf lt_1201, .int (gx_1200 9), .int (gx_1200 10), .int (gx_1200 11), .int (gx_1200 12), .int (gx_1200 13), .int (gx_1200 14), .int (gx_1200 15), .int (gx_1200 16), .int (gx_1200 17), .int (gx_1200 18)])), ((ax 1), .inr (0, [.int mo_1202, .ref ad_1203, .int ln_1204])), ((ax 2), .inr (2, [.ref (ax 3), .int pk_1208])), ((ax 3), .inl (eC E 1, 157, .inr (.inl pw_1207))), ((ax 4), .inr (2, [.ref (ax 5), .int lk_1210])), ((ax 5), .inl (eC E 1, 157, .inr (.inl lw_1209))), ((ax 6), .inl (eC E 0, 3, .inl ik_1211))] ++ va_pl PL_1205 pf_1206) := hD1.weaken (fun _ q _ h => hFc q.1 h)
                refine lv_sipush (v := (-1151)) hx hb dL_isRefused_200 (by decide) ?_
                refine lv_icmp_ne (tgt := 224) hx hb dL_isRefused_203 (by decide) (fun c_1212 => ?_) (fun c_1212 => ?_)
                · have hw := hw.2 c_1212
                  exact hw.elim
                · have hw := hw.1 c_1212
                  refine lv_aload_n hx hb dL_isRefused_206 rfl (lv_at hl 4 rfl) ?_
                  refine lv_iconst (v := 5) hx hb dL_isRefused_207 (by decide) ?_
                  refine lv_iconst (v := 5) hx hb dL_isRefused_208 (by decide) ?_
                  refine lv_iload hx hb dL_isRefused_209 (lv_at hl 1 rfl) ?_
                  have hPc : va_P (eD E) vwCl (wX E ax gx_1200 lt_1201 mo_1202 ad_1203 ln_1204 PL_1205 pf_1206 pw_1207 pk_1208 lw_1209 lk_1210 ik_1211) H := hP
                  have hDc : va_D A (wX E ax gx_1200 lt_1201 mo_1202 ad_1203 ln_1204 PL_1205 pf_1206 pw_1207 pk_1208 lw_1209 lk_1210 ik_1211) := hD
                  have hFc : ∀ q, va_A (wX E ax gx_1200 lt_1201 mo_1202 ad_1203 ln_1204 PL_1205 pf_1206 pw_1207 pk_1208 lw_1209 lk_1210 ik_1211) H.size q → A q := frS hDc hS hA
                  refine va_calli (vx_runSW (As := [.ref (ax 0), .int 5, .int 5, .int ((-1) - (p0 - p0 / 30 * 30))]) (rest := []) ⟨hx, hb, hml, hown, hta⟩ (c_L_act E l ax gx_1200 lt_1201 mo_1202 ad_1203 ln_1204 PL_1205 pf_1206 pw_1207 pk_1208 lw_1209 lk_1210 ik_1211 5 5 ((-1) - (p0 - p0 / 30 * 30)) H.size _ hw hst) (pcSW (n := 4) hta tw_231 tw_229 tw_0 tw_230 rfl rfl hd_L_act ⟨Nat.le_of_ble_eq_true rfl, Nat.le_of_ble_eq_true rfl⟩) ⟨fbM, fun U hU hW => ⟨rfl, preM.mk hPc hKE hDc hZ hS hFc hU hW⟩⟩ rfl rfl hl.1 rfl (lv_room (Nat.le_of_ble_eq_true rfl)) dL_isRefused_211 ⟨Nat.le_of_ble_eq_true rfl, Nat.le_of_ble_eq_true rfl⟩) hS (fun q _ h => hFc q h) hFc (fun r_1213 u t H locs ht hvm hw hB hz1 hk1 hS => ?_)
                  obtain ⟨gx_1214, lt_1215, mo_1216, ad_1217, ln_1218, PL_1219, pf_1220, pw_1221, pk_1222, lw_1223, lk_1224, ik_1225⟩ := u
                  obtain ⟨hP1, hD1⟩ := hB
                  rw [ht] at hP1
                  try dsimp only at hw hP1 hD1
                  have hP : va_P (eD E) vwCl ([((ax 0), .inr (3, [.ref (ax 1), .ref (ax 2), .ref (ax 4), .ref (ax 6), .int (gx_1214 4), .int (gx_1214 5), .int (gx_1214 6), .int (gx_1214 7), va_rf lt_1215, .int (gx_1214 9), .int (gx_1214 10), .int (gx_1214 11), .int (gx_1214 12), .int (gx_1214 13), .int (gx_1214 14), .int (gx_1214 15), .int (gx_1214 16), .int (gx_1214 17), .int (gx_1214 18)])), ((ax 1), .inr (0, [.int mo_1216, .ref ad_1217, .int ln_1218])), ((ax 2), .inr (2, [.ref (ax 3), .int pk_1222])), ((ax 3), .inl (eC E 1, 157, .inr (.inl pw_1221))), ((ax 4), .inr (2, [.ref (ax 5), .int lk_1224])), ((ax 5), .inl (eC E 1, 157, .inr (.inl lw_1223))), ((ax 6), .inl (eC E 0, 3, .inl ik_1225))] ++ va_pl PL_1219 pf_1220) H := hP1
                  have hD : va_D A ([((ax 0), .inr (3, [.ref (ax 1), .ref (ax 2), .ref (ax 4), .ref (ax 6), .int (gx_1214 4), .int (gx_1214 5), .int (gx_1214 6), .int (gx_1214 7), va_rf lt_1215, .int (gx_1214 9), .int (gx_1214 10), .int (gx_1214 11), .int (gx_1214 12), .int (gx_1214 13), .int (gx_1214 14), .int (gx_1214 15), .int (gx_1214 16), .int (gx_1214 17), .int (gx_1214 18)])), ((ax 1), .inr (0, [.int mo_1216, .ref ad_1217, .int ln_1218])), ((ax 2), .inr (2, [.ref (ax 3), .int pk_1222])), ((ax 3), .inl (eC E 1, 157, .inr (.inl pw_1221))), ((ax 4), .inr (2, [.ref (ax 5), .int lk_1224])), ((ax 5), .inl (eC E 1, 157, .inr (.inl lw_1223))), ((ax 6), .inl (eC E 0, 3, .inl ik_1225))] ++ va_pl PL_1219 pf_1220) := hD1.weaken (fun _ q _ h => hFc q.1 h)
                  refine lv_sipush (v := (-1151)) hx hb dL_isRefused_214 (by decide) ?_
                  refine lv_icmp_ne (tgt := 224) hx hb dL_isRefused_217 (by decide) (fun c_1226 => ?_) (fun c_1226 => ?_)
                  · have hw := hw.2 c_1226
                    exact hw.elim
                  · have hw := hw.1 c_1226
                    refine lv_iconst (v := 1) hx hb dL_isRefused_220 (by decide) ?_
                    refine lv_goto (tgt := 225) hx hb dL_isRefused_221 (by decide) ?_
                    refine lv_istore (lv' := [(7, .int 1), (5, .long r_1114), (4, .int ((-1) - (p0 - p0 / 30 * 30))), (3, .int ((-1) - (p0 - p0 / 30 * 30))), (2, .int 1), (0, .ref (ax 0)), (1, .int p0)]) hx hb dL_isRefused_225 hl (by decide) rfl (fun ls hl => ?_)
                    refine lv_iload hx hb dL_isRefused_227 (lv_at hl 0 rfl) ?_
                    refine lv_if_eq (tgt := 246) hx hb dL_isRefused_229 (by decide) (fun c9 => absurd c9 (by decide)) (fun _ => ?_)
                    refine lv_aload_n hx hb dL_isRefused_232 rfl (lv_at hl 5 rfl) ?_
                    have hPc : va_P (eD E) vwCl (wX E ax gx_1214 lt_1215 mo_1216 ad_1217 ln_1218 PL_1219 pf_1220 pw_1221 pk_1222 lw_1223 lk_1224 ik_1225) H := hP
                    refine vp_callSl (va_Run.run (va_runS (As := [.ref (ax 0)]) (rest := []) ⟨hx, hb, hml, hown, hta⟩ (c_L_all E l ax gx_1214 lt_1215 mo_1216 ad_1217 ln_1218 PL_1219 pf_1220 pw_1221 pk_1222 lw_1223 lk_1224 ik_1225 _ hw) (pcS (n := 1) hta tw_548 tw_546 tw_0 tw_547 rfl rfl hd_L_all ⟨Nat.le_of_ble_eq_true rfl, Nat.le_of_ble_eq_true rfl⟩) ⟨fbR, fun U hU hW => ⟨rfl, preR.mk hPc hKE hU hW⟩⟩ rfl rfl hl.1 rfl (lv_room (Nat.le_of_ble_eq_true rfl)) dL_isRefused_233 ⟨Nat.le_of_ble_eq_true rfl, Nat.le_of_ble_eq_true rfl⟩)) (fun r_1227 hw => ?_)
                    refine lv_lload hx hb dL_isRefused_236 (lv_at hl 1 rfl) ?_
                    refine W.lcmp hx hb dL_isRefused_238 ?_
                    refine lv_if_ne (tgt := 246) hx hb dL_isRefused_239 (by decide) (fun c_1228 => ?_) (fun c_1228 => ?_)
                    · have hw := hw.2 c_1228
                      exact hw.elim
                    · have hw := hw.1 c_1228
                      refine lv_iconst (v := 1) hx hb dL_isRefused_242 (by decide) ?_
                      refine lv_goto (tgt := 247) hx hb dL_isRefused_243 (by decide) ?_
                      have hP9 : va_P (eD E) vwCl (wX E ax gx_1214 lt_1215 mo_1216 ad_1217 ln_1218 PL_1219 pf_1220 pw_1221 pk_1222 lw_1223 lk_1224 ik_1225) H := hP
                      have hD9 : va_D A (wX E ax gx_1214 lt_1215 mo_1216 ad_1217 ln_1218 PL_1219 pf_1220 pw_1221 pk_1222 lw_1223 lk_1224 ik_1225) := hD
                      exact W.zret (v := 1) hx hb hr rfl (fun t ht hW => ⟨⟨1, (gx_1214, lt_1215, mo_1216, ad_1217, ln_1218, PL_1219, pf_1220, pw_1221, pk_1222, lw_1223, lk_1224, ik_1225), rfl, hw, ⟨by rw [ht]; exact hP9, hD9⟩⟩, hS.F ht⟩) hS.2.2 dL_isRefused_247
