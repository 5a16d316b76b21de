/-! the list's add -/
abbrev arE (E : EV) (N : Nat) (af : Nat → Option Nat) : va_E := .inl (eC E 2, N, .inr (.inr (.inr (.inr af))))
theorem rq_store {E : EV} {PL : List Nat} {pf : Nat → va_E} {ad N : Nat} {af : Nat → Option Nat} {q : List Cm} {c : Cm} {cm : Nat} (n0 : ¬ ad = eA E 0) (h1 : ad ∈ PL) (h2 : pf ad = arE E N af) (h3 : q.length < N) (h5 : N ≤ 32) (h6 : ∀ (i : Nat) (d : Cm), q[i]? = some d → ∃ y, af i = some y ∧ isC PL pf y d) (hc : isC PL pf cm c) : RQ E PL (va_up pf ad (arE E N (va_up af q.length (some cm)))) ad (q ++ [c]) := by
  refine Or.inr ⟨n0, N, _, h1, va_up_self _ _ _, ?_, by omega, h5, fun i d hi => ?_⟩
  · rw [List.length_append]; show q.length + 1 ≤ N; omega
  · by_cases e : i < q.length
    · rw [List.getElem?_append_left e] at hi
      obtain ⟨y, y1, y2⟩ := h6 i d hi
      exact ⟨y, by rw [va_up_ne _ _ (by omega)]; exact y1, isC_arr y2 h2⟩
    · rw [List.getElem?_append_right (by omega)] at hi
      by_cases e2 : i = q.length
      · rw [e2, Nat.sub_self] at hi
        rw [← Option.some.inj hi, e2]
        exact ⟨cm, va_up_self _ _ _, isC_arr hc h2⟩
      · rw [show i - q.length = (i - q.length - 1) + 1 by omega] at hi
        exact nomatch hi
theorem isC_push {PL : List Nat} {pf : Nat → va_E} {q y : Nat} {w : va_E} {c : Cm} (hq : q ∉ PL) (h : isC PL pf y c) : isC (PL ++ [q]) (va_up pf q w) y c :=
  ⟨List.mem_append_left _ h.1, by rw [va_up_ne _ _ (fun e => hq (by rw [← e]; exact h.1))]; exact h.2⟩
theorem halfI : ∀ N : Fin 33, (iI (N.val : Int)) >>> ((1 : Int32) &&& 31) = iI ((N.val / 2 : Nat) : Int) := by decide
theorem s_add {E : EV} {post : Int32 → Int32 → Nat → Int32 → List Nat → (Nat → va_E) → Prop} {mo : Int32} {ad : Nat} {PL : List Nat} {pf : Nat → va_E} {cm : Nat} {c : Cm} {q : List Cm} (hq : RQ E PL pf ad q) (hl : q.length ≤ 15) (hc : isC PL pf cm c) (hp : ∀ mo' ad' PL' pf', RQ E PL' pf' ad' (q ++ [c]) → (∀ y d, isC PL pf y d → isC PL' pf' y d) → post 1 mo' ad' (iI ((q.length : Int) + 1)) PL' pf') : wp_Jx4a65c_add_9ea2d E post mo ad (iI (q.length : Int)) PL pf cm := by
  refine ⟨fun e => ?_, fun e => ?_⟩
  · rcases hq with ⟨-, h2⟩ | ⟨n0, -⟩
    · subst h2
      unfold wp_Jx4a65c_add_9ea2d_v wp_Jx4a65c_add_72be8_v
      refine ⟨fun _ => ?_, fun n => absurd l0.symm n⟩
      unfold wp_Jx4a65c_grow_d5877_v wp_Jx4a65c_grow_92f84_v
      have e10 : (if (10 : Int32) < iI (([] : List Cm).length : Int) + 1 then iI (([] : List Cm).length : Int) + 1 else 10) = 10 := by decide
      rw [e10]
      refine ⟨by decide, fun a hf hz pf1 e1 => ⟨fun n => (nomatch n), fun y ey => ?_⟩⟩
      rw [← Option.some.inj ey]
      have hc1 : isC (PL ++ [a]) pf1 cm c := by rw [e1]; exact isC_push hf hc
      have ha : pf1 a = arE E 10 (fun _ => none) := by rw [e1]; exact va_up_self _ _ _
      have hm : a ∈ PL ++ [a] := List.mem_append_right _ (List.mem_singleton.mpr rfl)
      refine ⟨_, _, _, _, hc1.1, hc1.2, _, _, hm, ha, ?_, fun pf2 e2 => ?_⟩
      · show vp_in (iI 0) 10
        rw [iI_in (by omega) (by omega)]; omega
      · have := hp (mo + 1) a (PL ++ [a]) pf2 (by
          rw [e2]
          exact rq_store (q := []) hz hm ha (by show 0 < 10; omega) (by omega) (fun i d hi => (by simp at hi)) hc1) (fun y d hy => by
          rw [e2]
          have hy1 : isC (PL ++ [a]) pf1 y d := by rw [e1]; exact isC_push hf hy
          exact isC_arr hy1 ha)
        rw [l1, iI_add]
        exact this
    · exact absurd e n0
  · rcases hq with ⟨h1, -⟩ | ⟨n0, N, af, h1, h2, h3, h4, h5, h6⟩
    · exact absurd h1 e
    · unfold wp_Jx4a65c_add_9ea2d_g wp_Jx4a65c_add_72be8
      refine ⟨N, af, h1, h2, ?_⟩
      rw [show Int32.ofNat N = iI (N : Int) from iI_nat N]
      rw [iI_eq (by omega) (by omega) (by omega) (by omega)]
      refine ⟨fun hN => ?_, fun hN => ?_⟩
      · have hN : q.length = N := by omega
        unfold wp_Jx4a65c_grow_d5877 wp_Jx4a65c_grow_92f84
        refine ⟨N, af, h1, h2, fun _ => ?_, fun n => ?_⟩
        · have hh : (iI (N : Int)) >>> ((1 : Int32) &&& 31) = iI ((N / 2 : Nat) : Int) := halfI ⟨N, by omega⟩
          have e12 : (if iI 1 < iI ((N / 2 : Nat) : Int) then iI ((N / 2 : Nat) : Int) else iI 1) = iI (if (1 : Int) < ((N / 2 : Nat) : Int) then ((N / 2 : Nat) : Int) else 1) := by
            simp (disch := omega) only [iI_lt, iI_if]
          rw [show Int32.ofNat N = iI (N : Int) from iI_nat N, hh, l1, iI_add, iI_sub, hN, show (N : Int) + 1 - (N : Int) = 1 by omega]
          unfold wp_J8_newLength_cabcc
          rw [e12, iI_add, l0]
          have hM : ∃ M : Nat, N < M ∧ M ≤ 32 ∧ ((N : Int) + (if (1 : Int) < ((N / 2 : Nat) : Int) then ((N / 2 : Nat) : Int) else 1)) = (M : Int) := by
            by_cases e9 : (1 : Int) < ((N / 2 : Nat) : Int)
            · rw [if_pos e9]; exact ⟨N + N / 2, by omega, by omega, by omega⟩
            · rw [if_neg e9]; exact ⟨N + 1, by omega, by omega, by omega⟩
          obtain ⟨M, m1, m2, m3⟩ := hM
          rw [m3, show (2147483639 : Int32) = iI 2147483639 by decide]
          simp (disch := omega) only [iI_le, iI_lt]
          refine ⟨fun n => by omega, fun _ => ⟨fun n => by omega, fun _ => ?_⟩⟩
          unfold wp_J7_copyOf_1904c
          refine ⟨N, af, h1, h2, ?_⟩
          unfold wp_J7_copyOf_6403c
          have emin : (if iI (M : Int) < iI (N : Int) then iI (M : Int) else iI (N : Int)) = iI (N : Int) := if_neg (by rw [iI_lt (by omega) (by omega) (by omega) (by omega)]; omega)
          refine ⟨?_, fun a hf hz pf1 e1 => ?_⟩
          · rw [l0, iI_lt (by omega) (by omega) (by omega) (by omega), iI_cl (by omega) (by omega)]; omega
          · have hk1 : ∀ y d, isC PL pf y d → isC (PL ++ [a]) pf1 y d := fun y d hy => by rw [e1]; exact isC_push hf hy
            have hm : a ∈ PL ++ [a] := List.mem_append_right _ (List.mem_singleton.mpr rfl)
            have had : ad ≠ a := fun e8 => hf (by rw [← e8]; exact h1)
            have ha0 : pf1 ad = arE E N af := by rw [e1, va_up_ne _ _ had]; exact h2
            refine ⟨N, af, List.mem_append_left _ h1, ha0, ?_, ?_, fun pf2 e2 => ⟨fun n => (nomatch n), fun y ey => ?_⟩⟩
            · rw [show Int32.ofNat N = iI (N : Int) from iI_nat N, l0]
              rw [emin]
              simp (disch := omega) only [iI_lt, iI_cl]
              omega
            · intro i hi y hy
              rw [show Int32.ofNat N = iI (N : Int) from iI_nat N, emin, iI_cl (by omega) (by omega)] at hi
              rw [l0, iI_cl (by omega) (by omega), show (0 : Int).toNat + i = i by omega] at hy
              have hi2 : i < q.length := by omega
              obtain ⟨z, z1, z2⟩ := h6 i (q[i]) (List.getElem?_eq_getElem hi2)
              rw [z1] at hy
              have hz := hk1 z _ z2
              rw [← Option.some.inj hy]
              exact ⟨hz.1, _, _, _, _, hz.2⟩
            · rw [← Option.some.inj ey]
              refine ⟨fun n => (nomatch n), fun y2 ey2 => ?_⟩
              rw [← Option.some.inj ey2]
              have ha1 : pf1 a = arE E M (fun _ => none) := by
                rw [e1, va_up_self, iI_cl (by omega) (by omega)]
                rfl
              have hk2 : ∀ y d, isC PL pf y d → isC (PL ++ [a]) pf2 y d := fun y d hy => by rw [e2]; exact isC_arr (hk1 y d hy) ha1
              have hc2 := hk2 cm c hc
              have ha2 : pf2 a = arE E M (va_cpy af (fun _ => none) (0 : Nat) (0 : Nat) N) := by
                rw [e2, va_up_self, iI_cl (by omega) (by omega), show Int32.ofNat N = iI (N : Int) from iI_nat N, emin, iI_cl (by omega) (by omega)]
                rfl
              refine ⟨_, _, _, _, hc2.1, hc2.2, M, _, hm, ha2, (iI_in (by omega) (by omega)).mpr (by omega), fun pf3 e3 => ?_⟩
              have := hp (mo + 1) a (PL ++ [a]) pf3 (by
                rw [e3, iI_cl (by omega) (by omega), ← hN]
                exact rq_store (q := q) hz hm (by rw [hN]; exact ha2) (by omega) m2 (fun i d hi => by
                  have hi2 : i < q.length := (List.getElem?_eq_some_iff.mp hi).1
                  obtain ⟨z, z1, z2⟩ := h6 i d hi
                  refine ⟨z, ?_, hk2 z d z2⟩
                  unfold va_cpy
                  rw [if_pos (by omega), show 0 + (i - 0) = i by omega]
                  exact z1) hc2) (fun y d hy => by
                rw [e3]
                exact isC_arr (hk2 y d hy) ha2)
              rw [hN] at this
              exact this
        · exact n ((iI_lt (x := 0) (y := (N : Int)) (by omega) (by omega) (by omega) (by omega)).mpr (by omega))
      · have hN2 : q.length < N := by omega
        refine ⟨_, _, _, _, hc.1, hc.2, (iI_in (by omega) (by omega)).mpr (by omega), fun pf1 e1 => ?_⟩
        rw [l1, iI_add]
        rw [iI_cl (by omega) (by omega), Int.toNat_natCast] at e1
        refine hp _ _ _ _ ?_ ?_
        · rw [e1]; exact rq_store n0 h1 h2 hN2 h5 h6 hc
        · intro y d hy; rw [e1]; exact isC_arr hy h2
