theorem cmd_cell {E : EV} {s : State} {H : Heap} {X : va_W} {L : List Nat} {f : Nat → va_E} {a : Nat} {vs : List Value} (hKE : KE E s) (hP : va_P (eD E) vwCl (X ++ va_pl L f) H) (hy : a ∈ L) (hf : f a = .inr (1, vs)) : ∃ cell : Cell, H[a]? = some cell ∧ cell.vm.isStatics = false ∧ s.vm.findClass RX0 = some cell.cls := by
  obtain ⟨k, hk⟩ := va_pl_get (X := X) (f := f) hy
  rw [hf] at hk
  exact va_recv hKE.1 hP (ci := 1) (q0 := k) (q := (RX0, TX0, 4)) rfl hk
theorem nmO2 {E : EV} {s : State} (hKE : KE E s) : s.vm.findClass "[Ljava/lang/Object;" = some (eC E 2) := va_nmO (hKE.1.2 2 (eC E 2, .object "java/lang/Object") rfl).2 rfl
theorem arr_cell {E : EV} {s : State} {H : Heap} {ws : va_W} {i a n : Nat} {f : Nat → Option Nat} (hKE : KE E s) (hP : va_P (eD E) vwCl ws H) (h : ws[i]? = some (a, .inl (eC E 2, n, .inr (.inr (.inr (.inr f)))))) : ∃ cell : Cell, H[a]? = some cell ∧ cell.vm.isStatics = false ∧ s.vm.findClass "[Ljava/lang/Object;" = some cell.cls :=
  ⟨vp_cell (eC E 2) (n, .inr (.inr (.inr (.inr f)))), hP i _ h, rfl, nmO2 hKE⟩
theorem pl_push {D : va_G} {cl : List vw_C} {A : Nat → Prop} {X : va_W} {L : List Nat} {f : Nat → va_E} {q : Nat} {e : va_E} {H : Heap} (hP : va_P D cl ((X ++ va_pl L f) ++ [(q, e)]) H) (hD : va_D A ((X ++ va_pl L f) ++ [(q, e)])) : q ∉ L ∧ va_P D cl (X ++ va_pl (L ++ [q]) (va_up f q e)) H ∧ va_D A (X ++ va_pl (L ++ [q]) (va_up f q e)) := by
  have h := va_pl_fresh2 hD
  have e1 : (X ++ va_pl L f) ++ [(q, e)] = X ++ va_pl (L ++ [q]) (va_up f q e) := by rw [List.append_assoc, va_pl_push h]
  rw [e1] at hP hD
  exact ⟨h, hP, hD⟩
theorem pl_set {D : va_G} {cl : List vw_C} {A B : Nat → Prop} {X : va_W} {L : List Nat} {f : Nat → va_E} {a k : Nat} {e : va_E} {H : Heap} (hD0 : va_D A (X ++ va_pl L f)) (h : a ∈ L) (hk : (X ++ va_pl L f)[k]? = some (a, f a)) (hP : va_P D cl ((X ++ va_pl L f).set k (a, e)) H) (hD : va_D B ((X ++ va_pl L f).set k (a, e))) : va_P D cl (X ++ va_pl L (va_up f a e)) H ∧ va_D B (X ++ va_pl L (va_up f a e)) := by
  rw [va_pl_set hD0 h hk] at hP hD
  exact ⟨hP, hD⟩
theorem newO {E : EV} {s : State} {tys : List (ClassId × FieldType)} {cA : ClassId} (hKE : KE E s) (hK : va_K (eD E) vwCl (tys ++ [(cA, .object "java/lang/Object")]) s) : cA = eC E 2 := by
  have h1 := hK.2 tys.length (cA, .object "java/lang/Object") (by rw [List.getElem?_append_right (Nat.le_refl _), Nat.sub_self]; rfl)
  exact Option.some.inj ((va_nmO h1.2 rfl).symm.trans (nmO2 hKE))
theorem newI {E : EV} {s : State} {tys : List (ClassId × FieldType)} {cA : ClassId} (hKE : KE E s) (hK : va_K (eD E) vwCl (tys ++ [(cA, .int)]) s) : cA = eC E 0 := by
  have h1 := hK.2 tys.length (cA, .int) (by rw [List.getElem?_append_right (Nat.le_refl _), Nat.sub_self]; rfl)
  exact Option.some.inj ((va_nm_int h1.2).symm.trans (va_nm_int (hKE.1.2 0 (eC E 0, .int) rfl).2))
theorem newJ {E : EV} {s : State} {tys : List (ClassId × FieldType)} {cA : ClassId} (hKE : KE E s) (hK : va_K (eD E) vwCl (tys ++ [(cA, .long)]) s) : cA = eC E 1 := by
  have h1 := hK.2 tys.length (cA, .long) (by rw [List.getElem?_append_right (Nat.le_refl _), Nat.sub_self]; rfl)
  exact Option.some.inj ((va_nm_long h1.2).symm.trans (va_nm_long (hKE.1.2 1 (eC E 1, .long) rfl).2))
theorem newq_ne {E : EV} {A : Nat → Prop} {s : State} {H0 : Heap} {ws : va_W} {q : Nat} {e : va_E} (hZ : ZE E A s H0) (hD : va_D A (ws ++ [(q, e)])) : ¬ q = eA E 0 := by
  obtain ⟨-, ⟨cell, -, -, -, -, -, -, h⟩, -⟩ := hZ
  intro he
  apply h
  rw [← he]
  exact hD.2 ws.length (q, e) (by simp)
