abbrev nmE : List String := ["java/lang/RuntimeException", "java/lang/Exception"]
abbrev sIA : String := "java/lang/IllegalArgumentException"
abbrev sIB : String := "java/lang/IndexOutOfBoundsException"
set_option maxRecDepth 100000 in
theorem at_ia : ∀ w ∈ vx_atS RX2 34 sIA nmE, w ∈ lw_tbl := by decide +kernel
set_option maxRecDepth 100000 in
theorem at_ib : ∀ w ∈ vx_atS RX2 166 sIB nmE, w ∈ lw_tbl := by decide +kernel
set_option maxRecDepth 100000 in
theorem ot_ia : ∀ w ∈ Cond.classLink RX2 30 sIA :: Cond.initialized sIA :: vx_atS RX2 34 sIA nmE, vx_ot w = true := by decide +kernel
set_option maxRecDepth 100000 in
theorem ot_ib : ∀ w ∈ Cond.classLink RX2 162 sIB :: Cond.initialized sIB :: vx_atS RX2 166 sIB nmE, vx_ot w = true := by decide +kernel
set_option maxRecDepth 100000 in
theorem nw_ia : ∀ w ∈ (vx_atS RX2 34 sIA nmE).filter (fun w => !goodWord w), w ∈ nwl := by decide +kernel
set_option maxRecDepth 100000 in
theorem nw_ib : ∀ w ∈ (vx_atS RX2 166 sIB nmE).filter (fun w => !goodWord w), w ∈ nwl := by decide +kernel
theorem hat_ia {E : EV} {args : Array Value} {s : State} (hta : ∀ w ∈ ALLW, w.before args s = true) (hKE : KE E s) : ∀ w ∈ vx_atS RX2 34 sIA nmE, w.before args s = true :=
  vx_hat (B := nwl) (fun w hw => hta w (twA (at_ia w (List.mem_filter.mp hw).1) (List.mem_filter.mp hw).2)) nw_ia (fun w hw => va_Nw.use (nwl_ot w hw) (hKE.2.1 w hw))
theorem hat_ib {E : EV} {args : Array Value} {s : State} (hta : ∀ w ∈ ALLW, w.before args s = true) (hKE : KE E s) : ∀ w ∈ vx_atS RX2 166 sIB nmE, w.before args s = true :=
  vx_hat (B := nwl) (fun w hw => hta w (twA (at_ib w (List.mem_filter.mp hw).1) (List.mem_filter.mp hw).2)) nw_ib (fun w hw => va_Nw.use (nwl_ot w hw) (hKE.2.1 w hw))
theorem fit_E : ∀ n ∈ nmE, Bundle.fit n = true := by decide +kernel
theorem fit_ia : Bundle.fit sIA = true := by decide +kernel
theorem fit_ib : Bundle.fit sIB = true := by decide +kernel
theorem va_D_one {A : Nat → Prop} {ws : va_W} (hD : va_D A ws) {i : Nat} {q : Nat × va_E} (h : ws[i]? = some q) : va_D A [q] := by
  refine ⟨fun a b x y hx hy _ => ?_, fun k x hx => ?_⟩
  · have h1 : a < 1 := (List.getElem?_eq_some_iff.mp hx).1
    have h2 : b < 1 := (List.getElem?_eq_some_iff.mp hy).1
    omega
  · rcases k with _ | k
    · cases hx; exact hD.2 i q h
    · cases hx
theorem va_in_one {ws : va_W} {i : Nat} {q : Nat × va_E} (h : ws[i]? = some q) : ∀ (k : Nat) (x : Nat × va_E), [q][k]? = some x → ∃ i : Nat, ws[i]? = some x := by
  intro k x hx
  rcases k with _ | k
  · cases hx; exact ⟨i, h⟩
  · cases hx
/-- behind a call that had one cell of the pool -/
theorem jnP {D : va_G} {cl : List vw_C} {A : Nat → Prop} {X : va_W} {L : List Nat} {f : Nat → va_E} {q : Nat} {e0 e1 : va_E} {H H1 : Heap} (hP : va_P D cl (X ++ va_pl L f) H) (hD : va_D A (X ++ va_pl L f)) (hy : q ∈ L) (h0 : f q = e0) (hk : ∀ a : Nat, a < H.size → ¬ va_A [(q, e0)] H.size a → H1[a]? = H[a]?) (hP1 : va_P D cl [(q, e1)] H1) : va_P D cl (X ++ va_pl L (va_up f q e1)) H1 ∧ va_D A (X ++ va_pl L (va_up f q e1)) := by
  obtain ⟨k, hk1⟩ := va_pl_get (X := X) (f := f) hy
  have hlt := (List.getElem?_eq_some_iff.mp hk1).1
  have h := jnI (ws1 := (X ++ va_pl L f).set k (q, e1)) hP hD [k] (wc := [(q, e0)]) (by rw [← h0]; simp only [List.map_cons, List.map_nil, hk1]) hk hP1 (by
      apply List.ext_getElem?
      intro i
      rw [List.getElem?_map, List.getElem?_map, List.getElem?_set]
      by_cases hi : k = i
      · subst hi; rw [if_pos rfl, if_pos hlt, hk1]; rfl
      · rw [if_neg hi]) (by
      intro i hi
      rw [List.getElem?_set_ne (by intro h9; exact hi (by rw [h9]; exact List.mem_cons_self))]) (by
      intro j i hj
      rcases j with _ | j
      · cases hj; rw [List.getElem?_set_self hlt]; rfl
      · cases hj)
  rw [va_pl_set hD hy hk1] at h
  exact h
