theorem va_P_nil {D : va_G} {cl : List vw_C} {H : Heap} : va_P D cl [] H := fun k q h => by simp at h
theorem va_D_nil {A : Nat → Prop} : va_D A [] := ⟨fun i j p q h => by simp at h, fun k q h => by simp at h⟩
theorem va_one {D : va_G} {cl : List vw_C} {ws : va_W} {H : Heap} (hP : va_P D cl ws H) {i : Nat} {q : Nat × va_E} (h : ws[i]? = some q) : va_P D cl [q] H := by
  intro k x hx
  rcases k with _ | k
  · cases hx; exact hP i q h
  · cases hx
/-- behind a call that had the cells at the places 'is': those anew, the others as they were -/
theorem jnI {A : Nat → Prop} {D : va_G} {cl : List vw_C} {ws wc w1 ws1 : va_W} {H H1 : Heap} (hP : va_P D cl ws H) (hD : va_D A ws) (is : List Nat) (hC : is.map (fun i => ws[i]?) = wc.map some) (hk : ∀ q : Nat, q < H.size → ¬ va_A wc H.size q → H1[q]? = H[q]?) (hP1 : va_P D cl w1 H1) (he : ws.map Prod.fst = ws1.map Prod.fst)
    (h1 : ∀ k : Nat, k ∉ is → ws1[k]? = ws[k]?) (h2 : ∀ j i : Nat, is[j]? = some i → ws1[i]? = w1[j]?) : va_P D cl ws1 H1 ∧ va_D A ws1 := by
  refine jn hP hD hk hP1 he fun k q hq => ?_
  by_cases hm : k ∈ is
  · obtain ⟨j, hj⟩ := List.getElem?_of_mem hm
    exact Or.inl ⟨j, by rw [← h2 j k hj]; exact hq⟩
  · have hw : ws[k]? = some q := by rw [← h1 k hm]; exact hq
    refine Or.inr ⟨hw, fun j e hj => ?_⟩
    have h3 : (is.map (fun i => ws[i]?))[j]? = some (some (q.1, e)) := by rw [hC, List.getElem?_map, hj]; rfl
    rw [List.getElem?_map] at h3
    cases hi : is[j]? with
    | none => rw [hi] at h3; cases h3
    | some i =>
      rw [hi] at h3
      have hij : i = k := hD.1 i k (q.1, e) q (Option.some.inj h3) hw rfl
      exact hm (hij ▸ List.mem_of_getElem? hi)
