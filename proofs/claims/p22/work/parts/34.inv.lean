/-! the invariant is kept -/
theorem aSet_ne {k j : Nat} {v : Int} {a : AS} (h : j ≠ k) : (aSet k v a).1 j = a.1 j := if_neg h
theorem aSet_self {k : Nat} {v : Int} {a : AS} : (aSet k v a).1 k = v := if_pos rfl
def InvC (a : AS) : Prop := InvQ a ∧ InvT a ∧ InvM a
theorem line_in {x y u v n k : Int} (hn : 0 < n) (h1 : inP x y) (h2 : inP (x + u) (y + v)) (h3 : 0 ≤ k) (h4 : k ≤ n) : inP (x + (u * k).tdiv n) (y + (v * k).tdiv n) := by
  obtain ⟨a, b, c, d⟩ := h1
  obtain ⟨e, f, g, h⟩ := h2
  have p := car_in hn h3 h4 a b e f
  have q := car_in hn h3 h4 c d g h
  exact ⟨p.1, p.2, q.1, q.2⟩
theorem up_far {f : Nat → Bool} (h : ∀ c, 10000 ≤ c → f c = false) {x y : Int} (hp : inP x y) : ∀ c, 10000 ≤ c → va_up f (cel x y) true c = false := by
  intro c hc
  have := (cel_lt hp).1
  rw [va_up_ne _ _ (show c ≠ cel x y by omega)]
  exact h c hc
theorem lineC_far {x y u v n : Int} {f : Nat → Bool} (hn : 0 < n) (h1 : inP x y) (h2 : inP (x + u) (y + v)) (hf : ∀ c, 10000 ≤ c → f c = false) : ∀ k : Nat, (k : Int) ≤ n + 1 → ∀ c, 10000 ≤ c → lineC x y u v n k f c = false
  | 0, _ => hf
  | k + 1, hk => up_far (lineC_far hn h1 h2 hf k (by omega)) (line_in hn h1 h2 (by omega) (by omega))
theorem car_ok {x y ex ey k : Int} {c : Cm} {r : List Cm} (h : chain x y (c :: r) ex ey) (hc : c.1 = 3 ∨ 0 < cn c) (h0 : 0 ≤ k) (h1 : k ≤ cn c) : inP (x + (cdx c * k).tdiv (cn c)) (y + (cdy c * k).tdiv (cn c)) := by
  rcases hc with hc | hc
  · have e1 : cdx c = 0 := if_pos hc
    have e2 : cdy c = 0 := if_pos hc
    rw [e1, e2, Int.zero_mul, Int.zero_tdiv, Int.add_zero, Int.add_zero]
    exact h.1
  · exact line_in hc h.1 (chain_in h.2).1 h0 h1
theorem okc_pos {c : Cm} (h : okc c) : c.1 = 3 ∨ 0 < cn c := by
  rcases h with h | h
  · exact Or.inl h.1
  · exact Or.inr (okm_pos h)
theorem invC_eq {a b : AS} (h : InvC a) (e : a.2 = b.2) (hs : ∀ k, 9 ≤ k → k ≤ 16 → b.1 k = a.1 k) : InvC b := by
  obtain ⟨⟨h1, h2, h3⟩, ⟨h4, h5, h6, h7⟩, h8⟩ := h
  have e1 : aQ b = aQ a := by unfold aQ; rw [e]
  have e2 : aL b = aL a := by unfold aL; rw [e]
  have e3 : aI b = aI a := by unfold aI; rw [e]
  have e4 : aM b = aM a := by unfold aM; rw [e]
  have e5 : aB b = aB a := by unfold aB; rw [e]
  refine ⟨⟨?_, ?_, ?_⟩, ⟨?_, ?_, ?_, ?_⟩, ?_⟩
  · rw [e1]; exact h1
  · rw [e2]; exact h2
  · rw [e1, hs 9 (by omega) (by omega), hs 10 (by omega) (by omega), hs 11 (by omega) (by omega), hs 12 (by omega) (by omega)]; exact h3
  · rw [e1]
    unfold prog at h4 ⊢
    rw [hs 13 (by omega) (by omega), hs 14 (by omega) (by omega), hs 15 (by omega) (by omega)]; exact h4
  · rw [hs 15 (by omega) (by omega)]; exact h5
  · rw [hs 16 (by omega) (by omega)]; exact h6
  · rw [e3]; exact h7
  · intro c hc; rw [e4, e5]; exact h8 c hc
theorem invC_set {a : AS} (h : InvC a) {k : Nat} {v : Int} (hk : k < 9 ∨ 16 < k) : InvC (aSet k v a) :=
  invC_eq h rfl fun j h1 h2 => va_up_ne _ _ (by omega)
theorem invC_err {a : AS} (h : InvC a) : InvC (aErr a) := invC_set h (by omega)
theorem right_in {a : AS} (h : InvQ a) {c : Cm} (hc : okc c) (hr : rightC a.1 c = true) : inP (a.1 9 + cdx c) (a.1 10 + cdy c) := by
  unfold rightC at hr
  have hi := (chain_in h.2.2).2
  split at hr
  · rename_i e
    rw [show cdx c = 0 from if_pos e, show cdy c = 0 from if_pos e, Int.add_zero, Int.add_zero]
    exact hi
  · rename_i e
    have := of_decide_eq_true hr
    rw [(okm_d e).1, (okm_d e).2]
    exact this.2
theorem invC_add {a : AS} (h : InvC a) {c : Cm} (hc : okc c) (hr : rightC a.1 c = true) : InvC (aAdd c a) := by
  have hin := right_in h.1 hc hr
  obtain ⟨⟨h1, h2, h3⟩, ⟨h4, h5, h6, h7⟩, h8⟩ := h
  refine ⟨⟨?_, h2, ?_⟩, ⟨?_, ?_, ?_, h7⟩, ?_⟩
  · intro d hd
    rcases List.mem_append.mp hd with hd | hd
    · exact h1 d hd
    · rw [List.mem_singleton.mp hd]; exact hc
  · show chain ((va_up (va_up a.1 9 (a.1 9 + cdx c)) 10 (a.1 10 + cdy c)) 11) ((va_up (va_up a.1 9 (a.1 9 + cdx c)) 10 (a.1 10 + cdy c)) 12) (aQ a ++ [c]) ((va_up (va_up a.1 9 (a.1 9 + cdx c)) 10 (a.1 10 + cdy c)) 9) ((va_up (va_up a.1 9 (a.1 9 + cdx c)) 10 (a.1 10 + cdy c)) 10)
    simp only [va_up]
    simp
    exact chain_add h3 hin
  · show prog (va_up (va_up a.1 9 (a.1 9 + cdx c)) 10 (a.1 10 + cdy c)) (aQ a ++ [c])
    unfold prog at h4 ⊢
    have e : ∀ k, 11 ≤ k → va_up (va_up a.1 9 (a.1 9 + cdx c)) 10 (a.1 10 + cdy c) k = a.1 k := fun k hk => by rw [va_up_ne _ _ (by omega), va_up_ne _ _ (by omega)]
    rw [e 13 (by omega), e 14 (by omega), e 15 (by omega)]
    cases hq : aQ a with
    | nil =>
      rw [hq] at h4
      simp only at h4
      simp only [List.nil_append]
      rw [h4.1, h4.2]
      have := okc_pos hc
      omega
    | cons d r =>
      rw [hq] at h4
      exact h4
  · show (va_up (va_up a.1 9 (a.1 9 + cdx c)) 10 (a.1 10 + cdy c)) 15 = 0 ∨ (va_up (va_up a.1 9 (a.1 9 + cdx c)) 10 (a.1 10 + cdy c)) 15 = 1
    rw [va_up_ne _ _ (by omega), va_up_ne _ _ (by omega)]; exact h5
  · show 0 ≤ (va_up (va_up a.1 9 (a.1 9 + cdx c)) 10 (a.1 10 + cdy c)) 16 ∧ (va_up (va_up a.1 9 (a.1 9 + cdx c)) 10 (a.1 10 + cdy c)) 16 ≤ 2
    rw [va_up_ne _ _ (by omega), va_up_ne _ _ (by omega)]; exact h6
  · intro d hd
    refine ⟨(h8 d hd).1, ?_⟩
    show aPlan c a d = false
    unfold aPlan
    split
    · rename_i e
      have hp : 0 < cn c := by rcases okc_pos hc with h | h <;> omega
      exact lineC_far hp (chain_in h3).2 hin (fun c hc => (h8 c hc).2) _ (by omega) d hd
    · exact (h8 d hd).2
theorem invC_que {a : AS} (h : InvC a) {c : Cm} (hc : okc c) : InvC (aQue c a) := by
  unfold aQue
  split
  · rename_i hr; exact invC_add h hc hr
  · exact invC_err h
theorem len_que (a : AS) (c : Cm) : (aQ (aQue c a)).length ≤ (aQ a).length + 1 := by
  unfold aQue
  split
  · show (aQ a ++ [c]).length ≤ _
    rw [List.length_append]; exact Nat.le_refl _
  · show (aQ a).length ≤ _
    omega
theorem lat_que (a : AS) (c : Cm) : aL (aQue c a) = aL a := by
  unfold aQue
  split <;> rfl
theorem sc_que (a : AS) (c : Cm) {k : Nat} (hk : k < 7) : (aQue c a).1 k = a.1 k := by
  unfold aQue
  split
  · show va_up (va_up a.1 9 _) 10 _ k = _
    rw [va_up_ne _ _ (by omega), va_up_ne _ _ (by omega)]
  · exact va_up_ne _ _ (by omega)
theorem invC_rep {c : Cm} (hc : okc c) : ∀ (n : Nat) {a : AS}, InvC a → InvC (aRep c n a)
  | 0, _, h => h
  | n + 1, _, h => invC_rep hc n (invC_que h hc)
theorem len_rep (c : Cm) : ∀ (n : Nat) (a : AS), (aQ (aRep c n a)).length ≤ (aQ a).length + n
  | 0, _ => Nat.le_refl _
  | n + 1, a => by have := len_rep c n (aQue c a); have := len_que a c; show (aQ (aRep c n (aQue c a))).length ≤ _; omega
theorem lat_rep (c : Cm) : ∀ (n : Nat) (a : AS), aL (aRep c n a) = aL a
  | 0, _ => rfl
  | n + 1, a => (lat_rep c n _).trans (lat_que a c)
theorem sc_rep (c : Cm) {k : Nat} (hk : k < 7) : ∀ (n : Nat) (a : AS), (aRep c n a).1 k = a.1 k
  | 0, _ => rfl
  | n + 1, a => (sc_rep c hk n _).trans (sc_que a c hk)
theorem invC_lat {a : AS} (h : InvC a) {c : Cm} (hc : okm c) : InvC (aLat c a) :=
  ⟨⟨h.1.1, fun _ e => (Option.some.inj e) ▸ hc, h.1.2.2⟩, h.2⟩
/-! what a byte does -/
def okS (a : AS) (v : Int) : Prop := a.1 4 ≤ 2 → 1 ≤ a.1 4 ∧ 0 ≤ a.1 5 ∧ a.1 5 ≤ 255
theorem okm_right {A : Nat → Int} {k u v : Int} (hk : k = 1 ∨ k = 2) (h1 : -128 ≤ u) (h2 : u ≤ 127) (h3 : -128 ≤ v) (h4 : v ≤ 127) (hr : rightC A (k, u, v) = true) : okm (k, u, v) := by
  unfold rightC at hr
  have : ¬ k = 3 := by omega
  simp only [this, if_false] at hr
  have := of_decide_eq_true hr
  exact ⟨hk, h1, h2, h3, h4, this.1⟩
theorem core_ok {a : AS} (h : InvC a) {v : Int} (hv : 0 ≤ v) (hv2 : v ≤ 255) (h4 : 1 ≤ a.1 4 ∧ a.1 4 ≤ 4) (h5 : a.1 4 ≤ 2 → 0 ≤ a.1 5 ∧ a.1 5 ≤ 255) (hl : (aQ a).length ≤ 7) : InvC (aCore v a) ∧ (aQ (aCore v a)).length ≤ 16 ∧ ∀ k, k < 7 → (aCore v a).1 k = a.1 k := by
  unfold aCore
  split
  · unfold aRpt
    split
    · rename_i hr
      split
      · exact ⟨invC_err h, by show (aQ a).length ≤ 16; omega, fun k hk => va_up_ne _ _ (by omega)⟩
      · rename_i c hc
        have := len_rep c v.toNat a
        exact ⟨invC_rep (Or.inr (h.1.2.1 c hc)) _ h, by omega, fun k hk => sc_rep c hk _ _⟩
    · exact ⟨invC_err h, by show (aQ a).length ≤ 16; omega, fun k hk => va_up_ne _ _ (by omega)⟩
  · rename_i n4
    split
    · unfold aQue
      split
      · rename_i hr
        unfold rightC at hr
        simp only [if_true] at hr
        have h9 := of_decide_eq_true hr
        refine ⟨invC_add h (Or.inl ⟨rfl, h9.1, h9.2, rfl⟩) (by unfold rightC; simp only [if_true]; exact hr), ?_, fun k hk => ?_⟩
        · show (aQ a ++ [_]).length ≤ _
          rw [List.length_append]; show (aQ a).length + 1 ≤ 16; omega
        · show va_up (va_up a.1 9 _) 10 _ k = _
          rw [va_up_ne _ _ (by omega), va_up_ne _ _ (by omega)]
      · exact ⟨invC_err h, by show (aQ a).length ≤ 16; omega, fun k hk => va_up_ne _ _ (by omega)⟩
    · unfold aMot
      split
      · rename_i n3 hr
        have h5' := h5 (by omega)
        have r1 := sg_rng h5'.1 h5'.2
        have r2 := sg_rng hv hv2
        have hm := okm_right (by omega) r1.1 r1.2 r2.1 r2.2 hr
        refine ⟨invC_lat (invC_add h (Or.inr hm) hr) hm, ?_, fun k hk => ?_⟩
        · show (aQ a ++ [_]).length ≤ _
          rw [List.length_append]; show (aQ a).length + 1 ≤ 16; omega
        · show va_up (va_up a.1 9 _) 10 _ k = _
          rw [va_up_ne _ _ (by omega), va_up_ne _ _ (by omega)]
      · exact ⟨invC_err h, by show (aQ a).length ≤ 16; omega, fun k hk => va_up_ne _ _ (by omega)⟩
theorem inv_mk {a : AS} (h : InvC a) (hb : InvB a) (hl : (aQ a).length ≤ 16) : Inv a := ⟨h.1, hb, h.2.1, h.2.2, hl⟩
theorem inv_C {a : AS} (h : Inv a) : InvC a := ⟨h.1, h.2.2.1, h.2.2.2.1⟩
theorem inv_feed {a : AS} (h : Inv a) {v : Int} (hv : 0 ≤ v) (hv2 : v ≤ 255) : Inv (aFeed v a) := by
  unfold aFeed
  split
  · exact h
  · rename_i hl
    have hl : (aQ a).length ≤ 7 := by omega
    have hC := inv_C h
    obtain ⟨hb1, hb2, hb3⟩ := h.2.1
    unfold aTake
    split
    · rename_i e6
      unfold aBeg
      split
      · rename_i hv3
        refine inv_mk (invC_set (invC_set hC (by omega)) (by omega)) ?_ (by show (aQ a).length ≤ 16; omega)
        unfold InvB aSet
        simp [va_up]
        omega
      · split
        · exact h
        · refine inv_mk (invC_err hC) ?_ (by show (aQ a).length ≤ 16; omega)
          unfold InvB aErr aSet
          simp [va_up]
          exact ⟨hb1, hb2, hb3⟩
    · rename_i n6
      have hb2 := hb2 n6
      split
      · rename_i e1
        refine inv_mk (invC_set (invC_set hC (by omega)) (by omega)) ?_ (by show (aQ a).length ≤ 16; omega)
        unfold InvB aSet
        simp [va_up]
        omega
      · rename_i n1
        have h6 : InvC (aSet 6 0 a) := invC_set hC (by omega)
        have e4 : (aSet 6 0 a).1 4 = a.1 4 := aSet_ne (by omega)
        have e5 : (aSet 6 0 a).1 5 = a.1 5 := aSet_ne (by omega)
        have e6 : (aSet 6 0 a).1 6 = 0 := aSet_self
        obtain ⟨c1, c2, c3⟩ := core_ok h6 hv hv2 (by rw [e4]; exact hb2) (by rw [e4, e5]; intro h2; exact (hb3 (by omega)).2) (by show (aQ a).length ≤ 7; exact hl)
        refine inv_mk c1 ?_ c2
        unfold InvB
        rw [c3 6 (by omega), e6]
        simp
