/-! what the class's answers are, in the order that the law asks -/
theorem if_t {c P Q : Prop} (h : c) (p : P) : (c → P) ∧ (¬ c → Q) := ⟨fun _ => p, fun n => absurd h n⟩
theorem if_f {c P Q : Prop} (h : ¬ c) (q : Q) : (c → P) ∧ (¬ c → Q) := ⟨fun n => absurd n h, fun _ => q⟩
section GET
variable {E : EV} {a : AS} {post : Int32 → Prop} {gx : Nat → Int32} {lt : Option Nat} {mo : Int32} {ad : Nat} {ln : Int32} {PL : List Nat} {pf : Nat → va_E} {pw : Nat → Int64} {pk : Int32} {lw : Nat → Int64} {lk : Int32} {ik : Nat → Int32}
theorem g_queued (h : RX E a gx lt ad ln PL pf pw pk lw lk ik) (hp : post (iI ((aQ a).length : Int))) : wp_X2_queued E post gx lt mo ad ln PL pf pw pk lw lk ik := by
  unfold wp_X2_queued
  rw [q_size8, h.2.1]
  exact hp
theorem g_errors (h : RX E a gx lt ad ln PL pf pw pk lw lk ik) (hp : post (iI (a.1 7))) : wp_X2_errors E post gx lt mo ad ln PL pf pw pk lw lk ik := by
  unfold wp_X2_errors
  rw [h.1]
  exact hp
theorem g_pending (h : RX E a gx lt ad ln PL pf pw pk lw lk ik) (hp : post (iI (a.1 6))) : wp_X2_pending E post gx lt mo ad ln PL pf pw pk lw lk ik := by
  unfold wp_X2_pending
  rw [h.1]
  exact hp
theorem g_pen (h : RX E a gx lt ad ln PL pf pw pk lw lk ik) (hp : post (iI (a.1 16))) : wp_X2_pen E post gx lt mo ad ln PL pf pw pk lw lk ik := by
  unfold wp_X2_pen
  rw [h.1]
  exact hp
theorem g_up (h : RX E a gx lt ad ln PL pf pw pk lw lk ik) (hp : post (iI (a.1 17))) : wp_X2_stepsUp E post gx lt mo ad ln PL pf pw pk lw lk ik := by
  unfold wp_X2_stepsUp
  rw [h.1]
  exact hp
theorem g_down (h : RX E a gx lt ad ln PL pf pw pk lw lk ik) (hp : post (iI (a.1 18))) : wp_X2_stepsDown E post gx lt mo ad ln PL pf pw pk lw lk ik := by
  unfold wp_X2_stepsDown
  rw [h.1]
  exact hp
theorem g_marks (h : RX E a gx lt ad ln PL pf pw pk lw lk ik) (hp : post (iI (cnt (aM a) 10000 : Nat))) : wp_X2_marks E post gx lt mo ad ln PL pf pw pk lw lk ik := by
  unfold wp_X2_marks
  rw [h.2.2.2.2.1.2]
  exact hp
theorem g_plan (h : RX E a gx lt ad ln PL pf pw pk lw lk ik) (hp : post (iI (cnt (aB a) 10000 : Nat))) : wp_X2_marksInTheEnd E post gx lt mo ad ln PL pf pw pk lw lk ik := by
  unfold wp_X2_marksInTheEnd
  rw [h.2.2.2.2.2.1.2]
  exact hp
theorem g_ink (h : RX E a gx lt ad ln PL pf pw pk lw lk ik) {x : Int} (h1 : 0 ≤ x) (h2 : x ≤ 2) (hp : post (iI (aI a x.toNat))) : wp_X2_ink_r E post gx lt mo ad ln PL pf pw pk lw lk ik (iI x) := by
  unfold wp_X2_ink_r
  rw [q_hasPen (by omega) (by omega), if_pos ⟨h1, h2⟩]
  exact ⟨fun e => absurd e (by decide), fun _ => s_inkOf h h1 h2 hp⟩
theorem g_isMarked (h : RX E a gx lt ad ln PL pf pw pk lw lk ik) {x y : Int} (hx : inP x y) (hp : post (if aM a (cel x y) = true then 1 else 0)) : wp_X2_isMarked_r E post gx lt mo ad ln PL pf pw pk lw lk ik (iI x) (iI y) := by
  obtain ⟨h1, h2, h3, h4⟩ := id hx
  unfold wp_X2_isMarked_r
  rw [q_hasCell (by omega) (by omega) (by omega) (by omega), if_pos ⟨h1, h2, h3, h4⟩]
  refine ⟨fun e => absurd e (by decide), fun _ => ?_⟩
  rw [q_hasMark hx h.2.2.2.2.1]
  refine ⟨?_, hp⟩
  split <;> rfl
end GET
/-- the time that is left -/
def tL (a : AS) : Int := tl (decide (a.1 15 = 1)) (aQ a) - a.1 13 - a.1 14
/-- the carriage's place as a number -/
def pL (a : AS) : Int := 100 * carY a + carX a
def kM (a : AS) : Int := (cnt (aM a) 10000 : Nat)
def kB (a : AS) : Int := (cnt (aB a) 10000 : Nat)
def iL (x : Int) : Int64 := (iI x).toInt64
/-- all answers in one number -/
def vA (a : AS) : Int64 := (((((((((((((iL (a.1 7) + (31 : Int64) * iL ((aQ a).length : Int)) + (1009 : Int64) * iL (a.1 6)) + (65537 : Int64) * iL (pL a)) + (7 : Int64) * iL (tL a)) + (1000003 : Int64) * iL (kM a)) + (17 : Int64) * iL (kB a)) + (257 : Int64) * iL (a.1 16)) + (769 : Int64) * iL (a.1 17)) + (6151 : Int64) * iL (a.1 18)) + iL (aI a 0)) + (3 : Int64) * iL (aI a 1)) + (5 : Int64) * iL (aI a 2)) + (if a.1 15 = 0 then 0 else (11 : Int64))) + (if lacks a = true then (13 : Int64) else 0)
theorem s_all {E : EV} {a : AS} {post : Int64 → Prop} {gx : Nat → Int32} {lt : Option Nat} {mo : Int32} {ad : Nat} {ln : Int32} {PL : List Nat} {pf : Nat → va_E} {pw : Nat → Int64} {pk : Int32} {lw : Nat → Int64} {lk : Int32} {ik : Nat → Int32} (h : RX E a gx lt ad ln PL pf pw pk lw lk ik) (hi : Inv a) (hp : post (vA a)) : wp_L_all E post gx lt mo ad ln PL pf pw pk lw lk ik := by
  unfold wp_L_all
  refine g_errors h (g_queued h (g_pending h (s_at h hi (s_timeLeft h hi (g_marks h (g_plan h (g_pen h (g_up h (g_down h ?_)))))))))
  rw [l0, l1, l2]
  refine g_ink h (by omega) (by omega) (g_ink h (by omega) (by omega) (g_ink h (by omega) (by omega) (s_isDown h hi ?_)))
  have h15 := hi.2.2.1.2.1
  by_cases e : a.1 15 = 0
  · refine if_t (by rw [e]) (s_waiting h hi ?_)
    by_cases w : lacks a = true
    · refine if_f (by rw [if_pos w]; decide) ?_
      unfold vA at hp
      rw [if_pos e, if_pos w] at hp
      exact hp
    · refine if_t (by rw [if_neg w]) ?_
      unfold vA at hp
      rw [if_pos e, if_neg w] at hp
      exact hp
  · refine if_f (by rw [show a.1 15 = 1 by omega]; decide) (s_waiting h hi ?_)
    by_cases w : lacks a = true
    · refine if_f (by rw [if_pos w]; decide) ?_
      unfold vA at hp
      rw [if_neg e, if_pos w] at hp
      exact hp
    · refine if_t (by rw [if_neg w]) ?_
      unfold vA at hp
      rw [if_neg e, if_neg w] at hp
      exact hp
/-! the law's own small functions -/
theorem q_Lsize {E : EV} {post : Int32 → Prop} {u v : Int} (h1 : -10000 ≤ u) (h2 : u ≤ 10000) (h3 : -10000 ≤ v) (h4 : v ≤ 10000) : wp_L_size E post (iI u) (iI v) = post (iI (nst u v)) := by
  unfold wp_L_size
  simp (disch := omega) only [l0, iI_neg, iI_le]
  unfold nst iabs
  by_cases a : 0 ≤ u <;> by_cases b : 0 ≤ v
  · by_cases c : u ≤ v
    · have : (if u < v then v else u) = v := by split <;> omega
      simp [a, b, c, this]
    · have : (if u < v then v else u) = u := by split <;> omega
      simp [a, b, c, this]
  · by_cases c : u ≤ -v
    · have : (if u < -v then -v else u) = -v := by split <;> omega
      simp [a, b, c, this]
    · have : (if u < -v then -v else u) = u := by split <;> omega
      simp [a, b, c, this]
  · by_cases c : -u ≤ v
    · have : (if -u < v then v else -u) = v := by split <;> omega
      simp [a, b, c, this]
    · have : (if -u < v then v else -u) = -u := by split <;> omega
      simp [a, b, c, this]
  · by_cases c : -u ≤ -v
    · have : (if -u < -v then -v else -u) = -v := by split <;> omega
      simp only [a, b, c, if_false, this, false_imp_iff, not_false_eq_true, true_imp_iff, true_and, and_true, not_true_eq_false]
    · have : (if -u < -v then -v else -u) = -u := by split <;> omega
      simp only [a, b, c, if_false, this, false_imp_iff, not_false_eq_true, true_imp_iff, true_and, and_true, not_true_eq_false]
theorem t0 : (0 : Int32).toNatClampNeg = 0 := by decide
theorem t1 : (1 : Int32).toNatClampNeg = 1 := by decide
theorem t2 : (2 : Int32).toNatClampNeg = 2 := by decide
theorem t3 : (3 : Int32).toNatClampNeg = 3 := by decide
theorem t4 : (4 : Int32).toNatClampNeg = 4 := by decide
theorem t5 : (5 : Int32).toNatClampNeg = 5 := by decide
theorem t6 : (6 : Int32).toNatClampNeg = 6 := by decide
theorem t7 : (7 : Int32).toNatClampNeg = 7 := by decide
/-- the law's list of commands, from its k-th on -/
def RCq (cw : Nat → Int32) : Nat → Int → Int → List Cm → Prop
  | _, _, _, [] => True
  | k, x, y, c :: r => (cw (4 * k) = iI c.1 ∧ cw (4 * k + 1) = iI c.2.1 ∧ cw (4 * k + 2) = iI c.2.2 ∧ cw (4 * k + 3) = iI (100 * y + x)) ∧ RCq cw (k + 1) (x + cdx c) (y + cdy c) r
def RLm (mw : Nat → Int32) : Option Cm → Prop
  | none => mw 2 = iI 0
  | some c => mw 2 = iI c.1 ∧ mw 3 = iI c.2.1 ∧ mw 4 = iI c.2.2
/-- what the law's two arrays hold -/
def RA (a : AS) (cw mw : Nat → Int32) : Prop := (mw 0 = iI ((aQ a).length : Int) ∧ mw 1 = iI (a.1 7) ∧ RLm mw (aL a) ∧ mw 5 = iI (a.1 9) ∧ mw 6 = iI (a.1 10) ∧ mw 7 = iI (a.1 13)) ∧ RCq cw 0 (a.1 11) (a.1 12) (aQ a)
/-- what holds between the law's calls -/
def LI (a : AS) (cw mw : Nat → Int32) : Prop := Inv a ∧ JA a ∧ RA a cw mw ∧ a.1 6 = 0
theorem rcq_eq {cw cw' : Nat → Int32} : ∀ {q : List Cm} {k : Nat} {x y : Int}, RCq cw k x y q → (∀ i, i < 4 * (k + q.length) → cw' i = cw i) → RCq cw' k x y q
  | [], _, _, _, _, _ => trivial
  | c :: r, k, x, y, h, he => by
    have hl : (c :: r).length = r.length + 1 := rfl
    obtain ⟨⟨h1, h2, h3, h4⟩, h5⟩ := h
    refine ⟨⟨?_, ?_, ?_, ?_⟩, rcq_eq h5 fun i hi => he i (by omega)⟩
    · rw [he _ (by omega)]; exact h1
    · rw [he _ (by omega)]; exact h2
    · rw [he _ (by omega)]; exact h3
    · rw [he _ (by omega)]; exact h4
theorem rcq_move {cw cw' : Nat → Int32} : ∀ {q : List Cm} {k : Nat} {x y : Int}, RCq cw (k + 1) x y q → (∀ i, i < 4 * (k + q.length) → cw' i = cw (i + 4)) → RCq cw' k x y q
  | [], _, _, _, _, _ => trivial
  | c :: r, k, x, y, h, he => by
    have hl : (c :: r).length = r.length + 1 := rfl
    obtain ⟨⟨h1, h2, h3, h4⟩, h5⟩ := h
    refine ⟨⟨?_, ?_, ?_, ?_⟩, rcq_move h5 fun i hi => he i (by omega)⟩
    · rw [he _ (by omega)]; exact h1
    · rw [he _ (by omega), show 4 * k + 1 + 4 = 4 * (k + 1) + 1 by omega]; exact h2
    · rw [he _ (by omega), show 4 * k + 2 + 4 = 4 * (k + 1) + 2 by omega]; exact h3
    · rw [he _ (by omega), show 4 * k + 3 + 4 = 4 * (k + 1) + 3 by omega]; exact h4
theorem rcq_app {cw : Nat → Int32} : ∀ {q : List Cm} {k : Nat} {x y ex ey : Int} {c : Cm}, chain x y q ex ey → RCq cw k x y q → (cw (4 * (k + q.length)) = iI c.1 ∧ cw (4 * (k + q.length) + 1) = iI c.2.1 ∧ cw (4 * (k + q.length) + 2) = iI c.2.2 ∧ cw (4 * (k + q.length) + 3) = iI (100 * ey + ex)) → RCq cw k x y (q ++ [c])
  | [], k, x, y, ex, ey, c, hc, _, h => by
    obtain ⟨e1, e2, -⟩ := hc
    subst e1; subst e2
    exact ⟨h, trivial⟩
  | d :: r, k, x, y, ex, ey, c, hc, hr, h => by
    refine ⟨hr.1, rcq_app hc.2 hr.2 ?_⟩
    rw [show k + 1 + r.length = k + (d :: r).length by show k + 1 + r.length = k + (r.length + 1); omega]
    exact h
theorem rcq_get {cw : Nat → Int32} : ∀ {q : List Cm} {k i : Nat} {x y : Int} {c : Cm}, RCq cw k x y q → q[i]? = some c → cw (4 * (k + i)) = iI c.1 ∧ cw (4 * (k + i) + 1) = iI c.2.1 ∧ cw (4 * (k + i) + 2) = iI c.2.2
  | [], _, _, _, _, _, _, hi => by simp at hi
  | d :: r, k, 0, _, _, c, h, hi => by
    have e : d = c := by simpa using hi
    subst e
    exact ⟨h.1.1, h.1.2.1, h.1.2.2.1⟩
  | d :: r, k, i + 1, _, _, c, h, hi => by
    have := rcq_get (i := i) (c := c) h.2 (by simpa using hi)
    rw [show k + 1 + i = k + (i + 1) by omega] at this
    exact this
