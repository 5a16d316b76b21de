/-! the plotter, as mathematics: a command is kind, one, other (of a PEN: its number, 0); a state is scalars (by the class's slots), queue, latest, ink, paper, plan -/
abbrev Cm : Type := Int × Int × Int
def cdx (c : Cm) : Int := if c.1 = 3 then 0 else c.2.1
def cdy (c : Cm) : Int := if c.1 = 3 then 0 else c.2.2
def cpn (c : Cm) : Int := if c.1 = 3 then c.2.1 else 0
def cn (c : Cm) : Int := nst (cdx c) (cdy c)
abbrev AS : Type := (Nat → Int) × List Cm × Option Cm × (Nat → Int) × (Nat → Bool) × (Nat → Bool)
abbrev aQ (a : AS) : List Cm := a.2.1
abbrev aL (a : AS) : Option Cm := a.2.2.1
abbrev aI (a : AS) : Nat → Int := a.2.2.2.1
abbrev aM (a : AS) : Nat → Bool := a.2.2.2.2.1
abbrev aB (a : AS) : Nat → Bool := a.2.2.2.2.2
def cel (x y : Int) : Nat := (100 * y + x).toNat
def aSet (k : Nat) (v : Int) (a : AS) : AS := (va_up a.1 k v, a.2)
def aErr (a : AS) : AS := aSet 7 (a.1 7 + 1) a
def rightC (A : Nat → Int) (c : Cm) : Bool := if c.1 = 3 then decide (0 ≤ c.2.1 ∧ c.2.1 ≤ 2) else decide (¬ (c.2.1 = 0 ∧ c.2.2 = 0) ∧ 0 ≤ A 9 + c.2.1 ∧ A 9 + c.2.1 ≤ 99 ∧ 0 ≤ A 10 + c.2.2 ∧ A 10 + c.2.2 ≤ 99)
/-- the first k cells of a line -/
def lineC (x y u v n : Int) : Nat → (Nat → Bool) → (Nat → Bool)
  | 0, f => f
  | k + 1, f => va_up (lineC x y u v n k f) (cel (x + (u * k).tdiv n) (y + (v * k).tdiv n)) true
def aPlan (c : Cm) (a : AS) : Nat → Bool := if c.1 = 2 then lineC (a.1 9) (a.1 10) (cdx c) (cdy c) (cn c) ((cn c).toNat + 1) (aB a) else aB a
def aAdd (c : Cm) (a : AS) : AS := (va_up (va_up a.1 9 (a.1 9 + cdx c)) 10 (a.1 10 + cdy c), aQ a ++ [c], aL a, aI a, aM a, aPlan c a)
def aQue (c : Cm) (a : AS) : AS := if rightC a.1 c = true then aAdd c a else aErr a
def aRep (c : Cm) : Nat → AS → AS
  | 0, a => a
  | n + 1, a => aRep c n (aQue c a)
def sg (v : Int) : Int := if v ≤ 127 then v else v - 256
def aLat (c : Cm) (a : AS) : AS := (a.1, aQ a, some c, a.2.2.2)
def aRpt (v : Int) (a : AS) : AS := if 1 ≤ v ∧ v ≤ 9 then (match aL a with | none => aErr a | some c => aRep c v.toNat a) else aErr a
def aMot (c : Cm) (a : AS) : AS := if rightC a.1 c = true then aLat c (aAdd c a) else aErr a
def aCore (v : Int) (a : AS) : AS := if a.1 4 = 4 then aRpt v a else if a.1 4 = 3 then aQue (3, v, 0) a else aMot (a.1 4, sg (a.1 5), sg v) a
def aBeg (v : Int) (a : AS) : AS := if 1 ≤ v ∧ v ≤ 4 then aSet 6 1 (aSet 4 v a) else if v = 0 then a else aErr a
def aTake (v : Int) (a : AS) : AS := if a.1 6 = 0 then aBeg v a else if a.1 6 = 1 ∧ a.1 4 ≤ 2 then aSet 6 2 (aSet 5 v a) else aCore v (aSet 6 0 a)
def aFeed (v : Int) (a : AS) : AS := if 8 ≤ (aQ a).length then a else aTake v a
def carX (a : AS) : Int := match aQ a with
  | [] => a.1 11
  | c :: _ => a.1 11 + (cdx c * a.1 13).tdiv (cn c)
def carY (a : AS) : Int := match aQ a with
  | [] => a.1 12
  | c :: _ => a.1 12 + (cdy c * a.1 13).tdiv (cn c)
def aMark (a : AS) : AS := (a.1, aQ a, aL a, aI a, va_up (aM a) (cel (carX a) (carY a)) true, aB a)
def aTurn (a : AS) : AS := if a.1 14 + 1 < 2 then aSet 14 (a.1 14 + 1) a else if a.1 15 = 0 then aMark (aSet 15 1 (aSet 14 0 a)) else aSet 15 0 (aSet 14 0 a)
def aTl (a : AS) : AS := (a.1, (aQ a).tail, a.2.2)
def aEnd (c : Cm) (a : AS) : AS := aTl (aSet 14 0 (aSet 13 0 (aSet 12 (a.1 12 + cdy c) (aSet 11 (a.1 11 + cdx c) a))))
def aChg (c : Cm) (a : AS) : AS := if a.1 14 + 1 < 3 then aSet 14 (a.1 14 + 1) a else aEnd c (aSet 16 c.2.1 (aSet 14 (a.1 14 + 1) a))
def aInk (k : Nat) (v : Int) (a : AS) : AS := (a.1, aQ a, aL a, va_up (aI a) k v, aM a, aB a)
def aPut (c : Cm) (a : AS) : AS := if c.1 = 2 then aMark (aInk (a.1 16).toNat (aI a (a.1 16).toNat - 1) (aSet 18 (a.1 18 + 1) a)) else aSet 17 (a.1 17 + 1) a
def aStp (c : Cm) (a : AS) : AS := if cn c ≤ a.1 13 + 1 then aEnd c (aPut c (aSet 13 (a.1 13 + 1) a)) else aPut c (aSet 13 (a.1 13 + 1) a)
def lacks (a : AS) : Bool := match aQ a with
  | [] => false
  | c :: _ => decide (c.1 = 2 ∧ ¬ a.1 15 = 0 ∧ aI a (a.1 16).toNat = 0)
def aDoC (c : Cm) (a : AS) : AS := if (a.1 15 = 0 ↔ c.1 = 2) then aTurn a else if c.1 = 3 then aChg c a else aStp c a
def aDo (a : AS) : AS := match aQ a with
  | [] => a
  | c :: _ => if lacks a = true then a else aDoC c a
def aTicks : Nat → AS → AS
  | 0, a => a
  | n + 1, a => aTicks n (aDo a)
def aCut (a : AS) : AS := aSet 6 0 (aSet 15 0 (aSet 14 0 (aSet 13 (a.1 13 - a.1 13 % 10) a)))
def cnt (b : Nat → Bool) : Nat → Nat
  | 0 => 0
  | n + 1 => cnt b n + if b n = true then 1 else 0
def tl (down : Bool) : List Cm → Int
  | [] => 0
  | c :: r => (if down = decide (c.1 = 2) then 0 else 2) + (if c.1 = 3 then 3 else cn c) + tl (decide (c.1 = 2)) r
/-! what holds in every state -/
def okm (c : Cm) : Prop := (c.1 = 1 ∨ c.1 = 2) ∧ -128 ≤ c.2.1 ∧ c.2.1 ≤ 127 ∧ -128 ≤ c.2.2 ∧ c.2.2 ≤ 127 ∧ ¬ (c.2.1 = 0 ∧ c.2.2 = 0)
def okc (c : Cm) : Prop := (c.1 = 3 ∧ 0 ≤ c.2.1 ∧ c.2.1 ≤ 2 ∧ c.2.2 = 0) ∨ okm c
def inP (x y : Int) : Prop := 0 ≤ x ∧ x ≤ 99 ∧ 0 ≤ y ∧ y ≤ 99
def chain : Int → Int → List Cm → Int → Int → Prop
  | x, y, [], ex, ey => x = ex ∧ y = ey ∧ inP x y
  | x, y, c :: r, ex, ey => inP x y ∧ chain (x + cdx c) (y + cdy c) r ex ey
def prog (A : Nat → Int) (q : List Cm) : Prop := match q with
  | [] => A 13 = 0 ∧ A 14 = 0
  | c :: _ => 0 ≤ A 13 ∧ (A 13 < cn c ∨ (c.1 = 3 ∧ A 13 = 0)) ∧ 0 ≤ A 14 ∧ (A 14 ≤ 1 ∨ (A 14 = 2 ∧ c.1 = 3 ∧ A 15 = 0))
def InvQ (a : AS) : Prop := (∀ c ∈ aQ a, okc c) ∧ (∀ c, aL a = some c → okm c) ∧ chain (a.1 11) (a.1 12) (aQ a) (a.1 9) (a.1 10)
def InvB (a : AS) : Prop := (0 ≤ a.1 6 ∧ a.1 6 ≤ 2) ∧ (a.1 6 ≠ 0 → 1 ≤ a.1 4 ∧ a.1 4 ≤ 4) ∧ (a.1 6 = 2 → a.1 4 ≤ 2 ∧ 0 ≤ a.1 5 ∧ a.1 5 ≤ 255)
def InvT (a : AS) : Prop := prog a.1 (aQ a) ∧ (a.1 15 = 0 ∨ a.1 15 = 1) ∧ (0 ≤ a.1 16 ∧ a.1 16 ≤ 2) ∧ (∀ i, 0 ≤ aI a i ∧ aI a i ≤ 500)
def InvM (a : AS) : Prop := ∀ c, 10000 ≤ c → aM a c = false ∧ aB a c = false
def Inv (a : AS) : Prop := InvQ a ∧ InvB a ∧ InvT a ∧ InvM a ∧ (aQ a).length ≤ 16
theorem chain_in : ∀ {q : List Cm} {x y ex ey : Int}, chain x y q ex ey → inP x y ∧ inP ex ey
  | [], x, y, ex, ey, h => by obtain ⟨h1, h2, h3⟩ := h; rw [← h1, ← h2]; exact ⟨h3, h3⟩
  | c :: r, x, y, ex, ey, h => ⟨h.1, (chain_in h.2).2⟩
theorem chain_add : ∀ {q : List Cm} {x y ex ey : Int} {c : Cm}, chain x y q ex ey → inP (ex + cdx c) (ey + cdy c) → chain x y (q ++ [c]) (ex + cdx c) (ey + cdy c)
  | [], x, y, ex, ey, c, h, h2 => by obtain ⟨h1, h3, h4⟩ := h; rw [h1, h3]; rw [h1, h3] at h4; exact ⟨h4, rfl, rfl, h2⟩
  | d :: r, x, y, ex, ey, c, h, h2 => ⟨h.1, chain_add h.2 h2⟩
theorem okc_rng {c : Cm} (h : okc c) : -128 ≤ cdx c ∧ cdx c ≤ 127 ∧ -128 ≤ cdy c ∧ cdy c ≤ 127 ∧ 0 ≤ cn c ∧ cn c ≤ 128 := by
  have k : -128 ≤ cdx c ∧ cdx c ≤ 127 ∧ -128 ≤ cdy c ∧ cdy c ≤ 127 := by
    unfold cdx cdy
    rcases h with ⟨h1, h2, h3, h4⟩ | ⟨h1, h2⟩
    · simp [h1]
    · have h3 : ¬ c.1 = 3 := by omega
      rw [if_neg h3, if_neg h3]; omega
  have := nst_rng k.1 k.2.1 k.2.2.1 k.2.2.2
  unfold cn
  omega
theorem okm_ne3 {c : Cm} (h : okm c) : ¬ c.1 = 3 := by have := h.1; omega
theorem okm_d {c : Cm} (h : ¬ c.1 = 3) : cdx c = c.2.1 ∧ cdy c = c.2.2 := ⟨if_neg h, if_neg h⟩
theorem okm_pos {c : Cm} (h : okm c) : 0 < cn c := by
  have h3 := okm_ne3 h
  unfold cn
  rw [(okm_d h3).1, (okm_d h3).2]
  exact nst_pos h.2.2.2.2.2
theorem tdiv_btw {u k n : Int} (hn : 0 < n) (h0 : 0 ≤ k) (hk : k ≤ n) : (0 ≤ u → 0 ≤ (u * k).tdiv n ∧ (u * k).tdiv n ≤ u) ∧ (u ≤ 0 → u ≤ (u * k).tdiv n ∧ (u * k).tdiv n ≤ 0) := by
  have key : ∀ u : Int, 0 ≤ u → 0 ≤ (u * k).tdiv n ∧ (u * k).tdiv n ≤ u := by
    intro u hu
    have h1 : 0 ≤ u * k := Int.mul_nonneg hu h0
    rw [Int.tdiv_eq_ediv_of_nonneg h1]
    refine ⟨Int.ediv_nonneg h1 (Int.le_of_lt hn), ?_⟩
    have h2 : u * k ≤ u * n := Int.mul_le_mul_of_nonneg_left hk hu
    exact Int.le_trans (Int.ediv_le_ediv hn h2) (by rw [Int.mul_ediv_cancel _ (by omega)]; exact Int.le_refl u)
  refine ⟨key u, fun hu => ?_⟩
  have h := key (-u) (by omega)
  rw [Int.neg_mul, Int.neg_tdiv] at h
  omega
theorem tdiv_full {u n : Int} (hn : 0 < n) : (u * n).tdiv n = u := Int.mul_tdiv_cancel u (by omega)
theorem car_in {x u k n : Int} (hn : 0 < n) (h0 : 0 ≤ k) (hk : k ≤ n) (h1 : 0 ≤ x) (h2 : x ≤ 99) (h3 : 0 ≤ x + u) (h4 : x + u ≤ 99) : 0 ≤ x + (u * k).tdiv n ∧ x + (u * k).tdiv n ≤ 99 := by
  obtain ⟨a, b⟩ := tdiv_btw (u := u) hn h0 hk
  rcases Int.le_total 0 u with h | h
  · have := a h; omega
  · have := b h; omega
theorem mul_small {u k : Int} (h1 : -128 ≤ u) (h2 : u ≤ 127) (h3 : 0 ≤ k) (h4 : k ≤ 128) : -16384 ≤ u * k ∧ u * k ≤ 16384 := by
  rcases Int.le_total 0 u with h | h
  · have a := Int.mul_nonneg h h3
    have b := Int.mul_le_mul (show u ≤ 128 by omega) h4 h3 (by omega)
    omega
  · have a := Int.mul_nonneg (show 0 ≤ -u by omega) h3
    have b := Int.mul_le_mul (show -u ≤ 128 by omega) h4 h3 (by omega)
    rw [Int.neg_mul] at a b
    omega
theorem cel_lt {x y : Int} (h : inP x y) : cel x y < 10000 ∧ (100 * y + x = (cel x y : Int)) := by
  obtain ⟨h1, h2, h3, h4⟩ := h
  unfold cel
  omega
theorem cnt_up (b : Nat → Bool) (c : Nat) : ∀ n, cnt (va_up b c true) n = cnt b n + if c < n ∧ b c = false then 1 else 0
  | 0 => by simp [cnt]
  | n + 1 => by
    have ih := cnt_up b c n
    show cnt (va_up b c true) n + (if va_up b c true n = true then 1 else 0) = cnt b n + (if b n = true then 1 else 0) + _
    rw [ih]
    by_cases e : n = c
    · subst e
      have h1 : va_up b n true n = true := va_up_self _ _ _
      rw [h1]
      cases hb : b n <;> simp
    · rw [va_up_ne _ _ e]
      by_cases h : c < n
      · simp [h, Nat.lt_succ_of_lt h]; omega
      · have h2 : ¬ c < n + 1 := by omega
        simp [h, h2]
theorem cnt_le (b : Nat → Bool) : ∀ n, cnt b n ≤ n
  | 0 => Nat.le_refl 0
  | n + 1 => by have := cnt_le b n; show cnt b n + _ ≤ _; split <;> omega
