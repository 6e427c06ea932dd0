/-! WHAT IS SAID: polygons -/
def af (n k : Int) : Int := if k + 1 < n then k + 1 else 0
def trn (X Y : Int → Int) (n k : Int) : Int := (X (af n k) - X k) * (Y (af n (af n k)) - Y (af n k)) - (Y (af n k) - Y k) * (X (af n (af n k)) - X (af n k))
def edg (X Y : Int → Int) (n x y d k : Int) : Int := (X (af n k) - X k) * (y - Y k * d) - (Y (af n k) - Y k) * (x - X k * d)
def allB (f : Int → Bool) : Nat → Bool
  | 0 => true
  | j + 1 => allB f j && f j
theorem allB_t {f : Int → Bool} : ∀ {j : Nat}, allB f j = true ↔ ∀ k : Int, 0 ≤ k → k < j → f k = true
  | 0 => ⟨fun _ k h1 h2 => absurd h2 (by omega), fun _ => rfl⟩
  | j + 1 => by
    unfold allB
    rw [Bool.and_eq_true, allB_t]
    refine ⟨fun h k h1 h2 => ?_, fun h => ⟨fun k h1 h2 => h k h1 (by omega), h j (by omega) (by omega)⟩⟩
    by_cases e : k = j
    · rw [e]; exact h.2
    · exact h.1 k h1 (by omega)
theorem allB_f {f : Int → Bool} {j : Nat} {k : Int} (h0 : 0 ≤ k) (h1 : k < j) (h : f k = false) : allB f j = false := by
  cases q : allB f j with
  | false => rfl
  | true => rw [allB_t.mp q k h0 h1] at h; cases h
theorem allB_s {f : Int → Bool} {k : Int} {j : Nat} (h0 : 0 ≤ k) (hj : j = k.toNat) (h : allB f j = true) (h2 : f k = true) : allB f (k + 1).toNat = true :=
  allB_t.mpr fun i i0 i1 => by
    by_cases e : i = k
    · rw [e]; exact h2
    · exact allB_t.mp h i i0 (by omega)
theorem allB_c {f g : Int → Bool} {j : Nat} (h : ∀ k : Int, 0 ≤ k → k < j → f k = g k) : allB f j = allB g j := by
  induction j with
  | zero => rfl
  | succ j ih => unfold allB; rw [ih (fun k h1 h2 => h k h1 (by omega)), h j (by omega) (by omega)]
def tlB (X Y : Int → Int) (n : Int) : Int → Bool := fun k => decide (0 < trn X Y n k)
def ylB (X Y : Int → Int) (n x y d : Int) : Int → Bool := fun k => decide (0 ≤ edg X Y n x y d k)
def sgn3 (x y : Int) : Int := if x < y then -1 else if x = y then 0 else 1
def ysg (Y : Int → Int) (n : Int) : Int → Int := fun k => sgn3 (Y (af n k)) (Y k)
def lsg (f : Int → Int) (b : Int) : Nat → Int
  | 0 => b
  | j + 1 => if f j = 0 then lsg f b j else f j
def tcn (f : Int → Int) (b : Int) : Nat → Int
  | 0 => 0
  | j + 1 => if f j ≠ 0 ∧ f j ≠ lsg f b j then tcn f b j + 1 else tcn f b j
def yturns (Y : Int → Int) (n : Int) : Int := tcn (ysg Y n) (lsg (ysg Y n) 0 n.toNat) n.toNat
def snd (X Y : Int → Int) (n : Int) : Int := if n < 3 then 1 else if allB (tlB X Y n) n.toNat then (if yturns Y n = 2 then 0 else 3) else 2
def hld (X Y : Int → Int) (n x y d : Int) : Bool := decide (snd X Y n = 0) && allB (ylB X Y n x y d) n.toNat
theorem sgn3_r (x y : Int) : sgn3 x y = -1 ∨ sgn3 x y = 0 ∨ sgn3 x y = 1 := by unfold sgn3; (repeat' split) <;> simp
theorem snd_r (X Y : Int → Int) (n : Int) : 0 ≤ snd X Y n ∧ snd X Y n ≤ 3 := by unfold snd; (repeat' split) <;> omega
theorem af_r {n k : Int} (hn : 0 < n) (h0 : 0 ≤ k) : 0 ≤ af n k ∧ af n k < n := by unfold af; split <;> omega
/-- products stay small -/
theorem mul_b {x y A B : Int} (hx : -A ≤ x ∧ x ≤ A) (hy : -B ≤ y ∧ y ≤ B) : -(A * B) ≤ x * y ∧ x * y ≤ A * B := by
  have hA : 0 ≤ A := by omega
  have hB : 0 ≤ B := by omega
  have h1 : x.natAbs * y.natAbs ≤ A.natAbs * B.natAbs := Nat.mul_le_mul (by omega) (by omega)
  have h2 : (x * y).natAbs = x.natAbs * y.natAbs := Int.natAbs_mul x y
  have h3 : (A * B).natAbs = A.natAbs * B.natAbs := Int.natAbs_mul A B
  have h4 : 0 ≤ A * B := Int.mul_nonneg hA hB
  omega
/-- what a coordinate is -/
abbrev cb (x : Int) : Prop := -20000 ≤ x ∧ x ≤ 20000
def cbA (X : Int → Int) : Prop := ∀ k : Int, 0 ≤ k → k < 8 → cb (X k)
theorem lsg_s {f : Int → Int} {b i : Int} (h : 0 ≤ i) : lsg f b (Int.toNat (i + 1)) = if f i = 0 then lsg f b (Int.toNat i) else f i := by
  rw [show Int.toNat (i + 1) = Int.toNat i + 1 by omega]
  show (if f ((Int.toNat i : Nat) : Int) = 0 then _ else _) = _
  rw [show ((Int.toNat i : Nat) : Int) = i by omega]
theorem tcn_s {f : Int → Int} {b i : Int} (h : 0 ≤ i) : tcn f b (Int.toNat (i + 1)) = if f i ≠ 0 ∧ f i ≠ lsg f b (Int.toNat i) then tcn f b (Int.toNat i) + 1 else tcn f b (Int.toNat i) := by
  rw [show Int.toNat (i + 1) = Int.toNat i + 1 by omega]
  show (if f ((Int.toNat i : Nat) : Int) ≠ 0 ∧ f ((Int.toNat i : Nat) : Int) ≠ lsg f b (Int.toNat i) then _ else _) = _
  rw [show ((Int.toNat i : Nat) : Int) = i by omega]
theorem lsg_r {f : Int → Int} {b : Int} (hb : -1 ≤ b ∧ b ≤ 1) (hf : ∀ k, -1 ≤ f k ∧ f k ≤ 1) : ∀ j : Nat, -1 ≤ lsg f b j ∧ lsg f b j ≤ 1
  | 0 => hb
  | j + 1 => by
    unfold lsg
    split
    · exact lsg_r hb hf j
    · exact hf j
theorem ysg_r (Y : Int → Int) (n k : Int) : -1 ≤ ysg Y n k ∧ ysg Y n k ≤ 1 := by unfold ysg sgn3; (repeat' split) <;> omega
theorem tcn_r {f : Int → Int} {b : Int} : ∀ j : Nat, 0 ≤ tcn f b j ∧ tcn f b j ≤ j
  | 0 => ⟨Int.le_refl _, Int.le_refl _⟩
  | j + 1 => by
    have h := tcn_r (f := f) (b := b) j
    unfold tcn
    split <;> omega
theorem cbA_u {X : Int → Int} {n x : Int} (h : cbA X) (hx : cb x) : cbA (ua X n x) := fun k h0 h1 => by
  unfold ua; split
  · exact hx
  · exact h k h0 h1
