/-! WHAT IS SAID: polygons -/
def af (n k : Int) : Int := if k + 1 < n then k + 1 else 0
def trn (X Y : Int → Int) (n k : Int) : Int := (X (af n k) - X k) * (Y (af n (af n k)) - Y (af n k)) - (Y (af n k) - Y k) * (X (af n (af n k)) - X (af n k))
def edg (X Y : Int → Int) (n x y d k : Int) : Int := (X (af n k) - X k) * (y - Y k * d) - (Y (af n k) - Y k) * (x - X k * d)
def allB (f : Int → Bool) : Nat → Bool
  | 0 => true
  | j + 1 => allB f j && f j
theorem allB_t {f : Int → Bool} : ∀ {j : Nat}, allB f j = true ↔ ∀ k : Int, 0 ≤ k → k < j → f k = true
  | 0 => ⟨fun _ k h1 h2 => absurd h2 (by omega), fun _ => rfl⟩
  | j + 1 => by
    unfold allB
    rw [Bool.and_eq_true, allB_t]
    refine ⟨fun h k h1 h2 => ?_, fun h => ⟨fun k h1 h2 => h k h1 (by omega), h j (by omega) (by omega)⟩⟩
    by_cases e : k = j
    · rw [e]; exact h.2
    · exact h.1 k h1 (by omega)
theorem allB_f {f : Int → Bool} {j : Nat} {k : Int} (h0 : 0 ≤ k) (h1 : k < j) (h : f k = false) : allB f j = false := by
  cases q : allB f j with
  | false => rfl
  | true => rw [allB_t.mp q k h0 h1] at h; cases h
theorem allB_s {f : Int → Bool} {k : Int} {j : Nat} (h0 : 0 ≤ k) (hj : j = k.toNat) (h : allB f j = true) (h2 : f k = true) : allB f (k + 1).toNat = true :=
  allB_t.mpr fun i i0 i1 => by
    by_cases e : i = k
    · rw [e]; exact h2
    · exact allB_t.mp h i i0 (by omega)
theorem allB_c {f g : Int → Bool} {j : Nat} (h : ∀ k : Int, 0 ≤ k → k < j → f k = g k) : allB f j = allB g j := by
  induction j with
  | zero => rfl
  | succ j ih => unfold allB; rw [ih (fun k h1 h2 => h k h1 (by omega)), h j (by omega) (by omega)]
def tlB (X Y : Int → Int) (n : Int) : Int → Bool := fun k => decide (0 < trn X Y n k)
def ylB (X Y : Int → Int) (n x y d : Int) : Int → Bool := fun k => decide (0 ≤ edg X Y n x y d k)
def sgn3 (x y : Int) : Int := if x < y then -1 else if x = y then 0 else 1
def ysg (Y : Int → Int) (n : Int) : Int → Int := fun k => sgn3 (Y (af n k)) (Y k)
def lsg (f : Int → Int) (b : Int) : Nat → Int
  | 0 => b
  | j + 1 => if f j = 0 then lsg f b j else f j
def tcn (f : Int → Int) (b : Int) : Nat → Int
  | 0 => 0
  | j + 1 => if f j ≠ 0 ∧ f j ≠ lsg f b j then tcn f b j + 1 else tcn f b j
def yturns (Y : Int → Int) (n : Int) : Int := tcn (ysg Y n) (lsg (ysg Y n) 0 n.toNat) n.toNat
def snd (X Y : Int → Int) (n : Int) : Int := if n < 3 then 1 else if allB (tlB X Y n) n.toNat then (if yturns Y n = 2 then 0 else 3) else 2
def hld (X Y : Int → Int) (n x y d : Int) : Bool := decide (snd X Y n = 0) && allB (ylB X Y n x y d) n.toNat
theorem sgn3_r (x y : Int) : sgn3 x y = -1 ∨ sgn3 x y = 0 ∨ sgn3 x y = 1 := by unfold sgn3; (repeat' split) <;> simp
theorem snd_r (X Y : Int → Int) (n : Int) : 0 ≤ snd X Y n ∧ snd X Y n ≤ 3 := by unfold snd; (repeat' split) <;> omega
theorem af_r {n k : Int} (hn : 0 < n) (h0 : 0 ≤ k) : 0 ≤ af n k ∧ af n k < n := by unfold af; split <;> omega
/-- products stay small -/
theorem mul_b {x y A B : Int} (hx : -A ≤ x ∧ x ≤ A) (hy : -B ≤ y ∧ y ≤ B) : -(A * B) ≤ x * y ∧ x * y ≤ A * B := by
  have hA : 0 ≤ A := by omega
  have hB : 0 ≤ B := by omega
  have h1 : x.natAbs * y.natAbs ≤ A.natAbs * B.natAbs := Nat.mul_le_mul (by omega) (by omega)
  have h2 : (x * y).natAbs = x.natAbs * y.natAbs := Int.natAbs_mul x y
  have h3 : (A * B).natAbs = A.natAbs * B.natAbs := Int.natAbs_mul A B
  have h4 : 0 ≤ A * B := Int.mul_nonneg hA hB
  omega
/-- what a coordinate is -/
abbrev cb (x : Int) : Prop := -20000 ≤ x ∧ x ≤ 20000
def cbA (X : Int → Int) : Prop := ∀ k : Int, 0 ≤ k → k < 8 → cb (X k)
theorem lsg_s {f : Int → Int} {b i : Int} (h : 0 ≤ i) : lsg f b (Int.toNat (i + 1)) = if f i = 0 then lsg f b (Int.toNat i) else f i := by
  rw [show Int.toNat (i + 1) = Int.toNat i + 1 by omega]
  show (if f ((Int.toNat i : Nat) : Int) = 0 then _ else _) = _
  rw [show ((Int.toNat i : Nat) : Int) = i by omega]
theorem tcn_s {f : Int → Int} {b i : Int} (h : 0 ≤ i) : tcn f b (Int.toNat (i + 1)) = if f i ≠ 0 ∧ f i ≠ lsg f b (Int.toNat i) then tcn f b (Int.toNat i) + 1 else tcn f b (Int.toNat i) := by
  rw [show Int.toNat (i + 1) = Int.toNat i + 1 by omega]
  show (if f ((Int.toNat i : Nat) : Int) ≠ 0 ∧ f ((Int.toNat i : Nat) : Int) ≠ lsg f b (Int.toNat i) then _ else _) = _
  rw [show ((Int.toNat i : Nat) : Int) = i by omega]
theorem lsg_r {f : Int → Int} {b : Int} (hb : -1 ≤ b ∧ b ≤ 1) (hf : ∀ k, -1 ≤ f k ∧ f k ≤ 1) : ∀ j : Nat, -1 ≤ lsg f b j ∧ lsg f b j ≤ 1
  | 0 => hb
  | j + 1 => by
    unfold lsg
    split
    · exact lsg_r hb hf j
    · exact hf j
theorem ysg_r (Y : Int → Int) (n k : Int) : -1 ≤ ysg Y n k ∧ ysg Y n k ≤ 1 := by unfold ysg sgn3; (repeat' split) <;> omega
theorem tcn_r {f : Int → Int} {b : Int} : ∀ j : Nat, 0 ≤ tcn f b j ∧ tcn f b j ≤ j
  | 0 => ⟨Int.le_refl _, Int.le_refl _⟩
  | j + 1 => by
    have h := tcn_r (f := f) (b := b) j
    unfold tcn
    split <;> omega
theorem cbA_u {X : Int → Int} {n x : Int} (h : cbA X) (hx : cb x) : cbA (ua X n x) := fun k h0 h1 => by
  unfold ua; split
  · exact hx
  · exact h k h0 h1
def xorI (a b : Int) : Int := ((a.toNat ^^^ b.toNat : Nat) : Int)
theorem xor_n (a b : Nat) : nI a ^^^ nI b = nI (a ^^^ b) := by
  apply Int32.toBitVec_inj.1
  show BitVec.ofNat 32 a ^^^ BitVec.ofNat 32 b = BitVec.ofNat 32 (a ^^^ b)
  apply BitVec.eq_of_getLsbD_eq
  intro i hi
  simp [hi]
theorem nI_I {a : Int} (h : 0 ≤ a) : I32 a = nI a.toNat := by
  unfold nI; rw [← Int32.ofInt_eq_ofNat]; show I32 a = I32 _; congr 1; omega
theorem xorI_I {a b : Int} (ha : 0 ≤ a) (hb : 0 ≤ b) : I32 a ^^^ I32 b = I32 (xorI a b) := by
  rw [nI_I ha, nI_I hb, xor_n, nI_I (by unfold xorI; omega)]; rfl
theorem xorI_r {a b : Int} (ha : 0 ≤ a ∧ a < 2147483648) (hb : 0 ≤ b ∧ b < 2147483648) : 0 ≤ xorI a b ∧ xorI a b < 2147483648 := by
  have h := Nat.xor_lt_two_pow (x := a.toNat) (y := b.toNat) (n := 31) (by omega) (by omega)
  unfold xorI; omega
theorem tmod_r {a b : Int} (ha : 0 ≤ a) (hb : 0 < b) : 0 ≤ Int.tmod a b ∧ Int.tmod a b < b := ⟨Int.tmod_nonneg b ha, Int.tmod_lt_of_pos a hb⟩
theorem tdiv_b {a b A : Int} (hA : -A ≤ a ∧ a ≤ A) : -A ≤ Int.tdiv a b ∧ Int.tdiv a b ≤ A := by
  have h : (Int.tdiv a b).natAbs ≤ a.natAbs := by rw [Int.natAbs_tdiv]; exact Nat.div_le_self _ _
  omega
theorem cosT_b (k : Int) : -4096 ≤ cosT k ∧ cosT k ≤ 4096 := by
  have h : ∀ n : Nat, n < 24 → -4096 ≤ cosL.getD n 0 ∧ cosL.getD n 0 ≤ 4096 := by decide +kernel
  unfold cosT
  by_cases q : k.toNat < 24
  · exact h _ q
  · have e : cosL.getD k.toNat 0 = 0 := by
      rw [List.getD_eq_getElem?_getD, List.getElem?_eq_none (by show 24 ≤ k.toNat; omega)]; rfl
    rw [e]; omega
theorem cpyT_f {a b : Int → Int} {n k : Int} (h0 : 0 ≤ k) (h1 : k < n) : a k = cpyT a b 0 0 n k := by
  unfold cpyT; rw [if_pos (by omega)]; congr 1; omega
/-! phasors of the network -/
def lim (v : Int) : Int := if 20000 < v then 20000 else if v < -20000 then -20000 else v
theorem lim_r (v : Int) : cb (lim v) := by unfold lim; (repeat' split) <;> omega
def slD (rs xs sr sx : Int) : Int := (sr + rs) * (sr + rs) + (sx + xs) * (sx + xs)
def slIa (e rs xs sr sx : Int) : Int := Int.tdiv (1000 * e * (sr + rs)) (slD rs xs sr sx)
def slIb (e rs xs sr sx : Int) : Int := Int.tdiv ((-1000) * e * (sx + xs)) (slD rs xs sr sx)
def slVa (e rs xs sr sx : Int) : Int := e - Int.tdiv (slIa e rs xs sr sx * rs - slIb e rs xs sr sx * xs) 1000
def slVb (e rs xs sr sx : Int) : Int := Int.tdiv (-(slIa e rs xs sr sx * xs + slIb e rs xs sr sx * rs)) 1000
theorem sl_b {e rs xs sr sx : Int} (he : 0 ≤ e ∧ e ≤ 20000) (h1 : 0 ≤ rs ∧ rs ≤ 20000) (h2 : 0 ≤ xs ∧ xs ≤ 20000) (h3 : 0 ≤ sr ∧ sr ≤ 40000) (h4 : 0 ≤ sx ∧ sx ≤ 40000) :
    (0 ≤ slD rs xs sr sx ∧ slD rs xs sr sx ≤ 7200000000) ∧ (-1200000000000 ≤ 1000 * e * (sr + rs) ∧ 1000 * e * (sr + rs) ≤ 1200000000000) ∧ (-1200000000000 ≤ (-1000) * e * (sx + xs) ∧ (-1000) * e * (sx + xs) ≤ 1200000000000) ∧
    (-1200000000000 ≤ slIa e rs xs sr sx ∧ slIa e rs xs sr sx ≤ 1200000000000) ∧ (-1200000000000 ≤ slIb e rs xs sr sx ∧ slIb e rs xs sr sx ≤ 1200000000000) ∧
    (-48000000000000000 ≤ slIa e rs xs sr sx * rs - slIb e rs xs sr sx * xs ∧ slIa e rs xs sr sx * rs - slIb e rs xs sr sx * xs ≤ 48000000000000000) ∧
    (-48000000000000000 ≤ -(slIa e rs xs sr sx * xs + slIb e rs xs sr sx * rs) ∧ -(slIa e rs xs sr sx * xs + slIb e rs xs sr sx * rs) ≤ 48000000000000000) ∧
    (-50000000000000000 ≤ slVa e rs xs sr sx ∧ slVa e rs xs sr sx ≤ 50000000000000000) ∧ (-50000000000000000 ≤ slVb e rs xs sr sx ∧ slVb e rs xs sr sx ≤ 50000000000000000) := by
  have a1 := mul_b (x := sr + rs) (y := sr + rs) (A := 60000) (B := 60000) (by omega) (by omega)
  have a2 := mul_b (x := sx + xs) (y := sx + xs) (A := 60000) (B := 60000) (by omega) (by omega)
  have a3 : 0 ≤ (sr + rs) * (sr + rs) := Int.mul_nonneg (by omega) (by omega)
  have a4 : 0 ≤ (sx + xs) * (sx + xs) := Int.mul_nonneg (by omega) (by omega)
  have a5 := mul_b (x := 1000 * e) (y := sr + rs) (A := 20000000) (B := 60000) (by omega) (by omega)
  have a6 := mul_b (x := (-1000) * e) (y := sx + xs) (A := 20000000) (B := 60000) (by omega) (by omega)
  have a7 := tdiv_b (a := 1000 * e * (sr + rs)) (b := slD rs xs sr sx) (A := 1200000000000) (by omega)
  have a8 := tdiv_b (a := (-1000) * e * (sx + xs)) (b := slD rs xs sr sx) (A := 1200000000000) (by omega)
  have i1 : -1200000000000 ≤ slIa e rs xs sr sx ∧ slIa e rs xs sr sx ≤ 1200000000000 := a7
  have i2 : -1200000000000 ≤ slIb e rs xs sr sx ∧ slIb e rs xs sr sx ≤ 1200000000000 := a8
  have b1 := mul_b (x := slIa e rs xs sr sx) (y := rs) (A := 1200000000000) (B := 20000) i1 (by omega)
  have b2 := mul_b (x := slIb e rs xs sr sx) (y := xs) (A := 1200000000000) (B := 20000) i2 (by omega)
  have b3 := mul_b (x := slIa e rs xs sr sx) (y := xs) (A := 1200000000000) (B := 20000) i1 (by omega)
  have b4 := mul_b (x := slIb e rs xs sr sx) (y := rs) (A := 1200000000000) (B := 20000) i2 (by omega)
  have t1 := tdiv_b (a := slIa e rs xs sr sx * rs - slIb e rs xs sr sx * xs) (b := 1000) (A := 48000000000000000) (by omega)
  have t2 := tdiv_b (a := -(slIa e rs xs sr sx * xs + slIb e rs xs sr sx * rs)) (b := 1000) (A := 48000000000000000) (by omega)
  refine ⟨⟨by unfold slD; omega, by unfold slD; omega⟩, ⟨by omega, by omega⟩, ⟨by omega, by omega⟩, i1, i2, ⟨by omega, by omega⟩, ⟨by omega, by omega⟩, ⟨by unfold slVa; omega, by unfold slVa; omega⟩, Int.le_trans (by decide) t2.1, Int.le_trans t2.2 (by decide)⟩
def trc (q d : Int) : Int := if d = 0 then 0 else Int.tdiv q d
theorem absI_r {x A : Int} (h : -A ≤ x ∧ x ≤ A) : 0 ≤ absI x ∧ absI x ≤ A := by unfold absI; split <;> omega
theorem fz_b {f p : Int} (h : 0 ≤ f ∧ f ≤ 20000) (hp : 0 ≤ p ∧ p ≤ 1000) : 0 ≤ Int.tdiv (f * p) 1000 ∧ Int.tdiv (f * p) 1000 ≤ 20000 := by
  have h1 : 0 ≤ f * p := Int.mul_nonneg h.1 hp.1
  have h2 : f * p ≤ 20000 * 1000 := Int.mul_le_mul h.2 hp.2 hp.1 (by decide)
  rw [Int.tdiv_eq_ediv_of_nonneg h1]
  omega
theorem smp_b {x y : Int} (hx : -(20000 * 4096) ≤ x ∧ x ≤ 20000 * 4096) (hy : -(20000 * 4096) ≤ y ∧ y ≤ 20000 * 4096) : -40000 ≤ Int.tdiv (x - y) 4096 ∧ Int.tdiv (x - y) 4096 ≤ 40000 := by
  rcases Int.le_total 0 (x - y) with q | q
  · rw [Int.tdiv_eq_ediv_of_nonneg q]; omega
  · have e : Int.tdiv (x - y) 4096 = -Int.tdiv (-(x - y)) 4096 := by rw [Int.neg_tdiv, Int.neg_neg]
    rw [e, Int.tdiv_eq_ediv_of_nonneg (by omega)]; omega
/-! windows and estimates -/
def sinT (k : Int) : Int := cosT (Int.tmod (k + 18) 24)
def wsum (w t : Int → Int) : Nat → Int
  | 0 => 0
  | j + 1 => wsum w t j + w j * t j
def smpF (tm a b : Int) : Int := Int.tdiv (a * cosT (Int.tmod tm 24) - b * sinT (Int.tmod tm 24)) 4096
def eA (w : Int → Int) : Int := Int.tdiv (wsum w cosT 24) 49152
def eB (w : Int → Int) : Int := Int.tdiv (-(wsum w sinT 24)) 49152
theorem wsum_n {w t : Int → Int} {k s : Int} : ∀ j : Nat, (j : Int) ≤ k → wsum (ua w k s) t j = wsum w t j
  | 0, _ => rfl
  | j + 1, h => by
    unfold wsum
    rw [wsum_n j (by omega), ua_ne (by omega)]
theorem wsum_u {w t : Int → Int} {k s : Int} (h0 : 0 ≤ k) : ∀ j : Nat, k < j → wsum (ua w k s) t j = wsum w t j + (s - w k) * t k
  | 0, h => absurd h (by omega)
  | j + 1, h => by
    unfold wsum
    by_cases e : (j : Int) = k
    · rw [wsum_n j (by omega), e, ua_eq, Int.sub_mul]; omega
    · rw [wsum_u h0 j (by omega), ua_ne e]; omega
theorem wsum_c {w v t : Int → Int} : ∀ j : Nat, (∀ k : Int, 0 ≤ k → k < j → w k = v k) → wsum w t j = wsum v t j
  | 0, _ => rfl
  | j + 1, h => by
    unfold wsum
    rw [wsum_c j (fun k h0 h1 => h k h0 (by omega)), h j (by omega) (by omega)]
theorem wsum_b {w : Int → Int} (hw : ∀ k : Int, 0 ≤ k → k < 24 → -40000 ≤ w k ∧ w k ≤ 40000) : (-2488800000 ≤ wsum w cosT 24 ∧ wsum w cosT 24 ≤ 2488800000) ∧ (-2488800000 ≤ wsum w sinT 24 ∧ wsum w sinT 24 ≤ 2488800000) := by
  have h0 := hw 0 (by decide) (by decide)
  have h1 := hw 1 (by decide) (by decide)
  have h2 := hw 2 (by decide) (by decide)
  have h3 := hw 3 (by decide) (by decide)
  have h4 := hw 4 (by decide) (by decide)
  have h5 := hw 5 (by decide) (by decide)
  have h6 := hw 6 (by decide) (by decide)
  have h7 := hw 7 (by decide) (by decide)
  have h8 := hw 8 (by decide) (by decide)
  have h9 := hw 9 (by decide) (by decide)
  have h10 := hw 10 (by decide) (by decide)
  have h11 := hw 11 (by decide) (by decide)
  have h12 := hw 12 (by decide) (by decide)
  have h13 := hw 13 (by decide) (by decide)
  have h14 := hw 14 (by decide) (by decide)
  have h15 := hw 15 (by decide) (by decide)
  have h16 := hw 16 (by decide) (by decide)
  have h17 := hw 17 (by decide) (by decide)
  have h18 := hw 18 (by decide) (by decide)
  have h19 := hw 19 (by decide) (by decide)
  have h20 := hw 20 (by decide) (by decide)
  have h21 := hw 21 (by decide) (by decide)
  have h22 := hw 22 (by decide) (by decide)
  have h23 := hw 23 (by decide) (by decide)
  have e1 : wsum w cosT 24 = ((((((((((((((((((((((((0 + w 0 * 4096) + w 1 * 3956) + w 2 * 3547) + w 3 * 2896) + w 4 * 2048) + w 5 * 1060) + w 6 * 0) + w 7 * (-1060)) + w 8 * (-2048)) + w 9 * (-2896)) + w 10 * (-3547)) + w 11 * (-3956)) + w 12 * (-4096)) + w 13 * (-3956)) + w 14 * (-3547)) + w 15 * (-2896)) + w 16 * (-2048)) + w 17 * (-1060)) + w 18 * 0) + w 19 * 1060) + w 20 * 2048) + w 21 * 2896) + w 22 * 3547) + w 23 * 3956) := rfl
  have e2 : wsum w sinT 24 = ((((((((((((((((((((((((0 + w 0 * 0) + w 1 * 1060) + w 2 * 2048) + w 3 * 2896) + w 4 * 3547) + w 5 * 3956) + w 6 * 4096) + w 7 * 3956) + w 8 * 3547) + w 9 * 2896) + w 10 * 2048) + w 11 * 1060) + w 12 * 0) + w 13 * (-1060)) + w 14 * (-2048)) + w 15 * (-2896)) + w 16 * (-3547)) + w 17 * (-3956)) + w 18 * (-4096)) + w 19 * (-3956)) + w 20 * (-3547)) + w 21 * (-2896)) + w 22 * (-2048)) + w 23 * (-1060)) := rfl
  rw [e1, e2]
  constructor <;> constructor <;> omega
theorem est_b {x : Int} (h : -2488800000 ≤ x ∧ x ≤ 2488800000) : -51000 ≤ Int.tdiv x 49152 ∧ Int.tdiv x 49152 ≤ 51000 := by
  rcases Int.le_total 0 x with q | q
  · rw [Int.tdiv_eq_ediv_of_nonneg q]; omega
  · have e : Int.tdiv x 49152 = -Int.tdiv (-x) 49152 := by rw [Int.neg_tdiv, Int.neg_neg]
    rw [e, Int.tdiv_eq_ediv_of_nonneg (by omega)]; omega
theorem eA_b {w : Int → Int} (hw : ∀ k : Int, 0 ≤ k → k < 24 → -40000 ≤ w k ∧ w k ≤ 40000) : -51000 ≤ eA w ∧ eA w ≤ 51000 := est_b (wsum_b hw).1
theorem eB_b {w : Int → Int} (hw : ∀ k : Int, 0 ≤ k → k < 24 → -40000 ≤ w k ∧ w k ≤ 40000) : -51000 ≤ eB w ∧ eB w ≤ 51000 := est_b (by have := (wsum_b hw).2; omega)
/-! sets of zones, blocks, events -/
def shrI (s z : Int) : Int := s / 2 ^ z.toNat
def bt (s z : Int) : Int := shrI s z % 2
theorem shr_I {s z : Int} (hs : 0 ≤ s ∧ s ≤ 7) (hz : 0 ≤ z ∧ z ≤ 2) : I32 s >>> (I32 z &&& 31) = I32 (shrI s z) := by
  obtain ⟨n, rfl⟩ := Int.eq_ofNat_of_zero_le hs.1
  obtain ⟨m, rfl⟩ := Int.eq_ofNat_of_zero_le hz.1
  have h : ∀ n : Nat, n < 8 → ∀ m : Nat, m < 3 → I32 (n : Int) >>> (I32 (m : Int) &&& 31) = I32 (shrI (n : Int) (m : Int)) := by decide +kernel
  exact h n (by omega) m (by omega)
theorem shrI_r {s z : Int} (hs : 0 ≤ s ∧ s ≤ 7) (hz : 0 ≤ z ∧ z ≤ 2) : 0 ≤ shrI s z ∧ shrI s z ≤ 7 := by
  obtain ⟨n, rfl⟩ := Int.eq_ofNat_of_zero_le hs.1
  obtain ⟨m, rfl⟩ := Int.eq_ofNat_of_zero_le hz.1
  have h : ∀ n : Nat, n < 8 → ∀ m : Nat, m < 3 → 0 ≤ shrI (n : Int) (m : Int) ∧ shrI (n : Int) (m : Int) ≤ 7 := by decide +kernel
  exact h n (by omega) m (by omega)
theorem and1_I {s : Int} (hs : 0 ≤ s ∧ s ≤ 7) : I32 s &&& I32 1 = I32 (s % 2) := by
  obtain ⟨n, rfl⟩ := Int.eq_ofNat_of_zero_le hs.1
  have h : ∀ n : Nat, n < 8 → I32 (n : Int) &&& I32 1 = I32 ((n : Int) % 2) := by decide +kernel
  exact h n (by omega)
def mem (va vb lv x y : Int) : Int := if lv * lv ≤ va * va + vb * vb then x else y
def ntA (c : Prop) [Decidable c] (T : Int → Int) (n v : Int) : Int → Int := if c then ua T (Int.tmod n 60) v else T
def ntN (c : Prop) [Decidable c] (n : Int) : Int := if c then n + 1 else n
def pq (R : Nat → Nat) : Nat → Option Nat := fun i => if i < 5 then some (R (2 + 3 * i)) else none
def zq (R : Nat → Nat) : Nat → Option Nat := fun i => if i < 3 then some (R (19 + i)) else none
def adr (l : List Nat) (i : Nat) : Nat := l.getD i 0
def pol (ag hold m v : Int) : Int := if ag ≤ hold then m else v
def trq (pa pb ia ib rl xl : Int) : Int := rl * (pa * ia + pb * ib) + xl * (pb * ia - pa * ib)
theorem smpF_b {tm a b : Int} (ha : cb a) (hb : cb b) : -40000 ≤ smpF tm a b ∧ smpF tm a b ≤ 40000 :=
  smp_b (mul_b (A := 20000) (B := 4096) ha (cosT_b _)) (mul_b (A := 20000) (B := 4096) hb (cosT_b _))
theorem win_b {w : Int → Int} {i s : Int} (h : ∀ k : Int, 0 ≤ k → k < 24 → -40000 ≤ w k ∧ w k ≤ 40000) (_ : 0 ≤ i) (hs : -40000 ≤ s ∧ s ≤ 40000) : ∀ k : Int, 0 ≤ k → k < 24 → -40000 ≤ ua w i s k ∧ ua w i s k ≤ 40000 := fun k h0 h1 => by
  unfold ua; split
  · exact hs
  · exact h k h0 h1
def pkv (w q sw il s7 s5 i z : Int) (h : Bool) : Int := if (w = 2 ∨ (w = 0 ∧ 0 < q) ∨ (¬ w = 0 ∧ q < 0)) ∧ ¬ (sw = 1 ∧ bt s7 i = 1 ∨ il = 1 ∧ bt s5 i = 1) ∧ (z = 1 ∧ h = true) then 1 else 0
theorem pkv_r (w q sw il s7 s5 i z : Int) (h : Bool) : pkv w q sw il s7 s5 i z h = 0 ∨ pkv w q sw il s7 s5 i z h = 1 := by unfold pkv; split <;> simp
theorem ntN_r {c : Prop} [Decidable c] (n : Int) : n ≤ ntN c n ∧ ntN c n ≤ n + 1 := by unfold ntN; split <;> omega
def rip (tr d0 t0 d1 t1 d2 t2 : Int) : Int := if tr = -6 then (if d0 ≤ t0 then 0 else if d1 ≤ t1 then 1 else if d2 ≤ t2 then 2 else -6) else tr
theorem pol_b {ag h m v : Int} (hm : -51000 ≤ m ∧ m ≤ 51000) (hv : -51000 ≤ v ∧ v ≤ 51000) : -51000 ≤ pol ag h m v ∧ pol ag h m v ≤ 51000 := by unfold pol; split <;> assumption
theorem trq_b {pa pb ia ib rl xl : Int} (h5 : 0 ≤ rl ∧ rl ≤ 20000) (h6 : 0 ≤ xl ∧ xl ≤ 20000) (ha : -51000 ≤ pa ∧ pa ≤ 51000) (hb : -51000 ≤ pb ∧ pb ≤ 51000) (hc : -51000 ≤ ia ∧ ia ≤ 51000) (hd : -51000 ≤ ib ∧ ib ≤ 51000) : bl (trq pa pb ia ib rl xl) := by
  have m1 := mul_b (A := 51000) (B := 51000) ha hc
  have m2 := mul_b (A := 51000) (B := 51000) hb hd
  have m3 := mul_b (A := 51000) (B := 51000) hb hc
  have m4 := mul_b (A := 51000) (B := 51000) ha hd
  have m5 := mul_b (x := rl) (y := pa * ia + pb * ib) (A := 20000) (B := 5202000000) (by omega) (by omega)
  have m6 := mul_b (x := xl) (y := pb * ia - pa * ib) (A := 20000) (B := 5202000000) (by omega) (by omega)
  unfold trq
  exact ⟨by omega, by omega⟩
theorem ntA_t {c : Prop} [Decidable c] {T : Int → Int} {n v : Int} (h : c) : ntA c T n v = ua T (Int.tmod n 60) v := if_pos h
theorem ntA_f {c : Prop} [Decidable c] {T : Int → Int} {n v : Int} (h : ¬ c) : ntA c T n v = T := if_neg h
theorem ntN_t {c : Prop} [Decidable c] {n : Int} (h : c) : ntN c n = n + 1 := if_pos h
theorem ntN_f {c : Prop} [Decidable c] {n : Int} (h : ¬ c) : ntN c n = n := if_neg h
