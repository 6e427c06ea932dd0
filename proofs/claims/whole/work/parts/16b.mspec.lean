/-! the reference's ways of saying it: polygons -/
theorem tm_lt {i n : Int} (h0 : 0 ≤ i) (h1 : i < n) : Int.tmod i n = i := by rw [Int.tmod_eq_emod_of_nonneg h0, Int.emod_eq_of_lt h0 h1]
theorem tm_ge {i n : Int} (h0 : n ≤ i) (h1 : i < 2 * n) : Int.tmod i n = i - n := by
  rw [Int.tmod_eq_emod_of_nonneg (by omega)]
  have e : i = (i - n) + n * 1 := by omega
  rw [e, Int.add_mul_emod_self_left, Int.emod_eq_of_lt (by omega) (by omega)]; omega
theorem tm_3 {i n : Int} (h0 : 0 ≤ i) (h1 : i < n) (hn : 3 ≤ n) : Int.tmod i n = i ∧ Int.tmod (i + 1) n = af n i ∧ Int.tmod (i + 2) n = af n (af n i) := by
  refine ⟨tm_lt h0 h1, ?_, ?_⟩
  · unfold af; split
    · exact tm_lt (by omega) (by omega)
    · rw [tm_ge (by omega) (by omega)]; omega
  · by_cases q : i + 2 < n
    · rw [tm_lt (by omega) q]; unfold af; rw [if_pos (show i + 1 < n by omega), if_pos (by omega)]; omega
    · rw [tm_ge (by omega) (by omega)]; unfold af
      by_cases r : i + 1 < n
      · rw [if_pos r, if_neg (by omega)]; omega
      · rw [if_neg r, if_pos (by omega)]; omega
def gsg (Y : Int → Int) (n k : Int) : Int := sgn3 (Y (Int.tmod (k + 1) n)) (Y (Int.tmod k n))
theorem gsg_k (Y : Int → Int) (n k : Int) : gsg Y n k = sgn3 (Y (Int.tmod (k + 1) n)) (Y (Int.tmod k n)) := rfl
def chg (g : Int → Int) (n : Int) : Nat → Int
  | 0 => 0
  | j + 1 => if n ≤ j ∧ g j ≠ 0 ∧ lsg g 0 j ≠ 0 ∧ g j ≠ lsg g 0 j then chg g n j + 1 else chg g n j
theorem chg_s {g : Int → Int} {n k : Int} (h : 0 ≤ k) : chg g n (Int.toNat (k + 1)) = if n ≤ k ∧ g k ≠ 0 ∧ lsg g 0 (Int.toNat k) ≠ 0 ∧ g k ≠ lsg g 0 (Int.toNat k) then chg g n (Int.toNat k) + 1 else chg g n (Int.toNat k) := by
  rw [show Int.toNat (k + 1) = Int.toNat k + 1 by omega]
  show (if n ≤ ((Int.toNat k : Nat) : Int) ∧ g ((Int.toNat k : Nat) : Int) ≠ 0 ∧ lsg g 0 (Int.toNat k) ≠ 0 ∧ g ((Int.toNat k : Nat) : Int) ≠ lsg g 0 (Int.toNat k) then _ else _) = _
  rw [show ((Int.toNat k : Nat) : Int) = k by omega]
theorem chg_b {g : Int → Int} {n : Int} : ∀ j : Nat, 0 ≤ chg g n j ∧ chg g n j ≤ j
  | 0 => ⟨Int.le_refl _, Int.le_refl _⟩
  | j + 1 => by
    have h := chg_b (g := g) (n := n) j
    unfold chg; split <;> omega
theorem gsg_r (Y : Int → Int) (n k : Int) : -1 ≤ gsg Y n k ∧ gsg Y n k ≤ 1 := by unfold gsg sgn3; (repeat' split) <;> omega
theorem lsg_z {f : Int → Int} : ∀ {b : Int} (j : Nat), lsg f b j = 0 → b = 0 ∧ ∀ k : Int, 0 ≤ k → k < j → f k = 0
  | b, 0, h => ⟨h, fun k h0 h1 => absurd h1 (by omega)⟩
  | b, j + 1, h => by
    unfold lsg at h
    split at h
    · rename_i q
      have r := lsg_z j h
      refine ⟨r.1, fun k h0 h1 => ?_⟩
      by_cases e : k = j
      · rw [e]; exact q
      · exact r.2 k h0 (by omega)
    · rename_i q; exact absurd h q
theorem lsg_s1 (g : Int → Int) (b : Int) (j : Nat) : lsg g b (j + 1) = if g j = 0 then lsg g b j else g j := rfl
theorem chg_s1 (g : Int → Int) (n : Int) (j : Nat) : chg g n (j + 1) = if n ≤ j ∧ g j ≠ 0 ∧ lsg g 0 j ≠ 0 ∧ g j ≠ lsg g 0 j then chg g n j + 1 else chg g n j := rfl
theorem tcn_s1 (g : Int → Int) (b : Int) (j : Nat) : tcn g b (j + 1) = if g j ≠ 0 ∧ g j ≠ lsg g b j then tcn g b j + 1 else tcn g b j := rfl
/-- how often the sign changes, once around: the reference's two rounds are the class's -/
theorem chg_yt {Y : Int → Int} {n : Int} (hn : 0 < n) : chg (gsg Y n) n (Int.toNat (2 * n)) = yturns Y n := by
  have a1 : ∀ k : Int, 0 ≤ k → k < n → gsg Y n k = ysg Y n k := fun k h0 h1 => by
    unfold gsg ysg; rw [tm_lt h0 h1]
    unfold af; split
    · rw [tm_lt (by omega) (by omega)]
    · rw [tm_ge (by omega) (by omega), show k + 1 - n = 0 by omega]
  have a2 : ∀ k : Int, 0 ≤ k → k < n → gsg Y n (n + k) = ysg Y n k := fun k h0 h1 => by
    unfold gsg ysg; rw [tm_ge (i := n + k) (by omega) (by omega), show n + k - n = k by omega]
    unfold af; split
    · rw [tm_ge (by omega) (by omega), show n + k + 1 - n = k + 1 by omega]
    · have e : n + k + 1 = 2 * n := by omega
      rw [e, Int.tmod_eq_emod_of_nonneg (by omega), Int.mul_comm, show n * 2 = 0 + n * 2 by omega, Int.add_mul_emod_self_left, Int.zero_emod]
  have b1 : ∀ j : Nat, (j : Int) ≤ n → lsg (gsg Y n) 0 j = lsg (ysg Y n) 0 j ∧ chg (gsg Y n) n j = 0 := fun j => by
    induction j with
    | zero => exact fun _ => ⟨rfl, rfl⟩
    | succ j ih =>
      intro hj
      have r := ih (by omega)
      rw [lsg_s1, lsg_s1, chg_s1, a1 j (by omega) (by omega), r.1, r.2, if_neg (fun q : n ≤ (j : Int) ∧ _ => by omega)]
      exact ⟨rfl, rfl⟩
  have hN : ((Int.toNat n : Nat) : Int) = n := by omega
  have b2 : ∀ j : Nat, (j : Int) ≤ n → lsg (gsg Y n) 0 (Int.toNat n + j) = lsg (ysg Y n) (lsg (ysg Y n) 0 (Int.toNat n)) j ∧ chg (gsg Y n) n (Int.toNat n + j) = tcn (ysg Y n) (lsg (ysg Y n) 0 (Int.toNat n)) j := fun j => by
    induction j with
    | zero => exact fun _ => b1 (Int.toNat n) (by omega)
    | succ j ih =>
      intro hj
      have r := ih (by omega)
      have e : (((Int.toNat n + j : Nat)) : Int) = n + j := by omega
      rw [show Int.toNat n + (j + 1) = (Int.toNat n + j) + 1 by omega]
      rw [lsg_s1, lsg_s1, chg_s1, tcn_s1, e, a2 j (by omega) (by omega), r.1, r.2]
      refine ⟨rfl, ?_⟩
      by_cases z : lsg (ysg Y n) (lsg (ysg Y n) 0 (Int.toNat n)) j = 0
      · have w := lsg_z j z
        have w2 := (lsg_z (Int.toNat n) w.1).2 j (by omega) (by omega)
        rw [if_neg (fun q => q.2.1 w2), if_neg (fun q => q.1 w2)]
      · by_cases t : ysg Y n j ≠ 0 ∧ ysg Y n j ≠ lsg (ysg Y n) (lsg (ysg Y n) 0 (Int.toNat n)) j
        · rw [if_pos ⟨by omega, t.1, z, t.2⟩, if_pos t]
        · rw [if_neg (fun q => t ⟨q.2.1, q.2.2.2⟩), if_neg t]
  have r := (b2 (Int.toNat n) (by omega)).2
  rw [show Int.toNat (2 * n) = Int.toNat n + Int.toNat n by omega, r]
  rfl
theorem up4 {f g : Int → Int} (h : ∀ n : Nat, n < 4 → f n = g n) {k : Int} (h0 : 0 ≤ k) (h1 : k < 4) : f k = g k := by have := h k.toNat (by omega); rw [show ((k.toNat : Nat) : Int) = k by omega] at this; exact this
theorem cpyT_s {a b : Int → Int} {k j : Int} (h : 0 ≤ k) : cpyT a b 0 0 (k + 1) j = ua (cpyT a b 0 0 k) k (a k) j := by
  unfold cpyT ua
  by_cases e : j = k
  · rw [if_pos (by omega), if_pos e, e]; congr 1; omega
  · show (if 0 ≤ j ∧ j < 0 + (k + 1) then a (0 + (j - 0)) else b j) = (if j = k then a k else if 0 ≤ j ∧ j < 0 + k then a (0 + (j - 0)) else b j)
    rw [if_neg e]
    by_cases q : 0 ≤ j ∧ j < 0 + k
    · rw [if_pos (by omega), if_pos q]
    · rw [if_neg (by omega), if_neg q]
theorem cpyT_0 {a b : Int → Int} {j : Int} : cpyT a b 0 0 0 j = b j := by unfold cpyT; rw [if_neg (by omega)]
def s_app (a : Int → Int) (p x y : Int) : Int → Int := ua (ua (ua a (226 + 17 * p + 2 * a (225 + 17 * p)) x) (227 + 17 * p + 2 * a (225 + 17 * p)) y) (225 + 17 * p) (a (225 + 17 * p) + 1)
theorem trn_b {X Y : Int → Int} {n k : Int} (hX : cbA X) (hY : cbA Y) (hn : 0 < n ∧ n ≤ 8) (hk : 0 ≤ k ∧ k < n) : -3200000000 ≤ trn X Y n k ∧ trn X Y n k ≤ 3200000000 := by
  have a1 := af_r (n := n) (k := k) hn.1 hk.1
  have a2 := af_r (n := n) (k := af n k) hn.1 a1.1
  have x1 := hX k (by omega) (by omega); have x2 := hX (af n k) (by omega) (by omega); have x3 := hX (af n (af n k)) (by omega) (by omega)
  have y1 := hY k (by omega) (by omega); have y2 := hY (af n k) (by omega) (by omega); have y3 := hY (af n (af n k)) (by omega) (by omega)
  have m1 := mul_b (x := X (af n k) - X k) (y := Y (af n (af n k)) - Y (af n k)) (A := 40000) (B := 40000) (by omega) (by omega)
  have m2 := mul_b (x := Y (af n k) - Y k) (y := X (af n (af n k)) - X (af n k)) (A := 40000) (B := 40000) (by omega) (by omega)
  unfold trn; omega
theorem edg_b {X Y : Int → Int} {n k x y d : Int} (hX : cbA X) (hY : cbA Y) (hn : 0 < n ∧ n ≤ 8) (hk : 0 ≤ k ∧ k < n) (hx : -5300000000000 ≤ x ∧ x ≤ 5300000000000) (hy : -5300000000000 ≤ y ∧ y ≤ 5300000000000) (hd : 0 ≤ d ∧ d ≤ 5210000000) : bl (edg X Y n x y d k) := by
  have a1 := af_r (n := n) (k := k) hn.1 hk.1
  have x1 := hX k (by omega) (by omega); have x2 := hX (af n k) (by omega) (by omega)
  have y1 := hY k (by omega) (by omega); have y2 := hY (af n k) (by omega) (by omega)
  have p1 := mul_b (x := Y k) (y := d) (A := 20000) (B := 5210000000) y1 (by omega)
  have p2 := mul_b (x := X k) (y := d) (A := 20000) (B := 5210000000) x1 (by omega)
  have m1 := mul_b (x := X (af n k) - X k) (y := y - Y k * d) (A := 40000) (B := 109500000000000) (by omega) (by omega)
  have m2 := mul_b (x := Y (af n k) - Y k) (y := x - X k * d) (A := 40000) (B := 109500000000000) (by omega) (by omega)
  unfold edg; exact ⟨by omega, by omega⟩
theorem snd_3 {a : Int → Int} {p : Int} (h : sndA a p = 0) : 3 ≤ a (225 + 17 * p) := by
  unfold sndA snd at h
  by_cases q : a (225 + 17 * p) < 3
  · rw [if_pos q] at h; omega
  · omega
theorem yl_s {X Y : Int → Int} {n x y d i r r' : Int} (h0 : 0 ≤ i) (hr : r = b01 (allB (ylB X Y n x y d) (Int.toNat i))) (h : (r' = 1 ∧ ¬ r = 0 ∧ 0 ≤ edg X Y n x y d i) ∨ (r' = 0 ∧ (r = 0 ∨ edg X Y n x y d i < 0))) : r' = b01 (allB (ylB X Y n x y d) (Int.toNat (i + 1))) := by
  rw [show Int.toNat (i + 1) = Int.toNat i + 1 by omega]
  unfold allB
  rw [show ((Int.toNat i : Nat) : Int) = i by omega]
  rcases h with ⟨rfl, h1, h2⟩ | ⟨rfl, h1⟩
  · have e : allB (ylB X Y n x y d) (Int.toNat i) = true := by
      cases q : allB (ylB X Y n x y d) (Int.toNat i) with
      | true => rfl
      | false => rw [q] at hr; exact absurd hr h1
    rw [e, show ylB X Y n x y d i = true from decide_eq_true h2]; rfl
  · rcases h1 with h1 | h1
    · have e : allB (ylB X Y n x y d) (Int.toNat i) = false := by
        cases q : allB (ylB X Y n x y d) (Int.toNat i) with
        | false => rfl
        | true => rw [q] at hr; rw [h1] at hr; exact absurd hr (by decide)
      rw [e]; rfl
    · rw [show ylB X Y n x y d i = false from decide_eq_false (by omega), Bool.and_false]; rfl
theorem yl_e {a : Int → Int} {p x y d i : Int} (hs : sndA a p = 0) (hi : i = a (225 + 17 * p)) : bP (hldA a p x y d = true) = b01 (allB (ylB (sh2 a (226 + 17 * p)) (sh2 a (227 + 17 * p)) (a (225 + 17 * p)) x y d) (Int.toNat i)) := by
  subst hi
  have e : hldA a p x y d = allB (ylB (sh2 a (226 + 17 * p)) (sh2 a (227 + 17 * p)) (a (225 + 17 * p)) x y d) (Int.toNat (a (225 + 17 * p))) := by
    unfold hldA hld; rw [show snd (sh2 a (226 + 17 * p)) (sh2 a (227 + 17 * p)) (a (225 + 17 * p)) = 0 from hs]; rfl
  rw [e]; rfl
theorem s_app_e {a : Int → Int} {p x y : Int} (k : Int) : s_app a p x y k = ua (ua (ua a (226 + 17 * p + 2 * a (225 + 17 * p) + 0) x) (226 + 17 * p + 2 * a (225 + 17 * p) + 1) y) (225 + 17 * p) (a (225 + 17 * p) + 1) k := by
  unfold s_app
  rw [show 226 + 17 * p + 2 * a (225 + 17 * p) + 0 = 226 + 17 * p + 2 * a (225 + 17 * p) by omega, show 226 + 17 * p + 2 * a (225 + 17 * p) + 1 = 227 + 17 * p + 2 * a (225 + 17 * p) by omega]
