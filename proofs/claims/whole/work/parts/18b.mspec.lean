/-! the reference's ways of saying it: one sample -/
def rpA (a : Int → Int) (k : Int) : Int → Int := fun j => if 0 ≤ j ∧ j < k then rmp a j else a j
theorem rpA_0 {a : Int → Int} (j : Int) : rpA a 0 j = a j := by unfold rpA; rw [if_neg (by omega)]
theorem rpA_g {a : Int → Int} {k j : Int} (h : k ≤ j) : rpA a k j = a j := by unfold rpA; rw [if_neg (by omega)]
theorem rpA_s {a : Int → Int} {k : Int} (h : 0 ≤ k) (j : Int) : rpA a (k + 1) j = ua (rpA a k) k (rmp a k) j := by
  unfold ua
  by_cases e : j = k
  · rw [if_pos e, e]; unfold rpA; rw [if_pos (by omega)]
  · rw [if_neg e]; unfold rpA
    by_cases q : 0 ≤ j ∧ j < k
    · rw [if_pos (by omega), if_pos q]
    · rw [if_neg (by omega), if_neg q]
theorem ramp_rp {a : Int → Int} (h : 0 < a 4) (j : Int) : s_ramp a j = ua (rpA a 4) 4 (rpA a 4 4 - 1) j := by
  by_cases e4 : j = 4
  · rw [e4, ua_eq, rpA_g (by decide)]; unfold s_ramp; rw [if_pos h, ua_eq]
  · rw [ua_ne e4]
    by_cases q : 0 ≤ j ∧ j < 4
    · rw [ramp_v h q]; unfold rpA; rw [if_pos q]
    · rw [ramp_o (by omega)]; unfold rpA; rw [if_neg q]
theorem sinT_m {t : Int} (h : 0 ≤ t) : sinT (Int.tmod t 24) = sinT t := by
  have h2 := (tmod_r (a := t) (b := 24) h (by decide)).1
  unfold sinT
  rw [Int.tmod_eq_emod_of_nonneg (a := Int.tmod t 24 + 18) (by omega), Int.tmod_eq_emod_of_nonneg (a := t + 18) (by omega), Int.tmod_eq_emod_of_nonneg h]
  congr 1; omega
theorem wsum_i {w t : Int → Int} {k : Int} (h : 0 ≤ k) : wsum w t (Int.toNat (k + 1)) = wsum w t (Int.toNat k) + w k * t k := by
  rw [show Int.toNat (k + 1) = Int.toNat k + 1 by omega]
  show wsum w t (Int.toNat k) + w ((Int.toNat k : Nat) : Int) * t ((Int.toNat k : Nat) : Int) = _
  rw [show ((Int.toNat k : Nat) : Int) = k by omega]
theorem wsum_j {w t : Int → Int} {k s : Int} (h : 0 ≤ k) (e : s = -wsum w t (Int.toNat k)) : -wsum w t (Int.toNat (k + 1)) = s - w k * t k := by rw [wsum_i h, e]; omega
def s_swB (a : Int → Int) (x y d : Int) : Int → Int := if hldA a 4 x y d = true then (if hldA a 3 x y d = true then (if a 95 = 0 ∧ a 27 ≤ a 94 then s_note 40 (ua a 95 1) else a) else ua a 94 (a 94 + 1)) else s_end a
theorem lshr_I {s z : Int} (hs : 0 ≤ s ∧ s ≤ 7) (hz : 0 ≤ z ∧ z ≤ 2) : I64 s >>> ((I32 z).toInt64 &&& 63) = I64 (shrI s z) := by
  obtain ⟨n, rfl⟩ := Int.eq_ofNat_of_zero_le hs.1
  obtain ⟨m, rfl⟩ := Int.eq_ofNat_of_zero_le hz.1
  have h : ∀ n : Nat, n < 8 → ∀ m : Nat, m < 3 → I64 (n : Int) >>> ((I32 (m : Int)).toInt64 &&& 63) = I64 (shrI (n : Int) (m : Int)) := by decide +kernel
  exact h n (by omega) m (by omega)
theorem land_I {s z : Int} (hs : 0 ≤ s ∧ s ≤ 7) (hz : 0 ≤ z ∧ z ≤ 2) : I64 (shrI s z) &&& I64 1 = I64 (bt s z) := by
  obtain ⟨n, rfl⟩ := Int.eq_ofNat_of_zero_le hs.1
  obtain ⟨m, rfl⟩ := Int.eq_ofNat_of_zero_le hz.1
  have h : ∀ n : Nat, n < 8 → ∀ m : Nat, m < 3 → I64 (shrI (n : Int) (m : Int)) &&& I64 1 = I64 (bt (n : Int) (m : Int)) := by decide +kernel
  exact h n (by omega) m (by omega)
def pkR (a : Int → Int) (z x y d : Int) : Int := pkv (a (32 + z)) (trqA a) (a 95) (a 96) (a 28) (a 26) z (a 91) (hldA a z x y d)
theorem wayP {w q : Int} (h : w = 2 ∨ (w = 0 ∧ 0 < q) ∨ (¬ w = 0 ∧ q < 0)) : w = 2 ∨ (w = 0 ∧ 0 < q) ∨ (¬ w = 0 ∧ q < 0) := h
theorem note_e {a : Int → Int} {z : Int} (h0 : 0 ≤ a 104) (k : Int) : s_note z a k = ua (ua (ua a (105 + 2 * Int.tmod (a 104) 60) (a 35)) (105 + 2 * Int.tmod (a 104) 60 + 1) z) 104 (ua (ua a (105 + 2 * Int.tmod (a 104) 60) (a 35)) (105 + 2 * Int.tmod (a 104) 60 + 1) z 104 + 1) k := by
  have := tmod_r (a := a 104) (b := 60) h0 (by decide)
  have e1 : ¬ (104 : Int) = 105 + 2 * Int.tmod (a 104) 60 + 1 := by omega
  have e2 : ¬ (104 : Int) = 105 + 2 * Int.tmod (a 104) 60 := by omega
  rw [ua_ne e1, ua_ne e2]; rfl
