/-! the numbers behind one sample, as the class computes them -/
theorem has_eq {b : Int → Int} {m : Int} (hm : b 21 = m) (h1 : 1 ≤ m) : b01 (hasP b) = bP (0 < b 86 * b 86 + b 87 * b 87 ∧ m * m ≤ b 86 * b 86 + b 87 * b 87) := by
  have hp : 0 < m * m := Int.mul_pos (by omega) (by omega)
  unfold b01 bP hasP ptD; rw [hm]
  by_cases q : m * m ≤ b 86 * b 86 + b 87 * b 87
  · rw [if_pos (decide_eq_true q), if_pos ⟨by omega, q⟩]
  · rw [if_neg (fun z => q (of_decide_eq_true z)), if_neg (fun z => q z.2)]
theorem ld_eq {b : Int → Int} {f g : Int} (hf : b 24 = f) (hg : b 25 = g) : b01 (ldP b) = bP (b01 (hasP b) = 1 ∧ f * ptD b ≤ absI (ptX b) ∧ absI (ptY b) * 1000 ≤ g * absI (ptX b)) := by
  unfold ldP; rw [hf, hg]
  by_cases q : b01 (hasP b) = 1 ∧ f * ptD b ≤ absI (ptX b) ∧ absI (ptY b) * 1000 ≤ g * absI (ptX b)
  · rw [bP_t q, b01_1.mp q.1, decide_eq_true q.2.1, decide_eq_true q.2.2]; rfl
  · rw [bP_f q]
    cases e : hasP b && (decide (f * ptD b ≤ absI (ptX b)) && decide (absI (ptY b) * 1000 ≤ g * absI (ptX b))) with
    | false => rfl
    | true =>
      rw [Bool.and_eq_true, Bool.and_eq_true] at e
      exact absurd ⟨b01_1.mpr e.1, of_decide_eq_true e.2.1, of_decide_eq_true e.2.2⟩ q
theorem pt_b {b : Int → Int} (h : ∀ j : Int, 84 ≤ j → j ≤ 87 → -51000 ≤ b j ∧ b j ≤ 51000) : (-5300000000000 ≤ ptX b ∧ ptX b ≤ 5300000000000) ∧ (-5300000000000 ≤ ptY b ∧ ptY b ≤ 5300000000000) ∧ (0 ≤ ptD b ∧ ptD b ≤ 5210000000) := by
  have h4 := h 84 (by decide) (by decide); have h5 := h 85 (by decide) (by decide); have h6 := h 86 (by decide) (by decide); have h7 := h 87 (by decide) (by decide)
  have m1 := mul_b (A := 51000) (B := 51000) h4 h6
  have m2 := mul_b (A := 51000) (B := 51000) h5 h7
  have m3 := mul_b (A := 51000) (B := 51000) h5 h6
  have m4 := mul_b (A := 51000) (B := 51000) h4 h7
  have m5 := mul_b (A := 51000) (B := 51000) h6 h6
  have m6 := mul_b (A := 51000) (B := 51000) h7 h7
  have n5 : 0 ≤ b 86 * b 86 := by rcases Int.le_total 0 (b 86) with q | q; exact Int.mul_nonneg q q; exact Int.mul_nonneg_of_nonpos_of_nonpos q q
  have n6 : 0 ≤ b 87 * b 87 := by rcases Int.le_total 0 (b 87) with q | q; exact Int.mul_nonneg q q; exact Int.mul_nonneg_of_nonpos_of_nonpos q q
  unfold ptX ptY ptD; omega
theorem st5_o {a : Int → Int} {j : Int} (h35 : 0 ≤ a 35) (h : ¬ (0 ≤ j ∧ j ≤ 4) ∧ ¬ (36 ≤ j ∧ j ≤ 93) ∧ ¬ j = 96) : st5 a j = a j := by
  unfold st5; rw [imp_o (by omega), rem_o (by omega), st3_o (by omega), st2_o h35 (by omega)]
theorem st5_3 {a : Int → Int} {j : Int} (h : ¬ (88 ≤ j ∧ j ≤ 93) ∧ ¬ j = 96) : st5 a j = st3 a j := by
  unfold st5; rw [imp_o (by omega), rem_o (by omega)]
theorem st5_r {a : Int → Int} {j : Int} (h : ¬ (91 ≤ j ∧ j ≤ 93) ∧ ¬ j = 96) : st5 a j = s_rem (st3 a) j := by
  unfold st5; rw [imp_o (by omega)]
theorem st5_ld (a : Int → Int) : ptX (s_rem (st3 a)) = ptX (st3 a) ∧ ptY (s_rem (st3 a)) = ptY (st3 a) ∧ ptD (s_rem (st3 a)) = ptD (st3 a) ∧ hasP (s_rem (st3 a)) = hasP (st3 a) ∧ ldP (s_rem (st3 a)) = ldP (st3 a) := ld_c (fun j hj => rem_o (by omega))
theorem st5_pt (a : Int → Int) : ptX (st5 a) = ptX (st3 a) ∧ ptY (st5 a) = ptY (st3 a) ∧ ptD (st5 a) = ptD (st3 a) := by
  have h := ld_c (b := st3 a) (c := st5 a) (fun j hj => st5_3 (by omega))
  exact ⟨h.1, h.2.1, h.2.2.1⟩
theorem st5_91 (a : Int → Int) : st5 a 91 = b01 (hasP (st3 a)) := by unfold st5; rw [imp_91, (st5_ld a).2.2.2.1]
theorem st5_96 (a : Int → Int) : st5 a 96 = b01 (ldP (st3 a)) := by unfold st5; rw [imp_96, (st5_ld a).2.2.2.2]
theorem st6_o {a : Int → Int} {j : Int} (h35 : 0 ≤ a 35) (h0 : 0 ≤ a 104) (h : ¬ (j = 94 ∨ j = 95 ∨ 104 ≤ j ∧ j < 225)) : st6 a j = st5 a j := by
  unfold st6; exact swg_o (by rw [st5_o h35 (by decide)]; exact h0) h
theorem insA_w {a c : Int → Int} {p x y d : Int} (hp : 0 ≤ p ∧ p < 5) (hn : 0 ≤ a (225 + 17 * p) ∧ a (225 + 17 * p) ≤ 8) (h : ∀ j : Int, 225 ≤ j → j < 310 → c j = a j) (hx : ptX c = x) (hy : ptY c = y) (hd : ptD c = d) : insA c p = hldA a p x y d := by
  unfold insA; rw [hx, hy, hd]; exact (hldA_c hp hn h).2
theorem st5_ins {a : Int → Int} {p : Int} (h35 : 0 ≤ a 35) (hp : 0 ≤ p ∧ p < 5) (hn : 0 ≤ a (225 + 17 * p) ∧ a (225 + 17 * p) ≤ 8) : insA (st5 a) p = hldA a p (ptX (st3 a)) (ptY (st3 a)) (ptD (st3 a)) :=
  insA_w hp hn (fun j h1 h2 => st5_o h35 (by omega)) (st5_pt a).1 (st5_pt a).2.1 (st5_pt a).2.2
theorem st6_ins {a : Int → Int} {p : Int} (h35 : 0 ≤ a 35) (h0 : 0 ≤ a 104) (hp : 0 ≤ p ∧ p < 5) (hn : 0 ≤ a (225 + 17 * p) ∧ a (225 + 17 * p) ≤ 8) : insA (st6 a) p = hldA a p (ptX (st3 a)) (ptY (st3 a)) (ptD (st3 a)) := by
  have h := ld_c (b := st5 a) (c := st6 a) (fun j hj => st6_o h35 h0 (by omega))
  exact insA_w hp hn (fun j h1 h2 => by rw [st6_o h35 h0 (by omega), st5_o h35 (by omega)]) (h.1.trans (st5_pt a).1) (h.2.1.trans (st5_pt a).2.1) (h.2.2.1.trans (st5_pt a).2.2)
/-- the swing's step, as the class takes it -/
theorem st6_sw {a : Int → Int} (h35 : 0 ≤ a 35) (h0 : 0 ≤ a 104) (h95 : a 95 = 0 ∨ a 95 = 1) {z x y d : Int} {o i : Bool} (hz : z = b01 (hasP (st3 a))) (hx : x = ptX (st3 a)) (hy : y = ptY (st3 a)) (hd : d = ptD (st3 a)) (ho : o = hldA a 4 x y d) (hi : i = hldA a 3 x y d)
    (hn3 : 0 ≤ a 276 ∧ a 276 ≤ 8) (hn4 : 0 ≤ a 293 ∧ a 293 ≤ 8) :
    st6 a 94 = (if z = 1 ∧ o = true then (if z = 1 ∧ i = true then a 94 else a 94 + 1) else 0) ∧
    st6 a 95 = (if z = 1 ∧ o = true then (if (z = 1 ∧ o = true) ∧ (z = 1 ∧ i = true) ∧ a 95 = 0 ∧ a 27 ≤ a 94 then 1 else a 95) else 0) ∧
    st6 a 104 = ntN (((z = 1 ∧ o = true) ∧ (z = 1 ∧ i = true) ∧ a 95 = 0 ∧ a 27 ≤ a 94) ∨ (¬ (z = 1 ∧ o = true) ∧ a 95 = 1)) (a 104) ∧
    (∀ k : Int, 0 ≤ k → k < 60 → sh2 (st6 a) 105 k = ntA (((z = 1 ∧ o = true) ∧ (z = 1 ∧ i = true) ∧ a 95 = 0 ∧ a 27 ≤ a 94) ∨ (¬ (z = 1 ∧ o = true) ∧ a 95 = 1)) (sh2 a 105) (a 104) (a 35) k) ∧
    (∀ k : Int, 0 ≤ k → k < 60 → sh2 (st6 a) 106 k = ntA (((z = 1 ∧ o = true) ∧ (z = 1 ∧ i = true) ∧ a 95 = 0 ∧ a 27 ≤ a 94) ∨ (¬ (z = 1 ∧ o = true) ∧ a 95 = 1)) (sh2 a 106) (a 104) (if ¬ (z = 1 ∧ o = true) ∧ a 95 = 1 then 41 else 40) k) := by
  subst hz hx hy hd ho hi
  have e91 := st5_91 a
  have e4 := st5_ins (p := 4) h35 (by decide) hn4
  have e3 := st5_ins (p := 3) h35 (by decide) hn3
  have f94 : st5 a 94 = a 94 := st5_o h35 (by decide)
  have f95 : st5 a 95 = a 95 := st5_o h35 (by decide)
  have f27 : st5 a 27 = a 27 := st5_o h35 (by decide)
  have f104 : st5 a 104 = a 104 := st5_o h35 (by decide)
  have f35 : st5 a 35 = a 35 := st5_o h35 (by decide)
  have g0 : 0 ≤ st5 a 104 := by rw [f104]; exact h0
  have u94 := swg_94 g0
  have u95 := swg_95 g0 (by rw [f95]; exact h95)
  have ul := swg_log (c := st5 a) g0 (P := ((st5 a 91 = 1 ∧ insA (st5 a) 4 = true) ∧ (st5 a 91 = 1 ∧ insA (st5 a) 3 = true) ∧ st5 a 95 = 0 ∧ st5 a 27 ≤ st5 a 94) ∨ (¬ (st5 a 91 = 1 ∧ insA (st5 a) 4 = true) ∧ st5 a 95 = 1)) Iff.rfl (Q := ¬ (st5 a 91 = 1 ∧ insA (st5 a) 4 = true) ∧ st5 a 95 = 1) Iff.rfl
  rw [e91, e4, e3, f94] at u94
  rw [e91, e4, e3, f94, f95, f27] at u95
  simp only [e91, e4, e3, f94, f95, f27, f104, f35] at ul
  refine ⟨u94, u95, ul.1, fun k h1 h2 => ?_, fun k h1 h2 => ?_⟩
  · refine (ul.2.1 k h1 h2).trans ?_
    unfold ntA; split
    · unfold ua; split
      · rfl
      · unfold sh2; exact st5_o h35 (by omega)
    · unfold sh2; exact st5_o h35 (by omega)
  · refine (ul.2.2 k h1 h2).trans ?_
    unfold ntA; split
    · unfold ua; split
      · rfl
      · unfold sh2; exact st5_o h35 (by omega)
    · unfold sh2; exact st5_o h35 (by omega)
/-- which zones are picked up -/
theorem pkA_6 {a : Int → Int} {i : Int} (h35 : 0 ≤ a 35) (h0 : 0 ≤ a 104) (hi : 0 ≤ i ∧ i ≤ 2) (hn : 0 ≤ a (225 + 17 * i) ∧ a (225 + 17 * i) ≤ 8) :
    pkA (st6 a) i = pkv (a (32 + i)) (trq (pol (s_rem (st3 a) 90) (a 23) (s_rem (st3 a) 88) (st3 a 84)) (pol (s_rem (st3 a) 90) (a 23) (s_rem (st3 a) 89) (st3 a 85)) (st3 a 86) (st3 a 87) (a 17) (a 18)) (st6 a 95) (b01 (ldP (st3 a))) (a 28) (a 26) i (b01 (hasP (st3 a))) (hldA a i (ptX (st3 a)) (ptY (st3 a)) (ptD (st3 a))) := by
  have o : ∀ j : Int, ¬ (j = 94 ∨ j = 95 ∨ 104 ≤ j ∧ j < 225) → st6 a j = st5 a j := fun j hj => st6_o h35 h0 hj
  have p : ∀ j : Int, ¬ (0 ≤ j ∧ j ≤ 4) ∧ ¬ (36 ≤ j ∧ j ≤ 93) ∧ ¬ j = 96 → st5 a j = a j := fun j hj => st5_o h35 hj
  unfold pkA trqA
  rw [st6_ins h35 h0 (by omega) hn, o (32 + i) (by omega), p (32 + i) (by omega), o 90 (by decide), st5_r (j := 90) (by decide), o 88 (by decide), st5_r (j := 88) (by decide), o 89 (by decide), st5_r (j := 89) (by decide),
    o 23 (by decide), p 23 (by decide), o 84 (by decide), st5_3 (j := 84) (by decide), o 85 (by decide), st5_3 (j := 85) (by decide), o 86 (by decide), st5_3 (j := 86) (by decide), o 87 (by decide), st5_3 (j := 87) (by decide),
    o 17 (by decide), p 17 (by decide), o 18 (by decide), p 18 (by decide), o 96 (by decide), st5_96, o 28 (by decide), p 28 (by decide), o 26 (by decide), p 26 (by decide), o 91 (by decide), st5_91]
