/-! what one sample makes of each number -/
theorem ramp_v {a : Int → Int} {k : Int} (h : 0 < a 4) (hk : 0 ≤ k ∧ k < 4) : s_ramp a k = rmp a k := by
  unfold s_ramp; rw [if_pos h, ua_ne (by omega)]
  rcases (show k = 0 ∨ k = 1 ∨ k = 2 ∨ k = 3 by omega) with rfl | rfl | rfl | rfl
  · rw [ua_ne (by decide), ua_ne (by decide), ua_ne (by decide), ua_eq]
  · rw [ua_ne (by decide), ua_ne (by decide), ua_eq]
  · rw [ua_ne (by decide), ua_eq]
  · rw [ua_eq]
theorem ramp_4 {a : Int → Int} (h : 0 < a 4) : s_ramp a 4 = a 4 - 1 := by unfold s_ramp; rw [if_pos h, ua_eq]
theorem ramp_n {a : Int → Int} (h : ¬ 0 < a 4) : s_ramp a = a := by unfold s_ramp; rw [if_neg h]
theorem rmp_w {a : Int → Int} {k f t : Int} (hf : a (6 + k) = f) (ht : a (10 + k) = t) : rmp a k = f + Int.tdiv ((t - f) * (a 5 - (a 4 - 1))) (a 5) := by
  unfold rmp; rw [hf, ht, show a 5 - a 4 + 1 = a 5 - (a 4 - 1) by omega]
theorem way_b {f t n i : Int} (hf : cb f) (ht : cb t) (hi : 0 ≤ i ∧ i ≤ n) (hn : 0 < n) : cb (f + Int.tdiv ((t - f) * i) n) := by
  rcases Int.le_total 0 (t - f) with q | q
  · have h0 : 0 ≤ (t - f) * i := Int.mul_nonneg q hi.1
    have h1 : (t - f) * i ≤ (t - f) * n := Int.mul_le_mul_of_nonneg_left hi.2 q
    have h2 : 0 ≤ Int.tdiv ((t - f) * i) n := Int.tdiv_nonneg h0 (by omega)
    have h3 : Int.tdiv ((t - f) * i) n ≤ t - f := by
      rw [Int.tdiv_eq_ediv_of_nonneg h0]; exact Int.ediv_le_of_le_mul hn h1
    constructor <;> omega
  · have h0 : 0 ≤ (-(t - f)) * i := Int.mul_nonneg (by omega) hi.1
    have h1 : (-(t - f)) * i ≤ (-(t - f)) * n := Int.mul_le_mul_of_nonneg_left hi.2 (by omega)
    have e : Int.tdiv ((t - f) * i) n = -Int.tdiv ((-(t - f)) * i) n := by rw [Int.neg_mul, Int.neg_tdiv, Int.neg_neg]
    have h2 : 0 ≤ Int.tdiv ((-(t - f)) * i) n := Int.tdiv_nonneg h0 (by omega)
    have h3 : Int.tdiv ((-(t - f)) * i) n ≤ -(t - f) := by
      rw [Int.tdiv_eq_ediv_of_nonneg h0]; exact Int.ediv_le_of_le_mul hn h1
    rw [e]; constructor <;> omega
/-- what is kept of a state: its numbers are in their ranges, its counts at most B -/
def Inv (a : Int → Int) (B : Int) : Prop :=
  (∀ j : Int, 0 ≤ j → j < 4 → cb (a j)) ∧ (0 ≤ a 4 ∧ a 4 ≤ a 5 ∧ a 5 ≤ 2400) ∧ (∀ j : Int, 6 ≤ j → j < 14 → cb (a j)) ∧ (1 ≤ a 14 ∧ a 14 ≤ 20000) ∧ (∀ j : Int, 15 ≤ j → j < 21 → 0 ≤ a j ∧ a j ≤ 20000) ∧
  ((1 ≤ a 21 ∧ a 21 ≤ 20000) ∧ (0 ≤ a 22 ∧ a 22 ≤ 20000) ∧ (0 ≤ a 23 ∧ a 23 ≤ 1000) ∧ (0 ≤ a 24 ∧ a 24 ≤ 20000) ∧ (0 ≤ a 25 ∧ a 25 ≤ 10000) ∧ (0 ≤ a 26 ∧ a 26 ≤ 7) ∧ (1 ≤ a 27 ∧ a 27 ≤ 1000) ∧ (0 ≤ a 28 ∧ a 28 ≤ 7)) ∧
  (∀ j : Int, 29 ≤ j → j < 32 → 1 ≤ a j ∧ a j ≤ 2400) ∧ (∀ j : Int, 32 ≤ j → j < 35 → 0 ≤ a j ∧ a j ≤ 2) ∧ (0 ≤ a 35 ∧ a 35 ≤ B) ∧ (∀ j : Int, 36 ≤ j → j < 84 → -40000 ≤ a j ∧ a j ≤ 40000) ∧ (∀ j : Int, 84 ≤ j → j < 90 → -51000 ≤ a j ∧ a j ≤ 51000) ∧
  (0 ≤ a 90 ∧ a 90 ≤ B) ∧ (a 91 = 0 ∨ a 91 = 1) ∧ (0 ≤ a 94 ∧ a 94 ≤ B) ∧ (a 95 = 0 ∨ a 95 = 1) ∧ (a 96 = 0 ∨ a 96 = 1) ∧ (a 97 = -6 ∨ (0 ≤ a 97 ∧ a 97 ≤ 2)) ∧
  (∀ j : Int, 98 ≤ j → j < 101 → 0 ≤ a j ∧ a j ≤ B) ∧ (∀ j : Int, 101 ≤ j → j < 104 → a j = 0 ∨ a j = 1) ∧ (0 ≤ a 104 ∧ a 104 ≤ 5 * B) ∧
  (∀ p : Int, 0 ≤ p → p < 5 → 0 ≤ a (225 + 17 * p) ∧ a (225 + 17 * p) ≤ 8) ∧ (∀ p k : Int, 0 ≤ p → p < 5 → 0 ≤ k → k < 8 → cb (a (226 + 17 * p + 2 * k)) ∧ cb (a (227 + 17 * p + 2 * k)))
theorem st2_o {a : Int → Int} {j : Int} (h35 : 0 ≤ a 35) (h : ¬ (0 ≤ j ∧ j ≤ 4) ∧ ¬ (36 ≤ j ∧ j < 84)) : st2 a j = a j := by
  have e1 : s_ramp a 35 = a 35 := ramp_o (by decide)
  unfold st2; rw [smp_o (by rw [smp_o (by omega) (by omega), e1]; exact h35) (by omega), smp_o (by omega) (by omega), ramp_o (by omega)]
theorem st2_r {a : Int → Int} {j : Int} (h35 : 0 ≤ a 35) (h : 0 ≤ j ∧ j ≤ 4) : st2 a j = s_ramp a j := by
  have e1 : s_ramp a 35 = a 35 := ramp_o (by decide)
  unfold st2; rw [smp_o (by rw [smp_o (by omega) (by omega), e1]; exact h35) (by omega), smp_o (by omega) (by omega)]
theorem st2_V {a : Int → Int} {k : Int} (h35 : 0 ≤ a 35) (hk : 0 ≤ k ∧ k < 24) : sh (st2 a) 36 k = ua (sh a 36) (Int.tmod (a 35) 24) (smpF (a 35) (s_ramp a 0) (s_ramp a 1)) k := by
  have e1 : s_ramp a 35 = a 35 := ramp_o (by decide)
  have ht := tmod_r (a := a 35) (b := 24) h35 (by decide)
  unfold st2 sh
  rw [smp_o (by rw [smp_o (by omega) (by omega), e1]; exact h35) (by omega)]
  unfold s_smp; rw [e1, show (0 : Int) + 1 = 1 from rfl]
  unfold ua
  by_cases q : k = Int.tmod (a 35) 24
  · rw [if_pos (by omega), if_pos q]
  · rw [if_neg (by omega), if_neg q, ramp_o (by omega)]
theorem st2_U {a : Int → Int} {k : Int} (h35 : 0 ≤ a 35) (hk : 0 ≤ k ∧ k < 24) : sh (st2 a) 60 k = ua (sh a 60) (Int.tmod (a 35) 24) (smpF (a 35) (s_ramp a 2) (s_ramp a 3)) k := by
  have e1 : s_ramp a 35 = a 35 := ramp_o (by decide)
  have ht := tmod_r (a := a 35) (b := 24) h35 (by decide)
  have e2 : ∀ j, ¬ (36 ≤ j ∧ j < 60) → s_smp 36 0 (s_ramp a) j = s_ramp a j := fun j hj => smp_o (by omega) (by omega)
  unfold st2 sh
  rw [s_smp, e2 35 (by decide), e1, show (2 : Int) + 1 = 3 from rfl, e2 2 (by decide), e2 3 (by decide)]
  unfold ua
  by_cases q : k = Int.tmod (a 35) 24
  · rw [if_pos (by omega), if_pos q]
  · rw [if_neg (by omega), if_neg q, e2 _ (by omega), ramp_o (by omega)]
theorem eA_c {w v : Int → Int} (h : ∀ k : Int, 0 ≤ k → k < 24 → w k = v k) : eA w = eA v := by unfold eA; rw [wsum_c 24 h]
theorem eB_c {w v : Int → Int} (h : ∀ k : Int, 0 ≤ k → k < 24 → w k = v k) : eB w = eB v := by unfold eB; rw [wsum_c 24 h]
theorem st3_o {a : Int → Int} {j : Int} (h : ¬ (84 ≤ j ∧ j ≤ 87)) : st3 a j = st2 a j := by
  unfold st3; rw [est_o (by omega), est_o (by omega)]
theorem st3_84 (a : Int → Int) : st3 a 84 = eA (sh (st2 a) 36) := by
  unfold st3; rw [est_o (by decide)]; unfold s_est; rw [ua_ne (by decide), ua_eq]
theorem st3_85 (a : Int → Int) : st3 a 85 = eB (sh (st2 a) 36) := by
  unfold st3; rw [est_o (by decide)]; unfold s_est; exact ua_eq' (by decide)
theorem st3_86 (a : Int → Int) : st3 a 86 = eA (sh (st2 a) 60) := by
  unfold st3; rw [s_est, ua_ne (by decide), ua_eq]; exact eA_c (fun k h0 h1 => by unfold sh; rw [est_o (by omega)])
theorem st3_87 (a : Int → Int) : st3 a 87 = eB (sh (st2 a) 60) := by
  unfold st3; rw [s_est, ua_eq' (by decide)]; exact eB_c (fun k h0 h1 => by unfold sh; rw [est_o (by omega)])
theorem ld_c {b c : Int → Int} (h : ∀ j : Int, (84 ≤ j ∧ j ≤ 87) ∨ j = 21 ∨ j = 24 ∨ j = 25 → c j = b j) : ptX c = ptX b ∧ ptY c = ptY b ∧ ptD c = ptD b ∧ hasP c = hasP b ∧ ldP c = ldP b := by
  have h4 := h 84 (by decide); have h5 := h 85 (by decide); have h6 := h 86 (by decide); have h7 := h 87 (by decide); have h1 := h 21 (by decide); have h2 := h 24 (by decide); have h3 := h 25 (by decide)
  have e1 : ptX c = ptX b := by unfold ptX; rw [h4, h5, h6, h7]
  have e2 : ptY c = ptY b := by unfold ptY; rw [h4, h5, h6, h7]
  have e3 : ptD c = ptD b := by unfold ptD; rw [h6, h7]
  have e4 : hasP c = hasP b := by unfold hasP; rw [e3, h1]
  exact ⟨e1, e2, e3, e4, by unfold ldP; rw [e1, e2, e3, e4, h2, h3]⟩
theorem rem_88 (b : Int → Int) : s_rem b 88 = mem (b 84) (b 85) (b 22) (b 84) (b 88) := by
  unfold s_rem mem; split
  · rw [ua_ne (by decide), ua_ne (by decide), ua_eq]
  · rw [ua_ne (by decide)]
theorem rem_89 (b : Int → Int) : s_rem b 89 = mem (b 84) (b 85) (b 22) (b 85) (b 89) := by
  unfold s_rem mem; split
  · rw [ua_ne (by decide), ua_eq]
  · rw [ua_ne (by decide)]
theorem rem_90 (b : Int → Int) : s_rem b 90 = mem (b 84) (b 85) (b 22) 0 (b 90 + 1) := by
  unfold s_rem mem; split
  · rw [ua_eq]
  · rw [ua_eq]
theorem b01_r (b : Bool) : b01 b = 0 ∨ b01 b = 1 := by cases b; exact Or.inl rfl; exact Or.inr rfl
theorem b01_1 {b : Bool} : b01 b = 1 ↔ b = true := by cases b <;> decide
theorem imp_91 (b : Int → Int) : s_imp b 91 = b01 (hasP b) := by unfold s_imp; rw [ua_ne (by decide), ua_ne (by decide), ua_ne (by decide), ua_eq]
theorem imp_92 (b : Int → Int) : s_imp b 92 = if hasP b = true then Int.tdiv (ptX b) (ptD b) else 0 := by unfold s_imp; rw [ua_ne (by decide), ua_ne (by decide), ua_eq]
theorem imp_93 (b : Int → Int) : s_imp b 93 = if hasP b = true then Int.tdiv (ptY b) (ptD b) else 0 := by unfold s_imp; rw [ua_ne (by decide), ua_eq]
theorem imp_96 (b : Int → Int) : s_imp b 96 = b01 (ldP b) := by unfold s_imp; rw [ua_eq]
theorem hld_c {X Y X' Y' : Int → Int} {n x y d : Int} (hn : 0 ≤ n ∧ n ≤ 8) (hX : ∀ k : Int, 0 ≤ k → k < 8 → X k = X' k) (hY : ∀ k : Int, 0 ≤ k → k < 8 → Y k = Y' k) : snd X Y n = snd X' Y' n ∧ hld X Y n x y d = hld X' Y' n x y d := by
  by_cases h0 : n = 0
  · subst h0; exact ⟨rfl, rfl⟩
  have hf : ∀ k : Int, 0 ≤ k → k < n → (0 ≤ af n k ∧ af n k < 8) ∧ (0 ≤ af n (af n k) ∧ af n (af n k) < 8) := fun k h1 h2 => by
    have a1 := af_r (n := n) (k := k) (by omega) h1
    have a2 := af_r (n := n) (k := af n k) (by omega) a1.1
    omega
  have e1 : allB (tlB X Y n) n.toNat = allB (tlB X' Y' n) n.toNat := allB_c fun k h1 h2 => by
    have g := hf k h1 (by omega)
    unfold tlB trn; rw [hX k h1 (by omega), hY k h1 (by omega), hX _ g.1.1 g.1.2, hY _ g.1.1 g.1.2, hX _ g.2.1 g.2.2, hY _ g.2.1 g.2.2]
  have e2 : allB (ylB X Y n x y d) n.toNat = allB (ylB X' Y' n x y d) n.toNat := allB_c fun k h1 h2 => by
    have g := hf k h1 (by omega)
    unfold ylB edg; rw [hX k h1 (by omega), hY k h1 (by omega), hX _ g.1.1 g.1.2, hY _ g.1.1 g.1.2]
  have e3 : ∀ k : Int, 0 ≤ k → k < n → ysg Y n k = ysg Y' n k := fun k h1 h2 => by
    have g := hf k h1 (by omega)
    unfold ysg; rw [hY k h1 (by omega), hY _ g.1.1 g.1.2]
  have e4 : ∀ (b : Int) (j : Nat), (j : Int) ≤ n → lsg (ysg Y n) b j = lsg (ysg Y' n) b j := fun b j => by
    induction j with
    | zero => exact fun _ => rfl
    | succ j ih => exact fun hj => by unfold lsg; rw [e3 j (by omega) (by omega), ih (by omega)]
  have e5 : ∀ (b : Int) (j : Nat), (j : Int) ≤ n → tcn (ysg Y n) b j = tcn (ysg Y' n) b j := fun b j => by
    induction j with
    | zero => exact fun _ => rfl
    | succ j ih => exact fun hj => by unfold tcn; rw [e3 j (by omega) (by omega), ih (by omega), e4 b j (by omega)]
  have e6 : yturns Y n = yturns Y' n := by unfold yturns; rw [e4 0 n.toNat (by omega), e5 _ n.toNat (by omega)]
  have e7 : snd X Y n = snd X' Y' n := by unfold snd; rw [e1, e6]
  exact ⟨e7, by unfold hld; rw [e7, e2]⟩
/-- polygons that no step writes -/
theorem hldA_c {a c : Int → Int} {p x y d : Int} (hp : 0 ≤ p ∧ p < 5) (hn : 0 ≤ a (225 + 17 * p) ∧ a (225 + 17 * p) ≤ 8) (h : ∀ j : Int, 225 ≤ j → j < 310 → c j = a j) : sndA c p = sndA a p ∧ hldA c p x y d = hldA a p x y d := by
  have e := hld_c (X := sh2 c (226 + 17 * p)) (Y := sh2 c (227 + 17 * p)) (X' := sh2 a (226 + 17 * p)) (Y' := sh2 a (227 + 17 * p)) (n := c (225 + 17 * p)) (x := x) (y := y) (d := d) (by rw [h _ (by omega) (by omega)]; exact hn)
    (fun k h0 h1 => by unfold sh2; exact h _ (by omega) (by omega)) (fun k h0 h1 => by unfold sh2; exact h _ (by omega) (by omega))
  unfold sndA hldA
  rw [e.1, e.2, h (225 + 17 * p) (by omega) (by omega)]
  exact ⟨rfl, rfl⟩
theorem swg_94 {c : Int → Int} (h0 : 0 ≤ c 104) : s_swg c 94 = if c 91 = 1 ∧ insA c 4 = true then (if c 91 = 1 ∧ insA c 3 = true then c 94 else c 94 + 1) else 0 := by
  unfold s_swg; by_cases o : c 91 = 1 ∧ insA c 4 = true
  · rw [if_pos o, if_pos o]; by_cases i : insA c 3 = true
    · rw [if_pos i, if_pos (show c 91 = 1 ∧ insA c 3 = true from ⟨o.1, i⟩)]; split
      · rw [note_o (by rw [ua_ne (by decide)]; exact h0) (by decide), ua_ne (by decide)]
      · rfl
    · rw [if_neg i, if_neg (fun q => i q.2), ua_eq]
  · rw [if_neg o, if_neg o]; unfold s_end; split
    · rw [note_o (by rw [ua_ne (by decide), ua_ne (by decide)]; exact h0) (by decide), ua_ne (by decide), ua_eq]
    · rw [ua_eq]
theorem swg_95 {c : Int → Int} (h0 : 0 ≤ c 104) (h95 : c 95 = 0 ∨ c 95 = 1) : s_swg c 95 = if c 91 = 1 ∧ insA c 4 = true then (if (c 91 = 1 ∧ insA c 4 = true) ∧ (c 91 = 1 ∧ insA c 3 = true) ∧ c 95 = 0 ∧ c 27 ≤ c 94 then 1 else c 95) else 0 := by
  unfold s_swg; by_cases o : c 91 = 1 ∧ insA c 4 = true
  · rw [if_pos o, if_pos o]; by_cases i : insA c 3 = true
    · rw [if_pos i]; by_cases t : c 95 = 0 ∧ c 27 ≤ c 94
      · rw [if_pos t, if_pos ⟨o, ⟨o.1, i⟩, t⟩, note_o (by rw [ua_ne (by decide)]; exact h0) (by decide), ua_eq]
      · rw [if_neg t, if_neg (fun q => t q.2.2)]
    · rw [if_neg i, if_neg (fun q => i q.2.1.2), ua_ne (by decide)]
  · rw [if_neg o, if_neg o]; unfold s_end; split
    · rw [note_o (by rw [ua_ne (by decide), ua_ne (by decide)]; exact h0) (by decide), ua_eq]
    · rename_i h; rw [ua_ne (by decide)]; omega
/-- the log behind the swing's step -/
def swC (c : Int → Int) : Prop := ((c 91 = 1 ∧ insA c 4 = true) ∧ (c 91 = 1 ∧ insA c 3 = true) ∧ c 95 = 0 ∧ c 27 ≤ c 94) ∨ (¬ (c 91 = 1 ∧ insA c 4 = true) ∧ c 95 = 1)
theorem swg_log {c : Int → Int} (h0 : 0 ≤ c 104) {P : Prop} [Decidable P] (hP : P ↔ swC c) {Q : Prop} [Decidable Q] (hQ : Q ↔ (¬ (c 91 = 1 ∧ insA c 4 = true) ∧ c 95 = 1)) :
    s_swg c 104 = ntN P (c 104) ∧ (∀ k : Int, 0 ≤ k → k < 60 → sh2 (s_swg c) 105 k = ntA P (sh2 c 105) (c 104) (c 35) k) ∧ (∀ k : Int, 0 ≤ k → k < 60 → sh2 (s_swg c) 106 k = ntA P (sh2 c 106) (c 104) (if Q then 41 else 40) k) := by
  have up : ∀ {i v : Int} {o k : Int}, 0 ≤ k → k < 60 → o = 105 ∨ o = 106 → i = 94 ∨ i = 95 → ∀ {w : Int → Int}, sh2 (ua w i v) o k = sh2 w o k := fun {i v o k} h1 h2 ho hi {w} => by unfold sh2; rw [ua_ne (by omega)]
  unfold s_swg; by_cases o : c 91 = 1 ∧ insA c 4 = true
  · rw [if_pos o]; by_cases i : insA c 3 = true
    · rw [if_pos i]; by_cases t : c 95 = 0 ∧ c 27 ≤ c 94
      · have hp : P := hP.mpr (Or.inl ⟨o, ⟨o.1, i⟩, t⟩)
        have hq : ¬ Q := fun q => (hQ.mp q).1 o
        rw [if_pos t, ntN_t hp, ntA_t hp, ntA_t hp, if_neg hq]
        refine ⟨by rw [note_n, ua_ne (by decide)], fun k h1 h2 => ?_, fun k h1 h2 => ?_⟩
        · rw [note_T (by rw [ua_ne (by decide)]; exact h0) ⟨h1, h2⟩, ua_ne (show ¬ (104 : Int) = 95 by decide), ua_ne (show ¬ (35 : Int) = 95 by decide)]
          unfold ua; split
          · rfl
          · exact up h1 h2 (Or.inl rfl) (Or.inr rfl)
        · rw [note_K (by rw [ua_ne (by decide)]; exact h0) ⟨h1, h2⟩, ua_ne (show ¬ (104 : Int) = 95 by decide)]
          unfold ua; split
          · rfl
          · exact up h1 h2 (Or.inr rfl) (Or.inr rfl)
      · have hp : ¬ P := fun q => (hP.mp q).elim (fun z => t z.2.2) (fun z => z.1 o)
        rw [if_neg t, ntN_f hp, ntA_f hp, ntA_f hp]; exact ⟨rfl, fun _ _ _ => rfl, fun _ _ _ => rfl⟩
    · have hp : ¬ P := fun q => (hP.mp q).elim (fun z => i z.2.1.2) (fun z => z.1 o)
      rw [if_neg i, ntN_f hp, ntA_f hp, ntA_f hp]
      exact ⟨ua_ne (by decide), fun k h1 h2 => up h1 h2 (Or.inl rfl) (Or.inl rfl), fun k h1 h2 => up h1 h2 (Or.inr rfl) (Or.inl rfl)⟩
  · rw [if_neg o]; unfold s_end; by_cases t : c 95 = 1
    · have hp : P := hP.mpr (Or.inr ⟨o, t⟩)
      have hq : Q := hQ.mpr ⟨o, t⟩
      rw [if_pos t, ntN_t hp, ntA_t hp, ntA_t hp, if_pos hq]
      refine ⟨by rw [note_n, ua_ne (by decide), ua_ne (by decide)], fun k h1 h2 => ?_, fun k h1 h2 => ?_⟩
      · rw [note_T (by rw [ua_ne (by decide), ua_ne (by decide)]; exact h0) ⟨h1, h2⟩, ua_ne (show ¬ (104 : Int) = 95 by decide), ua_ne (show ¬ (104 : Int) = 94 by decide), ua_ne (show ¬ (35 : Int) = 95 by decide), ua_ne (show ¬ (35 : Int) = 94 by decide)]
        rw [ua, ua]; split
        · rfl
        · rw [up h1 h2 (Or.inl rfl) (Or.inr rfl), up h1 h2 (Or.inl rfl) (Or.inl rfl)]
      · rw [note_K (by rw [ua_ne (by decide), ua_ne (by decide)]; exact h0) ⟨h1, h2⟩, ua_ne (show ¬ (104 : Int) = 95 by decide), ua_ne (show ¬ (104 : Int) = 94 by decide)]
        rw [ua, ua]; split
        · rfl
        · rw [up h1 h2 (Or.inr rfl) (Or.inr rfl), up h1 h2 (Or.inr rfl) (Or.inl rfl)]
    · have hp : ¬ P := fun q => (hP.mp q).elim (fun z => o z.1) (fun z => t z.2)
      rw [if_neg t, ntN_f hp, ntA_f hp, ntA_f hp]
      exact ⟨ua_ne (by decide), fun k h1 h2 => up h1 h2 (Or.inl rfl) (Or.inl rfl), fun k h1 h2 => up h1 h2 (Or.inr rfl) (Or.inl rfl)⟩
