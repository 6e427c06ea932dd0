/-! the reference's zones: timers first, then what is picked up, then the trip -/
theorem pkR_A (a : Int → Int) (z : Int) : pkR a z (ptX a) (ptY a) (ptD a) = pkA a z := rfl
def tvA (b : Int → Int) (z : Int) : Int := if pkA b z = 1 then b (98 + z) + 1 else 0
theorem tvA_1 {b : Int → Int} {z : Int} (h : pkA b z = 1) : tvA b z = b (98 + z) + 1 := if_pos h
theorem tvA_0 {b : Int → Int} {z : Int} (h : ¬ pkA b z = 1) : tvA b z = 0 := if_neg h
theorem tvA_5 (b : Int → Int) (z : Int) : tvA b z = 0 ∧ pkA b z = 0 ∨ tvA b z = b (98 + z) + 1 ∧ pkA b z = 1 := by
  rcases (show pkA b z = 0 ∨ pkA b z = 1 from pkv_r _ _ _ _ _ _ _ _ _) with q | q
  · exact Or.inl ⟨tvA_0 (by omega), q⟩
  · exact Or.inr ⟨tvA_1 q, q⟩
def tRz (b : Int → Int) (z : Int) : Int → Int := fun j => if 98 + z < j ∧ j ≤ 100 then tvA b (j - 98) else b j
theorem tRz_o {b : Int → Int} {z j : Int} (h : ¬ (98 + z < j ∧ j ≤ 100)) : tRz b z j = b j := if_neg h
theorem tRz_v {b : Int → Int} {z i : Int} (h : z < i ∧ i ≤ 2) : tRz b z (98 + i) = tvA b i := by unfold tRz; rw [if_pos (by omega)]; congr 1; omega
theorem tRz_s {b : Int → Int} {z j : Int} (h : 0 ≤ z ∧ z ≤ 2) : tRz b (z - 1) j = ua (tRz b z) (98 + z) (tvA b z) j := by
  unfold ua
  by_cases e : j = 98 + z
  · rw [if_pos e, e]; exact tRz_v ⟨by omega, by omega⟩
  · rw [if_neg e]; unfold tRz
    by_cases q : 98 + z < j ∧ j ≤ 100
    · rw [if_pos (by omega), if_pos q]
    · rw [if_neg (by omega), if_neg q]
def rR (b : Int → Int) : Nat → Int
  | 0 => -6
  | n + 1 => if b (29 + (2 - (n : Int))) ≤ tvA b (2 - (n : Int)) then 2 - (n : Int) else rR b n
theorem rR_s {b : Int → Int} {z : Int} (h : 0 ≤ z ∧ z ≤ 2) : rR b (Int.toNat (2 - (z - 1))) = if b (29 + z) ≤ tvA b z then z else rR b (Int.toNat (2 - z)) := by
  rw [show Int.toNat (2 - (z - 1)) = Int.toNat (2 - z) + 1 by omega]
  show (if b (29 + (2 - ((Int.toNat (2 - z) : Nat) : Int))) ≤ tvA b (2 - ((Int.toNat (2 - z) : Nat) : Int)) then 2 - ((Int.toNat (2 - z) : Nat) : Int) else rR b (Int.toNat (2 - z))) = _
  rw [show (2 - ((Int.toNat (2 - z) : Nat) : Int)) = z by omega]
theorem rR_r {b : Int → Int} : ∀ n : Nat, n ≤ 3 → rR b n = -6 ∨ (0 ≤ rR b n ∧ rR b n ≤ 2)
  | 0, _ => Or.inl rfl
  | n + 1, h => by
    have r := rR_r (b := b) n (by omega)
    unfold rR; split <;> omega
def pkS (T b : Int → Int) : Nat → Int → Int
  | 0 => T
  | n + 1 => s_pk n (pkA b n) (pkS T b n)
theorem pkS_s {T b : Int → Int} {i : Int} (h : 0 ≤ i) : pkS T b (Int.toNat (i + 1)) = s_pk i (pkA b i) (pkS T b (Int.toNat i)) := by
  rw [show Int.toNat (i + 1) = Int.toNat i + 1 by omega]
  show s_pk ((Int.toNat i : Nat) : Int) (pkA b ((Int.toNat i : Nat) : Int)) (pkS T b (Int.toNat i)) = _
  rw [show ((Int.toNat i : Nat) : Int) = i by omega]
theorem pkS_o {T b : Int → Int} (h0 : 0 ≤ T 104) : ∀ n : Nat, n ≤ 3 → (0 ≤ pkS T b n 104 ∧ pkS T b n 104 ≤ T 104 + n) ∧ ∀ j : Int, ¬ (101 ≤ j ∧ j < 101 + n ∨ 104 ≤ j ∧ j < 225) → pkS T b n j = T j
  | 0, _ => ⟨⟨h0, by show T 104 ≤ T 104 + ((0 : Nat) : Int); omega⟩, fun j _ => rfl⟩
  | n + 1, h => by
    have r := pkS_o (T := T) (b := b) h0 n (by omega)
    refine ⟨?_, fun j hj => ?_⟩
    · show 0 ≤ s_pk n (pkA b n) (pkS T b n) 104 ∧ s_pk n (pkA b n) (pkS T b n) 104 ≤ _
      rw [pk_n (by omega)]
      have q := ntN_r (c := ¬ pkA b n = pkS T b n (101 + n)) (pkS T b n 104)
      omega
    · show s_pk n (pkA b n) (pkS T b n) j = _
      rw [pk_o r.1.1 (by omega) (by omega)]
      exact r.2 j (by omega)
theorem ua_id {a : Int → Int} {i v : Int} (h : v = a i) : ua a i v = a := funext fun k => by
  unfold ua; split
  · rename_i e; rw [h, e]
  · rfl
theorem ua_sw {a : Int → Int} {i j v w : Int} (h : ¬ i = j) : ua (ua a i v) j w = ua (ua a j w) i v := funext fun k => by
  unfold ua; (repeat' split) <;> first | rfl | omega
theorem note_ua {a : Int → Int} {z j v : Int} (h0 : 0 ≤ a 104) (hj : ¬ (104 ≤ j ∧ j < 225) ∧ ¬ j = 35) : s_note z (ua a j v) = ua (s_note z a) j v := by
  have := tmod_r (a := a 104) (b := 60) h0 (by decide)
  unfold s_note
  rw [ua_ne (show ¬ (104 : Int) = j by omega), ua_ne (show ¬ (35 : Int) = j by omega), ua_sw (a := a) (show ¬ j = 105 + 2 * Int.tmod (a 104) 60 by omega), ua_sw (show ¬ j = 105 + 2 * Int.tmod (a 104) 60 + 1 by omega), ua_sw (show ¬ j = 104 by omega)]
theorem pk_ua {a : Int → Int} {z v j t : Int} (h0 : 0 ≤ a 104) (hz : 0 ≤ z ∧ z ≤ 2) (hj : 98 ≤ j ∧ j ≤ 100) : s_pk z v (ua a j t) = ua (s_pk z v a) j t := by
  unfold s_pk
  rw [ua_ne (show ¬ 101 + z = j by omega)]
  split
  · rfl
  · rw [ua_sw (show ¬ j = 101 + z by omega), note_ua (by rw [ua_ne (by omega)]; exact h0) (by omega)]
theorem pk_ua3 {a : Int → Int} {z v t0 t1 t2 : Int} (h0 : 0 ≤ a 104) (hz : 0 ≤ z ∧ z ≤ 2) : s_pk z v (ua (ua (ua a 98 t0) 99 t1) 100 t2) = ua (ua (ua (s_pk z v a) 98 t0) 99 t1) 100 t2 := by
  have g1 : 0 ≤ ua a 98 t0 104 := by rw [ua_ne (by decide)]; exact h0
  have g2 : 0 ≤ ua (ua a 98 t0) 99 t1 104 := by rw [ua_ne (by decide)]; exact g1
  rw [pk_ua g2 hz (by decide), pk_ua g1 hz (by decide), pk_ua h0 hz (by decide)]
theorem zn_t {b : Int → Int} (h0 : 0 ≤ b 104) : s_tm (s_pks b) = pkS (tRz b (-1)) b 3 := by
  have eT : tRz b (-1) = ua (ua (ua b 98 (tvA b 0)) 99 (tvA b 1)) 100 (tvA b 2) := funext fun j => by
    unfold ua
    by_cases e2 : j = 100
    · rw [if_pos e2, e2]; exact tRz_v (z := -1) (i := 2) (by decide)
    · rw [if_neg e2]
      by_cases e1 : j = 99
      · rw [if_pos e1, e1]; exact tRz_v (z := -1) (i := 1) (by decide)
      · rw [if_neg e1]
        by_cases e0 : j = 98
        · rw [if_pos e0, e0]; exact tRz_v (z := -1) (i := 0) (by decide)
        · rw [if_neg e0]; exact tRz_o (by omega)
  have p3 := pks_3 h0
  have o : ∀ j : Int, 98 ≤ j → j ≤ 100 → s_pks b j = b j := fun j h1 h2 => pks_o h0 (by omega)
  have g0 : 0 ≤ s_pk 0 (pkA b 0) b 104 := by rw [pk_n (by decide)]; exact Int.le_trans h0 (ntN_r _).1
  have g1 : 0 ≤ s_pk 1 (pkA b 1) (s_pk 0 (pkA b 0) b) 104 := by rw [pk_n (by decide)]; exact Int.le_trans g0 (ntN_r _).1
  have w3 : ∀ t0 t1 t2 : Int, pkS (ua (ua (ua b 98 t0) 99 t1) 100 t2) b 3 = ua (ua (ua (s_pks b) 98 t0) 99 t1) 100 t2 := fun t0 t1 t2 => by
    show s_pk 2 (pkA b 2) (s_pk 1 (pkA b 1) (s_pk 0 (pkA b 0) (ua (ua (ua b 98 t0) 99 t1) 100 t2))) = _
    rw [pk_ua3 h0 (by decide), pk_ua3 g0 (by decide), pk_ua3 g1 (by decide)]
    rfl
  rw [eT, w3]
  unfold s_tm
  have e0 : tmv (s_pks b) 0 = tvA b 0 := by
    show (if s_pks b 101 = 1 then s_pks b 98 + 1 else 0) = (if pkA b 0 = 1 then b 98 + 1 else 0)
    rw [p3.1, o 98 (by decide) (by decide)]
  have e1 : tmv (s_pks b) 1 = tvA b 1 := by
    show (if s_pks b 102 = 1 then s_pks b 99 + 1 else 0) = (if pkA b 1 = 1 then b 99 + 1 else 0)
    rw [p3.2.1, o 99 (by decide) (by decide)]
  have e2 : tmv (s_pks b) 2 = tvA b 2 := by
    show (if s_pks b 103 = 1 then s_pks b 100 + 1 else 0) = (if pkA b 2 = 1 then b 100 + 1 else 0)
    rw [p3.2.2.1, o 100 (by decide) (by decide)]
  rw [e0, e1, e2]
theorem zn_r {b : Int → Int} (h0 : 0 ≤ b 104) (h97 : b 97 = -6) : ripA (pkS (tRz b (-1)) b 3) = rR b 3 := by
  have r := (pkS_o (T := tRz b (-1)) (b := b) (by rw [tRz_o (by decide)]; exact h0) 3 (by decide)).2
  unfold ripA
  rw [r 97 (by decide), r 29 (by decide), r 98 (by decide), r 30 (by decide), r 99 (by decide), r 31 (by decide), r 100 (by decide), tRz_o (j := 97) (by decide), tRz_o (j := 29) (by decide), tRz_o (j := 30) (by decide), tRz_o (j := 31) (by decide), h97,
    show tRz b (-1) 98 = tvA b 0 from tRz_v (i := 0) (by decide), show tRz b (-1) 99 = tvA b 1 from tRz_v (i := 1) (by decide), show tRz b (-1) 100 = tvA b 2 from tRz_v (i := 2) (by decide)]
  rfl
/-- what the sample's last step may rely on -/
def MH (a : Int → Int) : Prop :=
  (∀ p : Int, 0 ≤ p → p < 5 → 0 ≤ a (225 + 17 * p) ∧ a (225 + 17 * p) ≤ 8) ∧ (∀ p k : Int, 0 ≤ p → p < 5 → 0 ≤ k → k < 8 → cb (sh2 a (226 + 17 * p) k) ∧ cb (sh2 a (227 + 17 * p) k)) ∧
  (∀ j : Int, 84 ≤ j → j ≤ 89 → -51000 ≤ a j ∧ a j ≤ 51000) ∧ (0 ≤ a 17 ∧ a 17 ≤ 20000) ∧ (0 ≤ a 18 ∧ a 18 ≤ 20000) ∧ (0 ≤ a 90 ∧ a 90 < 2000000000) ∧ (0 ≤ a 23 ∧ a 23 ≤ 1000) ∧
  (∀ z : Int, 0 ≤ z → z ≤ 2 → 0 ≤ a (32 + z) ∧ a (32 + z) ≤ 2) ∧ (a 95 = 0 ∨ a 95 = 1) ∧ (a 96 = 0 ∨ a 96 = 1) ∧ (a 91 = 0 ∨ a 91 = 1) ∧ (0 ≤ a 28 ∧ a 28 ≤ 7) ∧ (0 ≤ a 26 ∧ a 26 ≤ 7)
theorem MH_c {a c : Int → Int} (h : ∀ j : Int, ¬ (98 ≤ j ∧ j ≤ 100) → c j = a j) (hM : MH a) : MH c := by
  obtain ⟨hpn, hpc, he, h17, h18, h90, h23, hw, h95, h96, h91, h28, h26⟩ := hM
  refine ⟨fun p h0 h1 => ?_, fun p k h0 h1 h2 h3 => ?_, fun j h0 h1 => ?_, ?_, ?_, ?_, ?_, fun z h0 h1 => ?_, ?_, ?_, ?_, ?_, ?_⟩
  · rw [h _ (by omega)]; exact hpn p h0 h1
  · unfold sh2; rw [h _ (by omega), h _ (by omega)]; exact hpc p k h0 h1 h2 h3
  · rw [h _ (by omega)]; exact he j h0 h1
  · rw [h _ (by omega)]; exact h17
  · rw [h _ (by omega)]; exact h18
  · rw [h _ (by omega)]; exact h90
  · rw [h _ (by omega)]; exact h23
  · rw [h _ (by omega)]; exact hw z h0 h1
  · rw [h _ (by omega)]; exact h95
  · rw [h _ (by omega)]; exact h96
  · rw [h _ (by omega)]; exact h91
  · rw [h _ (by omega)]; exact h28
  · rw [h _ (by omega)]; exact h26
theorem pkR_c {a c : Int → Int} {z x y d : Int} (hz : 0 ≤ z ∧ z ≤ 2) (hn : 0 ≤ a (225 + 17 * z) ∧ a (225 + 17 * z) ≤ 8) (h : ∀ j : Int, ¬ (98 ≤ j ∧ j ≤ 100) → c j = a j) : pkR c z x y d = pkR a z x y d := by
  have e := (hldA_c (a := a) (c := c) (p := z) (x := x) (y := y) (d := d) (by omega) hn (fun j h1 h2 => h j (by omega))).2
  unfold pkR trqA
  rw [e, h (32 + z) (by omega), h 90 (by decide), h 23 (by decide), h 88 (by decide), h 84 (by decide), h 89 (by decide), h 85 (by decide), h 86 (by decide), h 87 (by decide), h 17 (by decide), h 18 (by decide), h 95 (by decide), h 96 (by decide), h 28 (by decide), h 26 (by decide), h 91 (by decide)]
