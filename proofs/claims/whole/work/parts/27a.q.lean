/-! what the calls answer, and what they make of the row -/
abbrev okPt (va vb ia ib : Int) : Prop := cb va ∧ cb vb ∧ cb ia ∧ cb ib
def q_corner (a : Int → Int) (p x y : Int) : Int := if 0 ≤ p ∧ p ≤ 4 then (if cb x ∧ cb y then (if a (225 + 17 * p) = 8 then -4 else a (225 + 17 * p) + 1) else -2) else -1
def n_corner (a : Int → Int) (p x y : Int) : Int → Int := if (0 ≤ p ∧ p ≤ 4) ∧ (cb x ∧ cb y) ∧ ¬ a (225 + 17 * p) = 8 then s_app a p x y else a
def q_clear (a : Int → Int) (p : Int) : Int := if 0 ≤ p ∧ p ≤ 4 then a (225 + 17 * p) else -1
def n_clear (a : Int → Int) (p : Int) : Int → Int := if 0 ≤ p ∧ p ≤ 4 then ua a (225 + 17 * p) 0 else a
def q_at (a : Int → Int) (p i w : Int) : Int := if (0 ≤ p ∧ p ≤ 4) ∧ (0 ≤ i ∧ i ≤ a (225 + 17 * p) - 1) then (if 0 ≤ w ∧ w ≤ 1 then a (226 + 17 * p + 2 * i + w) + 100000 else -2) else -1
def q_sound (a : Int → Int) (p : Int) : Int := if 0 ≤ p ∧ p ≤ 4 then sndA a p else -1
def q_contains (a : Int → Int) (p x y : Int) : Int := if 0 ≤ p ∧ p ≤ 4 then (if (-100000 ≤ x ∧ x ≤ 100000) ∧ (-100000 ≤ y ∧ y ≤ 100000) then b01 (hldA a p x y 1) else -2) else -1
abbrev okS (s v : Int) : Prop := (0 ≤ s ∧ s ≤ 7) ∧ (lowT s ≤ v ∧ v ≤ higT s)
def q_set (a : Int → Int) (s v : Int) : Int := if okS s v then a (21 + s) else -2
def n_set (a : Int → Int) (s v : Int) : Int → Int := if okS s v then ua a (21 + s) v else a
def q_zone (a : Int → Int) (z d w : Int) : Int := if 0 ≤ z ∧ z ≤ 2 then (if (1 ≤ d ∧ d ≤ 2400) ∧ (0 ≤ w ∧ w ≤ 2) then a (29 + z) else -2) else -1
def n_zone (a : Int → Int) (z d w : Int) : Int → Int := if (0 ≤ z ∧ z ≤ 2) ∧ (1 ≤ d ∧ d ≤ 2400) ∧ (0 ≤ w ∧ w ≤ 2) then ua (ua a (29 + z) d) (32 + z) w else a
def s_jmp (a : Int → Int) (va vb ia ib : Int) : Int → Int := ua (ua (ua (ua (ua a 0 va) 1 vb) 2 ia) 3 ib) 4 0
def q_apply (a : Int → Int) (va vb ia ib : Int) : Int := if okPt va vb ia ib then a 35 else -2
def n_apply (a : Int → Int) (va vb ia ib : Int) : Int → Int := if okPt va vb ia ib then s_jmp a va vb ia ib else a
def s_bgn (a : Int → Int) (m va vb ia ib : Int) : Int → Int := ua (ua (ua (ua (ua (ua (ua (ua (ua (ua a 6 (a 0)) 7 (a 1)) 8 (a 2)) 9 (a 3)) 10 va) 11 vb) 12 ia) 13 ib) 4 m) 5 m
def q_ramp (a : Int → Int) (m va vb ia ib : Int) : Int := if (1 ≤ m ∧ m ≤ 2400) ∧ okPt va vb ia ib then a 35 else -2
def n_ramp (a : Int → Int) (m va vb ia ib : Int) : Int → Int := if (1 ≤ m ∧ m ≤ 2400) ∧ okPt va vb ia ib then s_bgn a m va vb ia ib else a
abbrev okN (p r x : Int) : Prop := (p = 0 ∧ (1 ≤ r ∧ r ≤ 20000) ∧ x = 0) ∨ ((1 ≤ p ∧ p ≤ 3) ∧ (0 ≤ r ∧ r ≤ 20000) ∧ (0 ≤ x ∧ x ≤ 20000))
def q_net (a : Int → Int) (p r x : Int) : Int := if okN p r x then (if p = 0 then a 14 else a (13 + 2 * p)) else -2
def n_net (a : Int → Int) (p r x : Int) : Int → Int := if okN p r x then (if p = 0 then ua a 14 r else ua (ua a (13 + 2 * p) r) (14 + 2 * p) x) else a
abbrev okF (p q : Int) : Prop := (0 ≤ p ∧ p ≤ 1000) ∧ (0 ≤ q ∧ q ≤ 20000)
/-- the impedance seen at a fault, and the phasors of an impedance seen -/
def fzR (a : Int → Int) (p q : Int) : Int := Int.tdiv (a 17 * p) 1000 + q
def fzX (a : Int → Int) (p : Int) : Int := Int.tdiv (a 18 * p) 1000
def sD (a : Int → Int) (sr sx : Int) : Int := slD (a 15) (a 16) sr sx
def sVa (a : Int → Int) (sr sx : Int) : Int := lim (slVa (a 14) (a 15) (a 16) sr sx)
def sVb (a : Int → Int) (sr sx : Int) : Int := lim (slVb (a 14) (a 15) (a 16) sr sx)
def sIa (a : Int → Int) (sr sx : Int) : Int := lim (slIa (a 14) (a 15) (a 16) sr sx)
def sIb (a : Int → Int) (sr sx : Int) : Int := lim (slIb (a 14) (a 15) (a 16) sr sx)
def s_sol (a : Int → Int) (sr sx : Int) : Int → Int := s_jmp a (sVa a sr sx) (sVb a sr sx) (sIa a sr sx) (sIb a sr sx)
def q_fault (a : Int → Int) (p q : Int) : Int := if okF p q then (if sD a (fzR a p q) (fzX a p) = 0 then -5 else a 35) else -2
def n_fault (a : Int → Int) (p q : Int) : Int → Int := if okF p q ∧ ¬ sD a (fzR a p q) (fzX a p) = 0 then s_sol a (fzR a p q) (fzX a p) else a
def q_heal (a : Int → Int) : Int := if sD a (a 17 + a 19) (a 18 + a 20) = 0 then -5 else a 35
def n_heal (a : Int → Int) : Int → Int := if sD a (a 17 + a 19) (a 18 + a 20) = 0 then a else s_sol a (a 17 + a 19) (a 18 + a 20)
def q_phasor (a : Int → Int) (w : Int) : Int := if 0 ≤ w ∧ w ≤ 4 then a w else -1000000000000000002
def q_pass (a : Int → Int) (m : Int) : Int := if 1 ≤ m ∧ m ≤ 5000 then itr m.toNat a 35 else -2
def n_pass (a : Int → Int) (m : Int) : Int → Int := if 1 ≤ m ∧ m ≤ 5000 then itr m.toNat a else a
def q_measure (a : Int → Int) (w : Int) : Int := if 0 ≤ w ∧ w ≤ 12 then (if (8 ≤ w ∧ w ≤ 9) ∧ a 91 = 0 then -1000000000000000006 else a (84 + w)) else -1000000000000000002
def q_state (a : Int → Int) (z w : Int) : Int := if 0 ≤ z ∧ z ≤ 2 then (if w = 0 then a (101 + z) else if w = 1 then a (98 + z) else if w = 2 then (if 0 < a (29 + z) - a (98 + z) then a (29 + z) - a (98 + z) else 0) else if w = 3 then a (29 + z) else if w = 4 then a (32 + z) else -2) else -1
def s_rst (a : Int → Int) : Int → Int := ua (ua (ua (ua a 97 (-6)) 98 0) 99 0) 100 0
def q_event (a : Int → Int) (e w : Int) : Int := if 0 ≤ w ∧ w ≤ 1 then (if (0 ≤ e ∧ e ≤ a 104 - 1) ∧ a 104 - 60 ≤ e then a (105 + 2 * Int.tmod e 60 + w) else -6) else -2
/-- the zones that hold the point of four numbers -/
def cvX (va vb ia ib : Int) : Int := 1000 * (va * ia + vb * ib)
def cvY (va vb ia ib : Int) : Int := 1000 * (vb * ia - va * ib)
def cvD (ia ib : Int) : Int := ia * ia + ib * ib
def cv0 (a : Int → Int) (x y d : Int) : Int := b01 (hldA a 0 x y d) + 2 * b01 (hldA a 1 x y d) + 4 * b01 (hldA a 2 x y d)
def cov (a : Int → Int) (va vb ia ib : Int) : Int := if a 21 * a 21 ≤ cvD ia ib then cv0 a (cvX va vb ia ib) (cvY va vb ia ib) (cvD ia ib) else 0
def covZ (a : Int → Int) (sr sx : Int) : Int := cov a (sVa a sr sx) (sVb a sr sx) (sIa a sr sx) (sIb a sr sx)
def q_covers (a : Int → Int) (p q : Int) : Int := if okF p q then (if sD a (fzR a p q) (fzX a p) = 0 then -5 else covZ a (fzR a p q) (fzX a p)) else -2
/-- whether a place is covered for a zone; the greatest place up to which all are -/
abbrev cvP (a : Int → Int) (q z p : Int) : Prop := ¬ sD a (fzR a p q) (fzX a p) = 0 ∧ bt (covZ a (fzR a p q) (fzX a p)) z = 1
def rch (a : Int → Int) (q z : Int) : Nat → Int → Int
  | 0, p => p
  | f + 1, p => if cvP a q z p then rch a q z f (p + 1) else p
def q_reach (a : Int → Int) (z q : Int) : Int := if 0 ≤ z ∧ z ≤ 2 then (if 0 ≤ q ∧ q ≤ 20000 then (if rch a q z 1001 0 = 0 then -6 else rch a q z 1001 0 - 1) else -2) else -1
/-- a test: the row before its last samples -/
def s_tst (a : Int → Int) (p q : Int) : Int → Int := s_jmp (itr 48 (s_jmp (s_rst a) (sVa a (a 17 + a 19) (a 18 + a 20)) (sVb a (a 17 + a 19) (a 18 + a 20)) (sIa a (a 17 + a 19) (a 18 + a 20)) (sIb a (a 17 + a 19) (a 18 + a 20)))) (sVa a (fzR a p q) (fzX a p)) (sVb a (fzR a p q) (fzX a p)) (sIa a (fzR a p q) (fzX a p)) (sIb a (fzR a p q) (fzX a p))
def q_test (a : Int → Int) (p q m w : Int) : Int := if okF p q ∧ (1 ≤ m ∧ m ≤ 2400) ∧ (0 ≤ w ∧ w ≤ 1) then (if ¬ sD a (a 17 + a 19) (a 18 + a 20) = 0 ∧ ¬ sD a (fzR a p q) (fzX a p) = 0 then (if w = 0 then utR m.toNat 0 (s_tst a p q) else utS m.toNat (s_tst a p q) 97) else -5) else -2
def q_fore (a : Int → Int) (m : Int) : Int := if 1 ≤ m ∧ m ≤ 5000 then utR m.toNat 0 a else -2
def q_say (n c : Int) : Int := if 33 ≤ c ∧ c ≤ 126 then (if n = 80 then -4 else n + 1) else -2
def q_count (a : Int → Int) (n w : Int) : Int := if 0 ≤ w ∧ w ≤ 17 then (if w = 0 then a 35 else if w = 1 then a 104 else if w = 2 then n else if w < 10 then a (14 + w - 3) else a (21 + w - 10)) else -2
def q_save (a : Int → Int) (s : Int) : Int := if 0 ≤ s ∧ s ≤ 1 then a 35 else -2
def q_rest (b f : Int → Int) (s : Int) : Int := if 0 ≤ s ∧ s ≤ 1 then (if f s = 0 then -5 else b (310 * s + 35)) else -2
theorem rch_s {a : Int → Int} {q z p : Int} {f : Nat} (h : cvP a q z p) : rch a q z (f + 1) p = rch a q z f (p + 1) := by rw [rch, if_pos h]
theorem rch_n {a : Int → Int} {q z p : Int} {f : Nat} (h : ¬ cvP a q z p) : rch a q z f p = p := by
  cases f with
  | zero => rfl
  | succ f => rw [rch, if_neg h]
theorem b01_b (b : Bool) : 0 ≤ b01 b ∧ b01 b ≤ 1 := by unfold b01; split <;> decide
theorem cov_r (a : Int → Int) (va vb ia ib : Int) : 0 ≤ cov a va vb ia ib ∧ cov a va vb ia ib ≤ 7 := by
  unfold cov cv0
  have h0 := b01_b (hldA a 0 (cvX va vb ia ib) (cvY va vb ia ib) (cvD ia ib))
  have h1 := b01_b (hldA a 1 (cvX va vb ia ib) (cvY va vb ia ib) (cvD ia ib))
  have h2 := b01_b (hldA a 2 (cvX va vb ia ib) (cvY va vb ia ib) (cvD ia ib))
  split <;> omega
theorem jmp_o {a : Int → Int} {va vb ia ib j : Int} (h : ¬ (0 ≤ j ∧ j ≤ 4)) : s_jmp a va vb ia ib j = a j := by
  unfold s_jmp; rw [ua_ne (by omega), ua_ne (by omega), ua_ne (by omega), ua_ne (by omega), ua_ne (by omega)]
theorem rst_o {a : Int → Int} {j : Int} (h : ¬ (97 ≤ j ∧ j ≤ 100)) : s_rst a j = a j := by
  unfold s_rst; rw [ua_ne (by omega), ua_ne (by omega), ua_ne (by omega), ua_ne (by omega)]
def n_sayT (t : Int → Int) (n c : Int) : Int → Int := if (33 ≤ c ∧ c ≤ 126) ∧ ¬ n = 80 then ua t n c else t
def n_sayN (n c : Int) : Int := if (33 ≤ c ∧ c ≤ 126) ∧ ¬ n = 80 then n + 1 else n
def n_saveS (a b : Int → Int) (s : Int) : Int → Int := if 0 ≤ s ∧ s ≤ 1 then cpyT a b 0 (310 * s) 310 else b
def n_saveF (f : Int → Int) (s : Int) : Int → Int := if 0 ≤ s ∧ s ≤ 1 then ua f s 1 else f
def n_rest (a b f : Int → Int) (s : Int) : Int → Int := if (0 ≤ s ∧ s ≤ 1) ∧ ¬ f s = 0 then cpyT b a (310 * s) 0 310 else a
theorem sq_0 (x : Int) : 0 ≤ x * x := by rcases Int.le_total 0 x with q | q; exact Int.mul_nonneg q q; exact Int.mul_nonneg_of_nonpos_of_nonpos q q
theorem bt_bi (s z : Int) : bi (bt s z) := by unfold bt; exact ⟨by omega, by omega⟩
theorem cpy_0 {a b : Int → Int} {s d j : Int} : cpyT a b s d 0 j = b j := by unfold cpyT; rw [if_neg (by omega)]
theorem cpy_s0 {a b : Int → Int} {d i j : Int} (h : 0 ≤ i) : cpyT a b 0 d (i + 1) j = ua (cpyT a b 0 d i) (d + i) (a i) j := by
  unfold cpyT ua
  by_cases e : j = d + i
  · rw [if_pos e, if_pos (by omega)]; congr 1; omega
  · rw [if_neg e]
    by_cases q : d ≤ j ∧ j < d + i
    · rw [if_pos (by omega)]; exact (if_pos q).symm
    · rw [if_neg (by omega)]; exact (if_neg q).symm
theorem cpy_sd {a b : Int → Int} {s i j : Int} (h : 0 ≤ i) : cpyT a b s 0 (i + 1) j = ua (cpyT a b s 0 i) i (a (s + i)) j := by
  unfold cpyT ua
  by_cases e : j = i
  · rw [if_pos e, if_pos (by omega)]; congr 1; omega
  · rw [if_neg e]
    by_cases q : 0 ≤ j ∧ j < 0 + i
    · rw [if_pos (by omega)]; exact (if_pos q).symm
    · rw [if_neg (by omega)]; exact (if_neg q).symm
theorem cpy_35 {a b : Int → Int} {s : Int} : a (s + 35) = cpyT a b s 0 310 35 := by unfold cpyT; rw [if_pos (by omega)]; rfl
