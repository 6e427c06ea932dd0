/-! THE RELAY AS ONE ROW OF NUMBERS: one sample -/
def rmp (a : Int → Int) (k : Int) : Int := a (6 + k) + Int.tdiv ((a (10 + k) - a (6 + k)) * (a 5 - a 4 + 1)) (a 5)
def s_ramp (a : Int → Int) : Int → Int := if 0 < a 4 then ua (ua (ua (ua (ua a 0 (rmp a 0)) 1 (rmp a 1)) 2 (rmp a 2)) 3 (rmp a 3)) 4 (a 4 - 1) else a
def s_smp (row p : Int) (a : Int → Int) : Int → Int := ua a (row + Int.tmod (a 35) 24) (smpF (a 35) (a p) (a (p + 1)))
def s_est (row p : Int) (a : Int → Int) : Int → Int := ua (ua a p (eA (sh a row))) (p + 1) (eB (sh a row))
def s_rem (a : Int → Int) : Int → Int := if a 22 * a 22 ≤ a 84 * a 84 + a 85 * a 85 then ua (ua (ua a 88 (a 84)) 89 (a 85)) 90 0 else ua a 90 (a 90 + 1)
def ptX (a : Int → Int) : Int := 1000 * (a 84 * a 86 + a 85 * a 87)
def ptY (a : Int → Int) : Int := 1000 * (a 85 * a 86 - a 84 * a 87)
def ptD (a : Int → Int) : Int := a 86 * a 86 + a 87 * a 87
def hasP (a : Int → Int) : Bool := decide (a 21 * a 21 ≤ ptD a)
def ldP (a : Int → Int) : Bool := hasP a && (decide (a 24 * ptD a ≤ absI (ptX a)) && decide (absI (ptY a) * 1000 ≤ a 25 * absI (ptX a)))
def b01 (b : Bool) : Int := if b = true then 1 else 0
def s_imp (a : Int → Int) : Int → Int := ua (ua (ua (ua a 91 (b01 (hasP a))) 92 (if hasP a = true then Int.tdiv (ptX a) (ptD a) else 0)) 93 (if hasP a = true then Int.tdiv (ptY a) (ptD a) else 0)) 96 (b01 (ldP a))
def s_note (z : Int) (a : Int → Int) : Int → Int := ua (ua (ua a (105 + 2 * Int.tmod (a 104) 60) (a 35)) (105 + 2 * Int.tmod (a 104) 60 + 1) z) 104 (a 104 + 1)
def s_end (a : Int → Int) : Int → Int := if a 95 = 1 then s_note 41 (ua (ua a 94 0) 95 0) else ua a 94 0
def hldA (a : Int → Int) (p x y d : Int) : Bool := hld (sh2 a (226 + 17 * p)) (sh2 a (227 + 17 * p)) (a (225 + 17 * p)) x y d
def sndA (a : Int → Int) (p : Int) : Int := snd (sh2 a (226 + 17 * p)) (sh2 a (227 + 17 * p)) (a (225 + 17 * p))
def insA (a : Int → Int) (p : Int) : Bool := hldA a p (ptX a) (ptY a) (ptD a)
def s_swg (a : Int → Int) : Int → Int := if a 91 = 1 ∧ insA a 4 = true then (if insA a 3 = true then (if a 95 = 0 ∧ a 27 ≤ a 94 then s_note 40 (ua a 95 1) else a) else ua a 94 (a 94 + 1)) else s_end a
def trqA (a : Int → Int) : Int := trq (pol (a 90) (a 23) (a 88) (a 84)) (pol (a 90) (a 23) (a 89) (a 85)) (a 86) (a 87) (a 17) (a 18)
def pkA (a : Int → Int) (z : Int) : Int := pkv (a (32 + z)) (trqA a) (a 95) (a 96) (a 28) (a 26) z (a 91) (insA a z)
def s_pk (z v : Int) (a : Int → Int) : Int → Int := if v = a (101 + z) then a else s_note (if v = 0 then 20 + z else 10 + z) (ua a (101 + z) v)
def s_pks (a : Int → Int) : Int → Int := s_pk 2 (pkA a 2) (s_pk 1 (pkA a 1) (s_pk 0 (pkA a 0) a))
def tmv (a : Int → Int) (z : Int) : Int := if a (101 + z) = 1 then a (98 + z) + 1 else 0
def s_tm (a : Int → Int) : Int → Int := ua (ua (ua a 98 (tmv a 0)) 99 (tmv a 1)) 100 (tmv a 2)
def ripA (a : Int → Int) : Int := rip (a 97) (a 29) (a 98) (a 30) (a 99) (a 31) (a 100)
def s_trip (a : Int → Int) : Int → Int := if a 97 = -6 ∧ ¬ ripA a = -6 then s_note (30 + ripA a) (ua a 97 (ripA a)) else a
def st2 (a : Int → Int) : Int → Int := s_smp 60 2 (s_smp 36 0 (s_ramp a))
def st3 (a : Int → Int) : Int → Int := s_est 60 86 (s_est 36 84 (st2 a))
def st5 (a : Int → Int) : Int → Int := s_imp (s_rem (st3 a))
def st6 (a : Int → Int) : Int → Int := s_swg (st5 a)
def st8 (a : Int → Int) : Int → Int := s_tm (s_pks (st6 a))
def st9 (a : Int → Int) : Int → Int := s_trip (st8 a)
def stp (a : Int → Int) : Int → Int := ua (st9 a) 35 (a 35 + 1)
/-! where each writes -/
theorem ramp_o {a : Int → Int} {j : Int} (h : ¬ (0 ≤ j ∧ j ≤ 4)) : s_ramp a j = a j := by
  unfold s_ramp; split
  · rw [ua_ne (by omega), ua_ne (by omega), ua_ne (by omega), ua_ne (by omega), ua_ne (by omega)]
  · rfl
theorem smp_o {a : Int → Int} {row p j : Int} (h35 : 0 ≤ a 35) (h : ¬ (row ≤ j ∧ j < row + 24)) : s_smp row p a j = a j := by
  have := tmod_r (a := a 35) (b := 24) h35 (by decide)
  unfold s_smp; rw [ua_ne (by omega)]
theorem est_o {a : Int → Int} {row p j : Int} (h : ¬ (j = p ∨ j = p + 1)) : s_est row p a j = a j := by
  unfold s_est; rw [ua_ne (by omega), ua_ne (by omega)]
theorem rem_o {a : Int → Int} {j : Int} (h : ¬ (88 ≤ j ∧ j ≤ 90)) : s_rem a j = a j := by
  unfold s_rem; split
  · rw [ua_ne (by omega), ua_ne (by omega), ua_ne (by omega)]
  · rw [ua_ne (by omega)]
theorem imp_o {a : Int → Int} {j : Int} (h : ¬ (91 ≤ j ∧ j ≤ 93) ∧ ¬ j = 96) : s_imp a j = a j := by
  unfold s_imp; rw [ua_ne (by omega), ua_ne (by omega), ua_ne (by omega), ua_ne (by omega)]
theorem note_o {a : Int → Int} {z j : Int} (h0 : 0 ≤ a 104) (h : ¬ (104 ≤ j ∧ j < 225)) : s_note z a j = a j := by
  have := tmod_r (a := a 104) (b := 60) h0 (by decide)
  unfold s_note; rw [ua_ne (by omega), ua_ne (by omega), ua_ne (by omega)]
theorem note_n {a : Int → Int} {z : Int} : s_note z a 104 = a 104 + 1 := by unfold s_note; rw [ua_eq]
theorem note_T {a : Int → Int} {z k : Int} (h0 : 0 ≤ a 104) (hk : 0 ≤ k ∧ k < 60) : sh2 (s_note z a) 105 k = ua (sh2 a 105) (Int.tmod (a 104) 60) (a 35) k := by
  have := tmod_r (a := a 104) (b := 60) h0 (by decide)
  unfold s_note sh2
  rw [ua_ne (by omega), ua_ne (by omega)]
  unfold ua
  by_cases e : k = Int.tmod (a 104) 60
  · rw [if_pos e, if_pos (by omega)]
  · rw [if_neg e, if_neg (by omega)]
theorem note_K {a : Int → Int} {z k : Int} (h0 : 0 ≤ a 104) (hk : 0 ≤ k ∧ k < 60) : sh2 (s_note z a) 106 k = ua (sh2 a 106) (Int.tmod (a 104) 60) z k := by
  have := tmod_r (a := a 104) (b := 60) h0 (by decide)
  unfold s_note sh2
  rw [ua_ne (by omega)]
  unfold ua
  by_cases e : k = Int.tmod (a 104) 60
  · rw [if_pos e, if_pos (by omega)]
  · rw [if_neg e, if_neg (by omega), if_neg (by omega)]
theorem end_o {a : Int → Int} {j : Int} (h0 : 0 ≤ a 104) (h : ¬ (j = 94 ∨ j = 95 ∨ 104 ≤ j ∧ j < 225)) : s_end a j = a j := by
  unfold s_end; split
  · rw [note_o (by rw [ua_ne (by decide), ua_ne (by decide)]; exact h0) (by omega), ua_ne (by omega), ua_ne (by omega)]
  · rw [ua_ne (by omega)]
theorem swg_o {a : Int → Int} {j : Int} (h0 : 0 ≤ a 104) (h : ¬ (j = 94 ∨ j = 95 ∨ 104 ≤ j ∧ j < 225)) : s_swg a j = a j := by
  unfold s_swg; split
  · split
    · split
      · rw [note_o (by rw [ua_ne (by decide)]; exact h0) (by omega), ua_ne (by omega)]
      · rfl
    · rw [ua_ne (by omega)]
  · exact end_o h0 h
theorem pk_o {a : Int → Int} {z v j : Int} (h0 : 0 ≤ a 104) (hz : 0 ≤ z ∧ z ≤ 2) (h : ¬ (j = 101 + z ∨ 104 ≤ j ∧ j < 225)) : s_pk z v a j = a j := by
  unfold s_pk; split
  · rfl
  · rw [note_o (by rw [ua_ne (by omega)]; exact h0) (by omega), ua_ne (by omega)]
theorem pk_v {a : Int → Int} {z v : Int} (h0 : 0 ≤ a 104) (hz : 0 ≤ z ∧ z ≤ 2) : s_pk z v a (101 + z) = v := by
  unfold s_pk; split
  · rename_i h; exact h.symm
  · rw [note_o (by rw [ua_ne (by omega)]; exact h0) (by omega), ua_eq]
theorem pk_n {a : Int → Int} {z v : Int} (hz : 0 ≤ z ∧ z ≤ 2) : s_pk z v a 104 = ntN (¬ v = a (101 + z)) (a 104) := by
  unfold s_pk; split
  · rename_i h; rw [ntN_f (fun q => q h)]
  · rename_i h; rw [ntN_t h, note_n, ua_ne (by omega)]
theorem pk_T {a : Int → Int} {z v k : Int} (h0 : 0 ≤ a 104) (hz : 0 ≤ z ∧ z ≤ 2) (hk : 0 ≤ k ∧ k < 60) : sh2 (s_pk z v a) 105 k = ntA (¬ v = a (101 + z)) (sh2 a 105) (a 104) (a 35) k := by
  unfold s_pk; split
  · rename_i h; rw [ntA_f (fun q => q h)]
  · rename_i h
    have e : ∀ j, 0 ≤ j → j < 60 → sh2 (ua a (101 + z) v) 105 j = sh2 a 105 j := fun j h1 h2 => by unfold sh2; rw [ua_ne (by omega)]
    rw [ntA_t h, note_T (by rw [ua_ne (by omega)]; exact h0) hk, ua_ne (show ¬ (104 : Int) = 101 + z by omega), ua_ne (show ¬ (35 : Int) = 101 + z by omega)]
    unfold ua; split
    · rfl
    · exact e k hk.1 hk.2
theorem pk_K {a : Int → Int} {z v k : Int} (h0 : 0 ≤ a 104) (hz : 0 ≤ z ∧ z ≤ 2) (hk : 0 ≤ k ∧ k < 60) : sh2 (s_pk z v a) 106 k = ntA (¬ v = a (101 + z)) (sh2 a 106) (a 104) (if v = 0 then 20 + z else 10 + z) k := by
  unfold s_pk; split
  · rename_i h; rw [ntA_f (fun q => q h)]
  · rename_i h
    have e : ∀ j, 0 ≤ j → j < 60 → sh2 (ua a (101 + z) v) 106 j = sh2 a 106 j := fun j h1 h2 => by unfold sh2; rw [ua_ne (by omega)]
    rw [ntA_t h, note_K (by rw [ua_ne (by omega)]; exact h0) hk, ua_ne (show ¬ (104 : Int) = 101 + z by omega)]
    unfold ua; split
    · rfl
    · exact e k hk.1 hk.2
theorem tm_o {a : Int → Int} {j : Int} (h : ¬ (98 ≤ j ∧ j ≤ 100)) : s_tm a j = a j := by
  unfold s_tm; rw [ua_ne (by omega), ua_ne (by omega), ua_ne (by omega)]
theorem trip_o {a : Int → Int} {j : Int} (h0 : 0 ≤ a 104) (h : ¬ (j = 97 ∨ 104 ≤ j ∧ j < 225)) : s_trip a j = a j := by
  unfold s_trip; split
  · rw [note_o (by rw [ua_ne (by decide)]; exact h0) (by omega), ua_ne (by omega)]
  · rfl
