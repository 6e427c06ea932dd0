/-! picks, timers, the trip; one sample whole -/
theorem ntA_c {c : Prop} [Decidable c] {T T' : Int → Int} {n v k : Int} (h : T k = T' k) : ntA c T n v k = ntA c T' n v k := by
  unfold ntA; split
  · unfold ua; split
    · rfl
    · exact h
  · exact h
theorem ntN_0 {c : Prop} [Decidable c] {n : Int} (h : 0 ≤ n) : 0 ≤ ntN c n := by have := ntN_r (c := c) n; omega
theorem pks_o {e : Int → Int} {j : Int} (h0 : 0 ≤ e 104) (h : ¬ (101 ≤ j ∧ j ≤ 103 ∨ 104 ≤ j ∧ j < 225)) : s_pks e j = e j := by
  have n0 : ∀ v, 0 ≤ s_pk 0 v e 104 := fun v => by rw [pk_n (by decide)]; exact ntN_0 h0
  have n1 : ∀ v u, 0 ≤ s_pk 1 u (s_pk 0 v e) 104 := fun v u => by rw [pk_n (by decide)]; exact ntN_0 (n0 v)
  unfold s_pks; rw [pk_o (n1 _ _) (by decide) (by omega), pk_o (n0 _) (by decide) (by omega), pk_o h0 (by decide) (by omega)]
theorem pks_3 {e : Int → Int} (h0 : 0 ≤ e 104) : s_pks e 101 = pkA e 0 ∧ s_pks e 102 = pkA e 1 ∧ s_pks e 103 = pkA e 2 ∧
    s_pks e 104 = ntN (¬ pkA e 2 = e 103) (ntN (¬ pkA e 1 = e 102) (ntN (¬ pkA e 0 = e 101) (e 104))) ∧
    (∀ k : Int, 0 ≤ k → k < 60 → sh2 (s_pks e) 105 k = ntA (¬ pkA e 2 = e 103) (ntA (¬ pkA e 1 = e 102) (ntA (¬ pkA e 0 = e 101) (sh2 e 105) (e 104) (e 35)) (ntN (¬ pkA e 0 = e 101) (e 104)) (e 35)) (ntN (¬ pkA e 1 = e 102) (ntN (¬ pkA e 0 = e 101) (e 104))) (e 35) k) ∧
    (∀ k : Int, 0 ≤ k → k < 60 → sh2 (s_pks e) 106 k = ntA (¬ pkA e 2 = e 103) (ntA (¬ pkA e 1 = e 102) (ntA (¬ pkA e 0 = e 101) (sh2 e 106) (e 104) (if pkA e 0 = 0 then 20 else 10)) (ntN (¬ pkA e 0 = e 101) (e 104)) (if pkA e 1 = 0 then 21 else 11)) (ntN (¬ pkA e 1 = e 102) (ntN (¬ pkA e 0 = e 101) (e 104))) (if pkA e 2 = 0 then 22 else 12) k) := by
  have n0 : s_pk 0 (pkA e 0) e 104 = ntN (¬ pkA e 0 = e 101) (e 104) := pk_n (z := 0) (by decide)
  have p0 : 0 ≤ s_pk 0 (pkA e 0) e 104 := by rw [n0]; exact ntN_0 h0
  have o0 : ∀ j, ¬ (j = 101 ∨ 104 ≤ j ∧ j < 225) → s_pk 0 (pkA e 0) e j = e j := fun j hj => pk_o h0 (by decide) hj
  have n1 : s_pk 1 (pkA e 1) (s_pk 0 (pkA e 0) e) 104 = ntN (¬ pkA e 1 = e 102) (ntN (¬ pkA e 0 = e 101) (e 104)) := by
    rw [pk_n (z := 1) (by decide), n0]; simp only [show (101 : Int) + 1 = 102 from rfl, o0 102 (by decide)]
  have p1 : 0 ≤ s_pk 1 (pkA e 1) (s_pk 0 (pkA e 0) e) 104 := by rw [n1]; exact ntN_0 (ntN_0 h0)
  have o1 : ∀ j, ¬ (j = 102 ∨ 104 ≤ j ∧ j < 225) → s_pk 1 (pkA e 1) (s_pk 0 (pkA e 0) e) j = s_pk 0 (pkA e 0) e j := fun j hj => pk_o p0 (by decide) hj
  unfold s_pks
  refine ⟨?_, ?_, ?_, ?_, fun k h1 h2 => ?_, fun k h1 h2 => ?_⟩
  · rw [pk_o p1 (by decide) (by decide), o1 101 (by decide)]; exact pk_v (z := 0) h0 (by decide)
  · rw [pk_o p1 (by decide) (by decide)]; exact pk_v (z := 1) p0 (by decide)
  · exact pk_v (z := 2) p1 (by decide)
  · rw [pk_n (z := 2) (by decide), n1]; simp only [show (101 : Int) + 2 = 103 from rfl, o1 103 (by decide), o0 103 (by decide)]
  · rw [pk_T (z := 2) p1 (by decide) ⟨h1, h2⟩]
    simp only [show (101 : Int) + 2 = 103 from rfl, o1 103 (by decide), o0 103 (by decide), n1, o1 35 (by decide), o0 35 (by decide)]
    refine ntA_c ?_
    rw [pk_T (z := 1) p0 (by decide) ⟨h1, h2⟩]
    simp only [show (101 : Int) + 1 = 102 from rfl, o0 102 (by decide), n0, o0 35 (by decide)]
    refine ntA_c ?_
    exact pk_T (z := 0) h0 (by decide) ⟨h1, h2⟩
  · rw [pk_K (z := 2) p1 (by decide) ⟨h1, h2⟩]
    simp only [show (101 : Int) + 2 = 103 from rfl, o1 103 (by decide), o0 103 (by decide), n1]
    refine ntA_c ?_
    rw [pk_K (z := 1) p0 (by decide) ⟨h1, h2⟩]
    simp only [show (101 : Int) + 1 = 102 from rfl, o0 102 (by decide), n0]
    refine ntA_c ?_
    exact pk_K (z := 0) h0 (by decide) ⟨h1, h2⟩
theorem trip_3 {g : Int → Int} (h0 : 0 ≤ g 104) : s_trip g 97 = ripA g ∧ s_trip g 104 = ntN (g 97 = -6 ∧ ¬ ripA g = -6) (g 104) ∧
    (∀ k : Int, 0 ≤ k → k < 60 → sh2 (s_trip g) 105 k = ntA (g 97 = -6 ∧ ¬ ripA g = -6) (sh2 g 105) (g 104) (g 35) k) ∧
    (∀ k : Int, 0 ≤ k → k < 60 → sh2 (s_trip g) 106 k = ntA (g 97 = -6 ∧ ¬ ripA g = -6) (sh2 g 106) (g 104) (30 + ripA g) k) := by
  unfold s_trip; by_cases q : g 97 = -6 ∧ ¬ ripA g = -6
  · rw [if_pos q, ntN_t q, ntA_t q, ntA_t q]
    have n97 : (ua g 97 (ripA g)) 104 = g 104 := ua_ne (by decide)
    refine ⟨by rw [note_o (by rw [n97]; exact h0) (by decide), ua_eq], by rw [note_n, n97], fun k h1 h2 => ?_, fun k h1 h2 => ?_⟩
    · rw [note_T (by rw [n97]; exact h0) ⟨h1, h2⟩, n97, ua_ne (show ¬ (35 : Int) = 97 by decide)]
      unfold ua; split
      · rfl
      · unfold sh2; exact if_neg (by omega)
    · rw [note_K (by rw [n97]; exact h0) ⟨h1, h2⟩, n97]
      unfold ua; split
      · rfl
      · unfold sh2; exact if_neg (by omega)
  · rw [if_neg q, ntN_f q, ntA_f q, ntA_f q]
    refine ⟨?_, rfl, fun _ _ _ => rfl, fun _ _ _ => rfl⟩
    by_cases t : g 97 = -6
    · have : ripA g = -6 := Classical.byContradiction fun z => q ⟨t, z⟩
      rw [this, t]
    · unfold ripA rip; rw [if_neg t]
theorem st8_o {a : Int → Int} {j : Int} (h0 : 0 ≤ st6 a 104) (h : ¬ (98 ≤ j ∧ j ≤ 103 ∨ 104 ≤ j ∧ j < 225)) : st8 a j = st6 a j := by
  unfold st8; rw [tm_o (by omega), pks_o h0 (by omega)]
theorem st8_f {a : Int → Int} {j : Int} (h : ¬ (98 ≤ j ∧ j ≤ 100)) : st8 a j = s_pks (st6 a) j := by unfold st8; rw [tm_o h]
theorem st8_t {a : Int → Int} (h0 : 0 ≤ st6 a 104) : st8 a 98 = (if pkA (st6 a) 0 = 1 then st6 a 98 + 1 else 0) ∧ st8 a 99 = (if pkA (st6 a) 1 = 1 then st6 a 99 + 1 else 0) ∧ st8 a 100 = (if pkA (st6 a) 2 = 1 then st6 a 100 + 1 else 0) := by
  have h := pks_3 h0
  unfold st8 s_tm tmv
  simp only [show (101 : Int) + 0 = 101 from rfl, show (101 : Int) + 1 = 102 from rfl, show (101 : Int) + 2 = 103 from rfl, show (98 : Int) + 0 = 98 from rfl, show (98 : Int) + 1 = 99 from rfl, show (98 : Int) + 2 = 100 from rfl, h.1, h.2.1, h.2.2.1, pks_o h0 (show ¬ ((101 : Int) ≤ 98 ∧ (98 : Int) ≤ 103 ∨ (104 : Int) ≤ 98 ∧ (98 : Int) < 225) by decide), pks_o h0 (show ¬ ((101 : Int) ≤ 99 ∧ (99 : Int) ≤ 103 ∨ (104 : Int) ≤ 99 ∧ (99 : Int) < 225) by decide), pks_o h0 (show ¬ ((101 : Int) ≤ 100 ∧ (100 : Int) ≤ 103 ∨ (104 : Int) ≤ 100 ∧ (100 : Int) < 225) by decide)]
  refine ⟨?_, ?_, ?_⟩
  · rw [ua_ne (by decide), ua_ne (by decide), ua_eq]
  · rw [ua_ne (by decide), ua_eq]
  · rw [ua_eq]
theorem st8_104 {a : Int → Int} (h0 : 0 ≤ st6 a 104) : 0 ≤ st8 a 104 := by
  rw [st8_f (by decide), (pks_3 h0).2.2.2.1]; exact ntN_0 (ntN_0 (ntN_0 h0))
theorem stp_9 {a : Int → Int} {j : Int} (h : ¬ j = 35) : stp a j = st9 a j := by unfold stp; exact ua_ne h
theorem stp_35 (a : Int → Int) : stp a 35 = a 35 + 1 := by unfold stp; exact ua_eq
theorem stp_6 {a : Int → Int} {j : Int} (h0 : 0 ≤ st6 a 104) (h : ¬ (j = 35 ∨ 97 ≤ j ∧ j < 225)) : stp a j = st6 a j := by
  rw [stp_9 (by omega)]; unfold st9; rw [trip_o (st8_104 h0) (by omega), st8_o h0 (by omega)]
theorem stp_8 {a : Int → Int} {j : Int} (h0 : 0 ≤ st6 a 104) (h : ¬ (j = 35 ∨ j = 97 ∨ 104 ≤ j ∧ j < 225)) : stp a j = st8 a j := by
  rw [stp_9 (by omega)]; unfold st9; rw [trip_o (st8_104 h0) (by omega)]
/-- what one sample leaves as it was -/
theorem stp_o {a : Int → Int} {j : Int} (h35 : 0 ≤ a 35) (h0 : 0 ≤ a 104) (h6 : 0 ≤ st6 a 104) (h : (5 ≤ j ∧ j ≤ 34) ∨ 225 ≤ j) : stp a j = a j := by
  rw [stp_6 h6 (by omega), st6_o h35 h0 (by omega), st5_o h35 (by omega)]
theorem stp_2 {a : Int → Int} {j : Int} (h35 : 0 ≤ a 35) (h0 : 0 ≤ a 104) (h6 : 0 ≤ st6 a 104) (h : (0 ≤ j ∧ j ≤ 4) ∨ (36 ≤ j ∧ j < 84)) : stp a j = st2 a j := by
  rw [stp_6 h6 (by omega), st6_o h35 h0 (by omega), st5_3 (by omega), st3_o (by omega)]
theorem stp_3 {a : Int → Int} {j : Int} (h35 : 0 ≤ a 35) (h0 : 0 ≤ a 104) (h6 : 0 ≤ st6 a 104) (h : 84 ≤ j ∧ j ≤ 87) : stp a j = st3 a j := by
  rw [stp_6 h6 (by omega), st6_o h35 h0 (by omega), st5_3 (by omega)]
theorem stp_r {a : Int → Int} {j : Int} (h35 : 0 ≤ a 35) (h0 : 0 ≤ a 104) (h6 : 0 ≤ st6 a 104) (h : 88 ≤ j ∧ j ≤ 90) : stp a j = s_rem (st3 a) j := by
  rw [stp_6 h6 (by omega), st6_o h35 h0 (by omega), st5_r (by omega)]
theorem stp_5 {a : Int → Int} {j : Int} (h35 : 0 ≤ a 35) (h0 : 0 ≤ a 104) (h6 : 0 ≤ st6 a 104) (h : (91 ≤ j ∧ j ≤ 93) ∨ j = 96) : stp a j = st5 a j := by
  rw [stp_6 h6 (by omega), st6_o h35 h0 (by omega)]
theorem ripA_8 {a : Int → Int} (h35 : 0 ≤ a 35) (h0 : 0 ≤ a 104) (h6 : 0 ≤ st6 a 104) : ripA (st8 a) = rip (a 97) (a 29) (if pkA (st6 a) 0 = 1 then a 98 + 1 else 0) (a 30) (if pkA (st6 a) 1 = 1 then a 99 + 1 else 0) (a 31) (if pkA (st6 a) 2 = 1 then a 100 + 1 else 0) := by
  have t := st8_t h6
  have o : ∀ j : Int, (j = 97 ∨ j = 29 ∨ j = 30 ∨ j = 31) → st8 a j = a j := fun j hj => by rw [st8_o h6 (by omega), st6_o h35 h0 (by omega), st5_o h35 (by omega)]
  have p : ∀ j : Int, 98 ≤ j ∧ j ≤ 100 → st6 a j = a j := fun j hj => by rw [st6_o h35 h0 (by omega), st5_o h35 (by omega)]
  unfold ripA; rw [t.1, t.2.1, t.2.2, o 97 (by decide), o 29 (by decide), o 30 (by decide), o 31 (by decide), p 98 (by decide), p 99 (by decide), p 100 (by decide)]
/-- the log behind one sample -/
theorem stp_log {a : Int → Int} (h35 : 0 ≤ a 35) (h0 : 0 ≤ a 104) (h6 : 0 ≤ st6 a 104) {r k0 k1 k2 : Int} (hr : r = ripA (st8 a)) (hk0 : k0 = pkA (st6 a) 0) (hk1 : k1 = pkA (st6 a) 1) (hk2 : k2 = pkA (st6 a) 2) {N : Int}
    (hN : N = ntN (¬ k2 = a 103) (ntN (¬ k1 = a 102) (ntN (¬ k0 = a 101) (st6 a 104)))) :
    stp a 104 = ntN (a 97 = -6 ∧ ¬ r = -6) N ∧
    (∀ k : Int, 0 ≤ k → k < 60 → sh2 (stp a) 105 k = ntA (a 97 = -6 ∧ ¬ r = -6) (ntA (¬ k2 = a 103) (ntA (¬ k1 = a 102) (ntA (¬ k0 = a 101) (sh2 (st6 a) 105) (st6 a 104) (a 35)) (ntN (¬ k0 = a 101) (st6 a 104)) (a 35)) (ntN (¬ k1 = a 102) (ntN (¬ k0 = a 101) (st6 a 104))) (a 35)) N (a 35) k) ∧
    (∀ k : Int, 0 ≤ k → k < 60 → sh2 (stp a) 106 k = ntA (a 97 = -6 ∧ ¬ r = -6) (ntA (¬ k2 = a 103) (ntA (¬ k1 = a 102) (ntA (¬ k0 = a 101) (sh2 (st6 a) 106) (st6 a 104) (if k0 = 0 then 20 else 10)) (ntN (¬ k0 = a 101) (st6 a 104)) (if k1 = 0 then 21 else 11)) (ntN (¬ k1 = a 102) (ntN (¬ k0 = a 101) (st6 a 104))) (if k2 = 0 then 22 else 12)) N (30 + r) k) := by
  subst hr hk0 hk1 hk2 hN
  have t := trip_3 (st8_104 h6)
  have p := pks_3 h6
  have o : ∀ j : Int, 97 ≤ j ∧ j ≤ 103 → st6 a j = a j := fun j hj => by rw [st6_o h35 h0 (by omega), st5_o h35 (by omega)]
  have e35 : st6 a 35 = a 35 := by rw [st6_o h35 h0 (by decide), st5_o h35 (by decide)]
  have f97 : st8 a 97 = a 97 := by rw [st8_o h6 (by decide), o 97 (by decide)]
  have f35 : st8 a 35 = a 35 := by rw [st8_o h6 (by decide), e35]
  have f104 : st8 a 104 = ntN (¬ pkA (st6 a) 2 = a 103) (ntN (¬ pkA (st6 a) 1 = a 102) (ntN (¬ pkA (st6 a) 0 = a 101) (st6 a 104))) := by
    rw [st8_f (by decide), p.2.2.2.1]; simp only [o 101 (by decide), o 102 (by decide), o 103 (by decide)]
  have u : ∀ o2 k : Int, o2 = 105 ∨ o2 = 106 → 0 ≤ k → k < 60 → sh2 (st8 a) o2 k = sh2 (s_pks (st6 a)) o2 k := fun o2 k ho h1 h2 => by unfold sh2; exact st8_f (by omega)
  have w : ∀ o2 k : Int, o2 = 105 ∨ o2 = 106 → 0 ≤ k → k < 60 → sh2 (stp a) o2 k = sh2 (s_trip (st8 a)) o2 k := fun o2 k ho h1 h2 => by unfold sh2; exact stp_9 (by omega)
  refine ⟨?_, fun k h1 h2 => ?_, fun k h1 h2 => ?_⟩
  · rw [stp_9 (by decide)]; unfold st9; rw [t.2.1, f104]; simp only [f97]
  · rw [w 105 k (Or.inl rfl) h1 h2, t.2.2.1 k h1 h2, f104, f35]; simp only [f97]
    refine ntA_c ?_
    rw [u 105 k (Or.inl rfl) h1 h2, p.2.2.2.2.1 k h1 h2, e35]; simp only [o 101 (by decide), o 102 (by decide), o 103 (by decide)]
    refine ntA_c ?_
    simp only [o 101 (by decide), o 102 (by decide)]
    refine ntA_c ?_
    simp only [o 101 (by decide)]
  · rw [w 106 k (Or.inr rfl) h1 h2, t.2.2.2 k h1 h2, f104]; simp only [f97]
    refine ntA_c ?_
    rw [u 106 k (Or.inr rfl) h1 h2, p.2.2.2.2.2 k h1 h2]; simp only [o 101 (by decide), o 102 (by decide), o 103 (by decide)]
    refine ntA_c ?_
    simp only [o 101 (by decide), o 102 (by decide)]
    refine ntA_c ?_
    simp only [o 101 (by decide)]
theorem stp_97 {a : Int → Int} (h6 : 0 ≤ st6 a 104) : stp a 97 = ripA (st8 a) := by rw [stp_9 (by decide)]; exact (trip_3 (st8_104 h6)).1
def nF (a : Int → Int) : Int → Int := fun k => if k = 0 then a 14 else a (13 + 2 * k)
def nS (a : Int → Int) : Int → Int := fun k => if k = 0 then 0 else a (14 + 2 * k)
theorem nF_c {a b : Int → Int} (h : ∀ j : Int, 14 ≤ j → j ≤ 20 → b j = a j) {k : Int} (h0 : 0 ≤ k) (h1 : k < 4 := by omega) : nF b k = nF a k := by
  unfold nF; split
  · exact h 14 (by decide) (by decide)
  · exact h _ (by omega) (by omega)
theorem nS_c {a b : Int → Int} (h : ∀ j : Int, 14 ≤ j → j ≤ 20 → b j = a j) {k : Int} (h0 : 0 ≤ k) (h1 : k < 4 := by omega) : nS b k = nS a k := by
  unfold nS; split
  · rfl
  · exact h _ (by omega) (by omega)
theorem ramp_b {a : Int → Int} {B : Int} (hI : Inv a B) (j : Int) (hj : 0 ≤ j ∧ j < 4) : cb (s_ramp a j) := by
  obtain ⟨iP, i4, iR, -⟩ := hI
  by_cases h4 : 0 < a 4
  · rw [ramp_v h4 hj]; unfold rmp
    exact way_b (iR _ (by omega) (by omega)) (iR _ (by omega) (by omega)) (by omega) (by omega)
  · rw [ramp_n h4]; exact iP j hj.1 hj.2
theorem rem_b (b : Int → Int) {n : Int} (h : 0 ≤ n) (e : b 90 = n) : 0 ≤ s_rem b 90 ∧ s_rem b 90 ≤ n + 1 := by rw [rem_90, e]; unfold mem; split <;> omega
theorem rem_b2 (b : Int → Int) (h4 : -51000 ≤ b 84 ∧ b 84 ≤ 51000) (h5 : -51000 ≤ b 85 ∧ b 85 ≤ 51000) (h8 : -51000 ≤ b 88 ∧ b 88 ≤ 51000) (h9 : -51000 ≤ b 89 ∧ b 89 ≤ 51000) : (-51000 ≤ s_rem b 88 ∧ s_rem b 88 ≤ 51000) ∧ (-51000 ≤ s_rem b 89 ∧ s_rem b 89 ≤ 51000) := by
  rw [rem_88, rem_89]; unfold mem; constructor <;> (split <;> assumption)
