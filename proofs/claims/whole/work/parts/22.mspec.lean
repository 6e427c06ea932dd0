/-! the reference's sample: what holds on its way -/
theorem sm_1 {a : Int → Int} {B : Int} (hI : Inv a B) (hB : B ≤ 3000000) : (0 ≤ s_ramp a 35 ∧ s_ramp a 35 < 2000000000) ∧ cb (s_ramp a 0) ∧ cb (s_ramp a 1) ∧ (0 ≤ s_smp 36 0 (s_ramp a) 35 ∧ s_smp 36 0 (s_ramp a) 35 < 2000000000) ∧ cb (s_smp 36 0 (s_ramp a) 2) ∧ cb (s_smp 36 0 (s_ramp a) 3) := by
  have rb := ramp_b hI
  have h35 := hI.2.2.2.2.2.2.2.2.1
  have e : s_ramp a 35 = a 35 := ramp_o (by decide)
  have g : 0 ≤ s_ramp a 35 := by rw [e]; exact h35.1
  refine ⟨by rw [e]; omega, rb 0 (by decide), rb 1 (by decide), ?_, ?_, ?_⟩
  · rw [smp_o g (by decide), e]; omega
  · rw [smp_o g (by decide)]; exact rb 2 (by decide)
  · rw [smp_o g (by decide)]; exact rb 3 (by decide)
theorem sm_2 {a : Int → Int} {B : Int} (hI : Inv a B) : (∀ k : Int, 0 ≤ k → k < 24 → -40000 ≤ sh (st2 a) 36 k ∧ sh (st2 a) 36 k ≤ 40000) ∧ (∀ k : Int, 0 ≤ k → k < 24 → -40000 ≤ sh (s_est 36 84 (st2 a)) 60 k ∧ sh (s_est 36 84 (st2 a)) 60 k ≤ 40000) := by
  obtain ⟨v2, u2, _⟩ := stp_est hI
  refine ⟨v2, fun k h0 h1 => ?_⟩
  have e : sh (s_est 36 84 (st2 a)) 60 k = sh (st2 a) 60 k := by unfold sh; exact est_o (by omega)
  rw [e]; exact u2 k h0 h1
theorem sm_3 {a : Int → Int} {B : Int} (hI : Inv a B) : (∀ j : Int, 84 ≤ j → j ≤ 89 → -51000 ≤ st3 a j ∧ st3 a j ≤ 51000) ∧ (0 ≤ st3 a 22 ∧ st3 a 22 ≤ 20000) := by
  obtain ⟨_, _, e3⟩ := stp_est hI
  obtain ⟨iP, i4, iR, iE, iN, ⟨i21, i22, i23, i24, i25, i26, i27, i28⟩, iD, iW, i35, iS, iM, i90, i91, i94, i95, i96, i97, iT, iK, i104, iPn, iPc⟩ := hI
  refine ⟨fun j h1 h2 => ?_, ?_⟩
  · by_cases q : j ≤ 87
    · exact e3 j h1 q
    · rw [st3_o (by omega), st2_o i35.1 (by omega)]; exact iM j (by omega) (by omega)
  · rw [st3_o (by omega), st2_o i35.1 (by omega)]; exact i22
theorem sm_o {a : Int → Int} {j : Int} (h35 : 0 ≤ a 35) (h : ¬ (0 ≤ j ∧ j ≤ 4) ∧ ¬ (36 ≤ j ∧ j ≤ 90)) : s_rem (st3 a) j = a j := by rw [rem_o (by omega), st3_o (by omega), st2_o h35 (by omega)]
theorem sm_4 {a : Int → Int} {B : Int} (hI : Inv a B) : (∀ j : Int, 84 ≤ j → j ≤ 89 → -51000 ≤ s_rem (st3 a) j ∧ s_rem (st3 a) j ≤ 51000) ∧ (0 ≤ s_rem (st3 a) 21 ∧ s_rem (st3 a) 21 ≤ 20000) ∧ (0 ≤ s_rem (st3 a) 24 ∧ s_rem (st3 a) 24 ≤ 20000) ∧ (0 ≤ s_rem (st3 a) 25 ∧ s_rem (st3 a) 25 ≤ 10000) ∧
    ((-5300000000000 ≤ ptX (s_rem (st3 a)) ∧ ptX (s_rem (st3 a)) ≤ 5300000000000) ∧ (-5300000000000 ≤ ptY (s_rem (st3 a)) ∧ ptY (s_rem (st3 a)) ≤ 5300000000000) ∧ (0 ≤ ptD (s_rem (st3 a)) ∧ ptD (s_rem (st3 a)) ≤ 5210000000)) ∧ (hasP (s_rem (st3 a)) = true → 0 < ptD (s_rem (st3 a))) := by
  have f := (sm_3 hI).1
  obtain ⟨iP, i4, iR, iE, iN, ⟨i21, i22, i23, i24, i25, i26, i27, i28⟩, iD, iW, i35, iS, iM, i90, i91, i94, i95, i96, i97, iT, iK, i104, iPn, iPc⟩ := hI
  have r2 := rem_b2 (st3 a) (f 84 (by decide) (by decide)) (f 85 (by decide) (by decide)) (f 88 (by decide) (by decide)) (f 89 (by decide) (by decide))
  have e : ∀ j : Int, 84 ≤ j → j ≤ 89 → -51000 ≤ s_rem (st3 a) j ∧ s_rem (st3 a) j ≤ 51000 := fun j h1 h2 => by
    by_cases q : j ≤ 87
    · rw [rem_o (by omega)]; exact f j h1 h2
    · rcases (show j = 88 ∨ j = 89 by omega) with rfl | rfl
      · exact r2.1
      · exact r2.2
  have e21 : s_rem (st3 a) 21 = a 21 := sm_o i35.1 (by decide)
  refine ⟨e, by rw [e21]; omega, by rw [sm_o i35.1 (by decide)]; exact i24, by rw [sm_o i35.1 (by decide)]; exact i25, pt_b (fun j h1 h2 => e j h1 (by omega)), fun h => ?_⟩
  have h2 : s_rem (st3 a) 21 * s_rem (st3 a) 21 ≤ ptD (s_rem (st3 a)) := of_decide_eq_true h
  rw [e21] at h2
  have : 1 * 1 ≤ a 21 * a 21 := Int.mul_le_mul i21.1 i21.1 (by decide) (by omega)
  omega
theorem imp_t {b : Int → Int} {v : Int} (h : hasP b = true) (hv : v = b01 (ldP b)) : s_imp b = ua (ua (ua (ua b 91 1) 92 (Int.tdiv (ptX b) (ptD b))) 93 (Int.tdiv (ptY b) (ptD b))) 96 v := by
  unfold s_imp; rw [if_pos h, if_pos h, ← hv]
  rw [show b01 (hasP b) = 1 from if_pos h]
theorem imp_f {b : Int → Int} (h : ¬ hasP b = true) : s_imp b = ua (ua (ua (ua b 91 0) 92 0) 93 0) 96 0 := by
  unfold s_imp; rw [if_neg h, if_neg h, show b01 (hasP b) = 0 from if_neg h]
  have e : b01 (ldP b) = 0 := if_neg (fun q => by unfold ldP at q; rw [Bool.and_eq_true] at q; exact h q.1)
  rw [e]
theorem ld_01 {b : Int → Int} {v : Int} (h : hasP b = true) (hv : (v = 1 ∧ b 24 * ptD b ≤ absI (ptX b) ∧ absI (ptY b) * 1000 ≤ b 25 * absI (ptX b)) ∨ (v = 0 ∧ ¬ (b 24 * ptD b ≤ absI (ptX b) ∧ absI (ptY b) * 1000 ≤ b 25 * absI (ptX b)))) : v = b01 (ldP b) := by
  unfold ldP b01
  rcases hv with ⟨rfl, h1, h2⟩ | ⟨rfl, h1⟩
  · rw [if_pos]; rw [Bool.and_eq_true, Bool.and_eq_true]; exact ⟨h, decide_eq_true h1, decide_eq_true h2⟩
  · rw [if_neg]; intro q; rw [Bool.and_eq_true, Bool.and_eq_true] at q; exact h1 ⟨of_decide_eq_true q.2.1, of_decide_eq_true q.2.2⟩
theorem sm_5 {a : Int → Int} {B : Int} (hI : Inv a B) (hB : B ≤ 3000000) : (∀ p : Int, 0 ≤ p → p < 5 → 0 ≤ st5 a (225 + 17 * p) ∧ st5 a (225 + 17 * p) ≤ 8) ∧ (∀ p k : Int, 0 ≤ p → p < 5 → 0 ≤ k → k < 8 → cb (sh2 (st5 a) (226 + 17 * p) k) ∧ cb (sh2 (st5 a) (227 + 17 * p) k)) ∧
    (0 ≤ st5 a 104 ∧ st5 a 104 < 2000000000) ∧ (st5 a 95 = 0 ∨ st5 a 95 = 1) ∧ (0 ≤ st5 a 94 ∧ st5 a 94 < 2000000000) ∧ (0 ≤ st5 a 27 ∧ st5 a 27 ≤ 1000) := by
  obtain ⟨iP, i4, iR, iE, iN, ⟨i21, i22, i23, i24, i25, i26, i27, i28⟩, iD, iW, i35, iS, iM, i90, i91, i94, i95, i96, i97, iT, iK, i104, iPn, iPc⟩ := hI
  refine ⟨fun p h0 h1 => ?_, fun p k h0 h1 h2 h3 => ?_, ?_, ?_, ?_, ?_⟩
  · rw [st5_o i35.1 (by omega)]; exact iPn p h0 h1
  · unfold sh2; rw [st5_o i35.1 (by omega), st5_o i35.1 (by omega)]; exact iPc p k h0 h1 h2 h3
  · rw [st5_o i35.1 (by decide)]; omega
  · rw [st5_o i35.1 (by decide)]; exact i95
  · rw [st5_o i35.1 (by decide)]; omega
  · rw [st5_o i35.1 (by decide)]; omega
theorem b01_bool (b : Bool) : b01 b = 0 ∨ b01 b = 1 := by cases b <;> simp [b01]
theorem sm_pt (a : Int → Int) : ptX (s_rem (st3 a)) = ptX (st5 a) ∧ ptY (s_rem (st3 a)) = ptY (st5 a) ∧ ptD (s_rem (st3 a)) = ptD (st5 a) := by
  have h := ld_c (b := s_rem (st3 a)) (c := st5 a) (fun j hj => st5_r (by omega))
  exact ⟨h.1.symm, h.2.1.symm, h.2.2.1.symm⟩
theorem sm_pt6 {a : Int → Int} (h35 : 0 ≤ a 35) (h0 : 0 ≤ a 104) : ptX (st6 a) = ptX (s_rem (st3 a)) ∧ ptY (st6 a) = ptY (s_rem (st3 a)) ∧ ptD (st6 a) = ptD (s_rem (st3 a)) := by
  have h := ld_c (b := st5 a) (c := st6 a) (fun j hj => st6_o h35 h0 (by omega))
  have p := sm_pt a
  exact ⟨h.1.trans p.1.symm, h.2.1.trans p.2.1.symm, h.2.2.1.trans p.2.2.symm⟩
theorem sw_t {a : Int → Int} (h : hasP (s_rem (st3 a)) = true) : s_swB (st5 a) (ptX (s_rem (st3 a))) (ptY (s_rem (st3 a))) (ptD (s_rem (st3 a))) = st6 a := by
  have e91 : st5 a 91 = 1 := by unfold st5; rw [imp_91]; exact if_pos h
  have p := sm_pt a
  rw [p.1, p.2.1, p.2.2]
  unfold st6 s_swg s_swB insA
  by_cases q : hldA (st5 a) 4 (ptX (st5 a)) (ptY (st5 a)) (ptD (st5 a)) = true
  · rw [if_pos q, if_pos (show st5 a 91 = 1 ∧ hldA (st5 a) 4 (ptX (st5 a)) (ptY (st5 a)) (ptD (st5 a)) = true from ⟨e91, q⟩)]
  · rw [if_neg q, if_neg (fun z : st5 a 91 = 1 ∧ hldA (st5 a) 4 (ptX (st5 a)) (ptY (st5 a)) (ptD (st5 a)) = true => q z.2)]
theorem sw_f {a : Int → Int} (h : ¬ hasP (s_rem (st3 a)) = true) : s_end (st5 a) = st6 a := by
  have e91 : st5 a 91 = 0 := by unfold st5; rw [imp_91]; exact if_neg h
  unfold st6 s_swg
  rw [if_neg (fun z => by rw [e91] at z; exact absurd z.1 (by decide))]
theorem sm_6 {a : Int → Int} {B : Int} (hI : Inv a B) (hB : B ≤ 3000000) : MH (st6 a) ∧ (∀ z : Int, 0 ≤ z → z ≤ 2 → 0 ≤ st6 a (98 + z) ∧ st6 a (98 + z) < 1000000000) ∧ (∀ z : Int, 0 ≤ z → z ≤ 2 → 1 ≤ st6 a (29 + z) ∧ st6 a (29 + z) ≤ 2400) ∧ (∀ z : Int, 0 ≤ z → z ≤ 2 → st6 a (101 + z) = 0 ∨ st6 a (101 + z) = 1) ∧ (st6 a 97 = -6 ∨ (0 ≤ st6 a 97 ∧ st6 a 97 ≤ 2)) ∧ (0 ≤ st6 a 104 ∧ st6 a 104 < 1900000000) := by
  have w := st6_104 hI
  have f := (sm_4 hI).1
  have f0 := (sm_3 hI).1
  obtain ⟨iP, i4, iR, iE, iN, ⟨i21, i22, i23, i24, i25, i26, i27, i28⟩, iD, iW, i35, iS, iM, i90, i91, i94, i95, i96, i97, iT, iK, i104, iPn, iPc⟩ := hI
  have o : ∀ j : Int, ¬ (j = 94 ∨ j = 95 ∨ 104 ≤ j ∧ j < 225) → st6 a j = st5 a j := fun j hj => st6_o i35.1 i104.1 hj
  have p : ∀ j : Int, ¬ (0 ≤ j ∧ j ≤ 4) ∧ ¬ (36 ≤ j ∧ j ≤ 93) ∧ ¬ j = 96 → st5 a j = a j := fun j hj => st5_o i35.1 hj
  refine ⟨⟨fun q h0 h1 => ?_, fun q k h0 h1 h2 h3 => ?_, fun j h0 h1 => ?_, ?_, ?_, ?_, ?_, fun z h0 h1 => ?_, ?_, ?_, ?_, ?_, ?_⟩, fun z h0 h1 => ?_, fun z h0 h1 => ?_, fun z h0 h1 => ?_, ?_, ?_⟩
  · rw [o _ (by omega), p _ (by omega)]; exact iPn q h0 h1
  · unfold sh2; rw [o _ (by omega), p _ (by omega), o _ (by omega), p _ (by omega)]; exact iPc q k h0 h1 h2 h3
  · rw [o _ (by omega), st5_r (by omega)]; exact f j h0 h1
  · rw [o _ (by omega), p _ (by omega)]; exact iN 17 (by decide) (by decide)
  · rw [o _ (by omega), p _ (by omega)]; exact iN 18 (by decide) (by decide)
  · rw [o _ (by omega), st5_r (by omega)]
    have r := rem_b (st3 a) (n := a 90) i90.1 (by rw [st3_o (by decide), st2_o i35.1 (by decide)])
    omega
  · rw [o _ (by omega), p _ (by omega)]; exact i23
  · rw [o _ (by omega), p _ (by omega)]; exact iW (32 + z) (by omega) (by omega)
  · exact w.2.1
  · rw [o _ (by omega), st5_96]; exact b01_bool _
  · rw [o _ (by omega), st5_91]; exact b01_bool _
  · rw [o _ (by omega), p _ (by omega)]; exact i28
  · rw [o _ (by omega), p _ (by omega)]; exact i26
  · rw [o _ (by omega), p _ (by omega)]; have := iT (98 + z) (by omega) (by omega); omega
  · rw [o _ (by omega), p _ (by omega)]; exact iD (29 + z) (by omega) (by omega)
  · rw [o _ (by omega), p _ (by omega)]; exact iK (101 + z) (by omega) (by omega)
  · rw [o _ (by omega), p _ (by omega)]; exact i97
  · have := w.2.2; omega
theorem sm_9 {a : Int → Int} {B : Int} (hI : Inv a B) : st9 a 35 = a 35 := by
  have w := (st6_104 hI).2.2.1
  have h35 := hI.2.2.2.2.2.2.2.2.1
  have h104 : 0 ≤ a 104 := hI.2.2.2.2.2.2.2.2.2.2.2.2.2.2.2.2.2.2.2.1.1
  have p3 := pks_3 w
  have g : 0 ≤ st8 a 104 := by
    unfold st8; rw [tm_o (by decide), p3.2.2.2.1]
    exact Int.le_trans w (Int.le_trans (ntN_r _).1 (Int.le_trans (ntN_r _).1 (ntN_r _).1))
  unfold st9; rw [trip_o g (by decide)]
  unfold st8; rw [tm_o (by decide), pks_o w (by decide), st6_o h35.1 h104 (by decide), st5_o h35.1 (by decide)]
theorem hasP_le {b : Int → Int} : hasP b = true ↔ b 21 * b 21 ≤ b 86 * b 86 + b 87 * b 87 := by unfold hasP ptD; exact decide_eq_true_iff
theorem ptX_e (b : Int → Int) : ptX b = 1000 * (b 84 * b 86 + b 85 * b 87) := rfl
theorem ptY_e (b : Int → Int) : ptY b = 1000 * (b 85 * b 86 - b 84 * b 87) := rfl
theorem ptD_e (b : Int → Int) : ptD b = b 86 * b 86 + b 87 * b 87 := rfl
