/-! the state's ranges stay, sample by sample -/
theorem rip_r {tr d0 t0 d1 t1 d2 t2 : Int} (h : tr = -6 ∨ (0 ≤ tr ∧ tr ≤ 2)) : rip tr d0 t0 d1 t1 d2 t2 = -6 ∨ (0 ≤ rip tr d0 t0 d1 t1 d2 t2 ∧ rip tr d0 t0 d1 t1 d2 t2 ≤ 2) := by unfold rip; (repeat' split) <;> omega
theorem mem_r {va vb lv x y A : Int} (hx : 0 ≤ x ∧ x ≤ A) (hy : 0 ≤ y ∧ y ≤ A) : 0 ≤ mem va vb lv x y ∧ mem va vb lv x y ≤ A := by unfold mem; split <;> assumption
def IR (a : Int → Int) (x y d : Int) : Prop := a 91 = 1 → (0 < d ∧ d ≤ 5210000000) ∧ (-5300000000000 ≤ x ∧ x ≤ 5300000000000) ∧ (-5300000000000 ≤ y ∧ y ≤ 5300000000000) ∧ a 92 = Int.tdiv x d ∧ a 93 = Int.tdiv y d
theorem st6_104 {a : Int → Int} {B : Int} (hI : Inv a B) : (st6 a 94 = 0 ∨ st6 a 94 = a 94 ∨ st6 a 94 = a 94 + 1) ∧ (st6 a 95 = 0 ∨ st6 a 95 = 1) ∧ (0 ≤ st6 a 104 ∧ st6 a 104 ≤ a 104 + 1) := by
  obtain ⟨iP, i4, iR, iE, iN, ⟨i21, i22, i23, i24, i25, i26, i27, i28⟩, iD, iW, i35, iS, iM, i90, i91, i94, i95, i96, i97, iT, iK, i104, iPn, iPc⟩ := hI
  have sw6 := st6_sw (a := a) i35.1 i104.1 i95 rfl rfl rfl rfl rfl rfl (iPn 3 (by decide) (by decide)) (iPn 4 (by decide) (by decide))
  refine ⟨?_, ?_, ?_⟩
  · rw [sw6.1]; (repeat' split) <;> omega
  · rw [sw6.2.1]; (repeat' split) <;> omega
  · rw [sw6.2.2.1]
    have h := @ntN_r
    unfold ntN; split <;> omega
theorem stp_est {a : Int → Int} {B : Int} (hI : Inv a B) : (∀ k : Int, 0 ≤ k → k < 24 → -40000 ≤ sh (st2 a) 36 k ∧ sh (st2 a) 36 k ≤ 40000) ∧ (∀ k : Int, 0 ≤ k → k < 24 → -40000 ≤ sh (st2 a) 60 k ∧ sh (st2 a) 60 k ≤ 40000) ∧ (∀ j : Int, 84 ≤ j → j ≤ 87 → -51000 ≤ st3 a j ∧ st3 a j ≤ 51000) := by
  have rb := ramp_b hI
  obtain ⟨iP, i4, iR, iE, iN, ⟨i21, i22, i23, i24, i25, i26, i27, i28⟩, iD, iW, i35, iS, iM, i90, i91, i94, i95, i96, i97, iT, iK, i104, iPn, iPc⟩ := hI
  have g35 : 0 ≤ a 35 := i35.1
  have v2 : ∀ k : Int, 0 ≤ k → k < 24 → -40000 ≤ sh (st2 a) 36 k ∧ sh (st2 a) 36 k ≤ 40000 := fun k h0 h1 => by rw [st2_V g35 ⟨h0, h1⟩]; exact win_b (fun k h0 h1 => iS (36 + k) (by omega) (by omega)) (tmod_r g35 (by decide)).1 (smpF_b (rb 0 (by decide)) (rb 1 (by decide))) k h0 h1
  have u2 : ∀ k : Int, 0 ≤ k → k < 24 → -40000 ≤ sh (st2 a) 60 k ∧ sh (st2 a) 60 k ≤ 40000 := fun k h0 h1 => by rw [st2_U g35 ⟨h0, h1⟩]; exact win_b (fun k h0 h1 => iS (60 + k) (by omega) (by omega)) (tmod_r g35 (by decide)).1 (smpF_b (rb 2 (by decide)) (rb 3 (by decide))) k h0 h1
  refine ⟨v2, u2, fun j h1 h2 => ?_⟩
  rcases (show j = 84 ∨ j = 85 ∨ j = 86 ∨ j = 87 by omega) with rfl | rfl | rfl | rfl
  · rw [st3_84]; exact eA_b v2
  · rw [st3_85]; exact eB_b v2
  · rw [st3_86]; exact eA_b u2
  · rw [st3_87]; exact eB_b u2
theorem stp_inv {a : Int → Int} {B : Int} (hI : Inv a B) : Inv (stp a) (B + 1) := by
  have rb := ramp_b hI
  have sw := st6_104 hI
  obtain ⟨v2, u2, e3⟩ := stp_est hI
  obtain ⟨iP, i4, iR, iE, iN, ⟨i21, i22, i23, i24, i25, i26, i27, i28⟩, iD, iW, i35, iS, iM, i90, i91, i94, i95, i96, i97, iT, iK, i104, iPn, iPc⟩ := hI
  have g35 : 0 ≤ a 35 := i35.1
  have g104 : 0 ≤ a 104 := i104.1
  have h6 : 0 ≤ st6 a 104 := sw.2.2.1
  have o : ∀ j : Int, (5 ≤ j ∧ j ≤ 34) ∨ 225 ≤ j → stp a j = a j := fun j hj => stp_o g35 g104 h6 hj
  have o3 : ∀ j : Int, ¬ (0 ≤ j ∧ j ≤ 4) ∧ ¬ (36 ≤ j ∧ j ≤ 87) → st3 a j = a j := fun j hj => by rw [st3_o (by omega), st2_o g35 (by omega)]
  have et := st8_t h6
  have ep := pks_3 h6
  have kr : ∀ i : Int, pkA (st6 a) i = 0 ∨ pkA (st6 a) i = 1 := fun i => pkv_r _ _ _ _ _ _ _ _ _
  have lg := stp_log g35 g104 h6 rfl rfl rfl rfl rfl
  refine ⟨fun j h1 h2 => ?_, ?_, fun j h1 h2 => ?_, ?_, fun j h1 h2 => ?_, ⟨?_, ?_, ?_, ?_, ?_, ?_, ?_, ?_⟩, fun j h1 h2 => ?_, fun j h1 h2 => ?_, ?_, fun j h1 h2 => ?_, fun j h1 h2 => ?_, ?_, ?_, ?_, ?_, ?_, ?_, fun j h1 h2 => ?_, fun j h1 h2 => ?_, ?_, fun p h1 h2 => ?_, fun p k h1 h2 h3 h4 => ?_⟩
  · rw [stp_2 g35 g104 h6 (by omega), st2_r g35 (by omega)]; exact rb j ⟨h1, h2⟩
  · rw [o 5 (by decide), stp_2 g35 g104 h6 (by decide), st2_r g35 (by decide)]
    by_cases h4 : 0 < a 4
    · rw [ramp_4 h4]; omega
    · rw [ramp_n h4]; exact i4
  · rw [o j (by omega)]; exact iR j h1 h2
  · rw [o 14 (by decide)]; exact iE
  · rw [o j (by omega)]; exact iN j h1 h2
  · rw [o 21 (by decide)]; exact i21
  · rw [o 22 (by decide)]; exact i22
  · rw [o 23 (by decide)]; exact i23
  · rw [o 24 (by decide)]; exact i24
  · rw [o 25 (by decide)]; exact i25
  · rw [o 26 (by decide)]; exact i26
  · rw [o 27 (by decide)]; exact i27
  · rw [o 28 (by decide)]; exact i28
  · rw [o j (by omega)]; exact iD j h1 h2
  · rw [o j (by omega)]; exact iW j h1 h2
  · rw [stp_35]; omega
  · rw [stp_2 g35 g104 h6 (by omega)]
    by_cases q : j < 60
    · have := v2 (j - 36) (by omega) (by omega); unfold sh at this; rw [show 36 + (j - 36) = j by omega] at this; exact this
    · have := u2 (j - 60) (by omega) (by omega); unfold sh at this; rw [show 60 + (j - 60) = j by omega] at this; exact this
  · by_cases q : j ≤ 87
    · rw [stp_3 g35 g104 h6 ⟨h1, q⟩]; exact e3 j h1 q
    · have m := rem_b2 (st3 a) (e3 84 (by decide) (by decide)) (e3 85 (by decide) (by decide)) (by rw [o3 88 (by decide)]; exact iM 88 (by decide) (by decide)) (by rw [o3 89 (by decide)]; exact iM 89 (by decide) (by decide))
      rw [stp_r g35 g104 h6 (by omega)]
      rcases (show j = 88 ∨ j = 89 by omega) with rfl | rfl
      · exact m.1
      · exact m.2
  · have m := rem_b (st3 a) i90.1 (by rw [o3 90 (by decide)])
    rw [stp_r g35 g104 h6 (by decide)]; omega
  · rw [stp_5 g35 g104 h6 (by decide), st5_91]; exact b01_r _
  · rw [stp_6 h6 (by decide)]; omega
  · rw [stp_6 h6 (by decide)]; exact sw.2.1
  · rw [stp_5 g35 g104 h6 (by decide), st5_96]; exact b01_r _
  · rw [stp_97 h6, ripA_8 g35 g104 h6]; exact rip_r i97
  · have q : ∀ j : Int, 98 ≤ j ∧ j ≤ 100 → st6 a j = a j := fun j hj => by rw [st6_o g35 g104 (by omega), st5_o g35 (by omega)]
    rw [stp_8 h6 (by omega)]
    have u := iT j h1 h2
    rcases (show j = 98 ∨ j = 99 ∨ j = 100 by omega) with rfl | rfl | rfl
    · rw [et.1, q 98 (by decide)]; split <;> omega
    · rw [et.2.1, q 99 (by decide)]; split <;> omega
    · rw [et.2.2, q 100 (by decide)]; split <;> omega
  · rw [stp_8 h6 (by omega), st8_f (by omega)]
    rcases (show j = 101 ∨ j = 102 ∨ j = 103 by omega) with rfl | rfl | rfl
    · rw [ep.1]; exact kr 0
    · rw [ep.2.1]; exact kr 1
    · rw [ep.2.2.1]; exact kr 2
  · rw [lg.1]; unfold ntN; (repeat' split) <;> omega
  · rw [o _ (by omega)]; exact iPn p h1 h2
  · rw [o _ (by omega), o _ (by omega)]; exact iPc p k h1 h2 h3 h4
theorem stp_IR {a : Int → Int} {B : Int} (hI : Inv a B) : IR (stp a) (ptX (st3 a)) (ptY (st3 a)) (ptD (st3 a)) := by
  have sw := st6_104 hI
  have e3 := (stp_est hI).2.2
  have qp := pt_b e3
  obtain ⟨iP, i4, iR, iE, iN, ⟨i21, i22, i23, i24, i25, i26, i27, i28⟩, iD, iW, i35, iS, iM, i90, i91, i94, i95, i96, i97, iT, iK, i104, iPn, iPc⟩ := hI
  have g35 : 0 ≤ a 35 := i35.1
  have g104 : 0 ≤ a 104 := i104.1
  have h6 : 0 ≤ st6 a 104 := sw.2.2.1
  intro h
  rw [stp_5 g35 g104 h6 (by decide), st5_91, b01_1] at h
  have l := st5_ld a
  have hd : 0 < ptD (st3 a) := by
    have e : st3 a 21 = a 21 := by rw [st3_o (by decide), st2_o g35 (by decide)]
    have hp : 0 < a 21 * a 21 := Int.mul_pos (by omega) (by omega)
    unfold hasP at h; rw [e] at h
    have := of_decide_eq_true h
    omega
  refine ⟨⟨hd, qp.2.2.2⟩, qp.1, qp.2.1, ?_, ?_⟩
  · rw [stp_5 g35 g104 h6 (by decide)]; unfold st5; rw [imp_92, l.2.2.2.1, if_pos h, l.1, l.2.2.1]
  · rw [stp_5 g35 g104 h6 (by decide)]; unfold st5; rw [imp_93, l.2.2.2.1, if_pos h, l.2.1, l.2.2.1]
theorem Inv_up {a : Int → Int} {B C : Int} (hI : Inv a B) (h : B ≤ C) : Inv a C := by
  obtain ⟨iP, i4, iR, iE, iN, i2, iD, iW, i35, iS, iM, i90, i91, i94, i95, i96, i97, iT, iK, i104, iPn, iPc⟩ := hI
  exact ⟨iP, i4, iR, iE, iN, i2, iD, iW, by omega, iS, iM, by omega, i91, by omega, i95, i96, i97, fun j h1 h2 => by have := iT j h1 h2; omega, iK, by omega, iPn, iPc⟩
def itr : Nat → (Int → Int) → Int → Int
  | 0, a => a
  | n + 1, a => stp (itr n a)
theorem itr_inv {a : Int → Int} {B : Int} (hI : Inv a B) : ∀ n : Nat, Inv (itr n a) (B + n)
  | 0 => Inv_up hI (by omega)
  | n + 1 => by have := stp_inv (itr_inv hI n); exact Inv_up this (by omega)
/-- samples until it is tripped: r more at most, p have passed -/
def utR : Nat → Int → (Int → Int) → Int
  | 0, p, a => if a 97 = -6 then -6 else p
  | r + 1, p, a => if a 97 = -6 then utR r (p + 1) (stp a) else p
def utS : Nat → (Int → Int) → Int → Int
  | 0, a => a
  | r + 1, a => if a 97 = -6 then utS r (stp a) else a
theorem utS_inv : ∀ (r : Nat) {a : Int → Int} {B : Int}, Inv a B → Inv (utS r a) (B + r)
  | 0, _, _, h => Inv_up h (by omega)
  | r + 1, a, B, h => by
    unfold utS; split
    · exact Inv_up (utS_inv r (stp_inv h)) (by omega)
    · exact Inv_up h (by omega)
theorem utS_n {r : Nat} {a : Int → Int} (h : ¬ a 97 = -6) : utS r a = a := by cases r with
  | zero => rfl
  | succ r => unfold utS; rw [if_neg h]
theorem utR_n {r : Nat} {p : Int} {a : Int → Int} (h : ¬ a 97 = -6) : utR r p a = p := by cases r with
  | zero => unfold utR; rw [if_neg h]
  | succ r => unfold utR; rw [if_neg h]
theorem utS_s {r r' : Nat} {a : Int → Int} (hr : r' = r + 1) (h : a 97 = -6) : utS r' a = utS r (stp a) := by subst hr; rw [utS, if_pos h]
theorem utR_s {r r' : Nat} {p : Int} {a : Int → Int} (hr : r' = r + 1) (h : a 97 = -6) : utR r' p a = utR r (p + 1) (stp a) := by subst hr; rw [utR, if_pos h]
theorem utR_0 {r : Nat} {p : Int} {a : Int → Int} (hr : r = 0) (h : a 97 = -6) : utR r p a = -6 := by subst hr; unfold utR; rw [if_pos h]
theorem utS_0 {r : Nat} {a : Int → Int} (hr : r = 0) : utS r a = a := by subst hr; rfl
/-- a new relay -/
def ini (j : Int) : Int := if j = 14 then 10000 else if j = 15 then 100 else if j = 16 then 1000 else if j = 17 then 500 else if j = 18 then 3000 else if j = 19 then 20000 else if j = 20 then 5000 else if j = 21 then 100 else if j = 22 then 1000 else if j = 23 then 48 else if j = 24 then 20000 else if j = 25 then 500 else if j = 27 then 24 else if j = 29 then 4 else if j = 30 then 480 else if j = 31 then 1200 else if j = 97 then -6 else 0
theorem ini_0 {j : Int} (h : ¬ (14 ≤ j ∧ j ≤ 31) ∧ ¬ j = 97) : ini j = 0 := by unfold ini; (repeat' split) <;> omega
theorem ini_inv : Inv ini 0 := by
  refine ⟨fun j h1 h2 => ?_, by decide, fun j h1 h2 => ?_, by decide, fun j h1 h2 => ?_, by decide, fun j h1 h2 => ?_, fun j h1 h2 => ?_, by decide, fun j h1 h2 => ?_, fun j h1 h2 => ?_, by decide, by decide, by decide, by decide, by decide, by decide, fun j h1 h2 => ?_, fun j h1 h2 => ?_, by decide, fun p h1 h2 => ?_, fun p k h1 h2 h3 h4 => ?_⟩
  · rw [ini_0 (by omega)]; decide
  · rw [ini_0 (by omega)]; decide
  · rcases (show j = 15 ∨ j = 16 ∨ j = 17 ∨ j = 18 ∨ j = 19 ∨ j = 20 by omega) with rfl | rfl | rfl | rfl | rfl | rfl <;> decide
  · rcases (show j = 29 ∨ j = 30 ∨ j = 31 by omega) with rfl | rfl | rfl <;> decide
  · rw [ini_0 (by omega)]; decide
  · rw [ini_0 (by omega)]; decide
  · rw [ini_0 (by omega)]; decide
  · rw [ini_0 (by omega)]; decide
  · rw [ini_0 (by omega)]; exact Or.inl rfl
  · rw [ini_0 (by omega)]; decide
  · rw [ini_0 (by omega), ini_0 (by omega)]; decide
theorem pq_mk {R : Nat → Nat} : va_up (va_up (va_up (va_up (va_up (fun _ => none) 0 (some (R 2))) 1 (some (R 5))) 2 (some (R 8))) 3 (some (R 11))) 4 (some (R 14)) = pq R := by
  funext i; match i with
  | 0 => rfl
  | 1 => rfl
  | 2 => rfl
  | 3 => rfl
  | 4 => rfl
  | n + 5 => unfold pq; rw [if_neg (by omega)]; unfold va_up; simp
theorem zq_mk {R : Nat → Nat} : va_up (va_up (va_up (fun _ => none) 0 (some (R 19))) 1 (some (R 20))) 2 (some (R 21)) = zq R := by
  funext i; match i with
  | 0 => rfl
  | 1 => rfl
  | 2 => rfl
  | n + 3 => unfold zq; rw [if_neg (by omega)]; unfold va_up; simp
theorem up8 {f g : Int → Int} (h : ∀ n : Nat, n < 8 → f n = g n) {k : Int} (h0 : 0 ≤ k) (h1 : k < 8) : f k = g k := by have := h k.toNat (by omega); rw [show ((k.toNat : Nat) : Int) = k by omega] at this; exact this
theorem IR_0 {a : Int → Int} {x y d : Int} (h : a 91 = 0) : IR a x y d := fun q => absurd q (by omega)
