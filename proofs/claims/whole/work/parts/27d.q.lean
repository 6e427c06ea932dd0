/-! the ranges of a row, place by place -/
def rg (B j v : Int) : Prop :=
  (0 ≤ j ∧ j < 4 → cb v) ∧ (j = 4 → 0 ≤ v) ∧ (j = 5 → v ≤ 2400) ∧ (6 ≤ j ∧ j < 14 → cb v) ∧ (j = 14 → 1 ≤ v ∧ v ≤ 20000) ∧ (15 ≤ j ∧ j < 21 → 0 ≤ v ∧ v ≤ 20000) ∧
  (j = 21 → 1 ≤ v ∧ v ≤ 20000) ∧ (j = 22 → 0 ≤ v ∧ v ≤ 20000) ∧ (j = 23 → 0 ≤ v ∧ v ≤ 1000) ∧ (j = 24 → 0 ≤ v ∧ v ≤ 20000) ∧ (j = 25 → 0 ≤ v ∧ v ≤ 10000) ∧ (j = 26 → 0 ≤ v ∧ v ≤ 7) ∧ (j = 27 → 1 ≤ v ∧ v ≤ 1000) ∧ (j = 28 → 0 ≤ v ∧ v ≤ 7) ∧
  (29 ≤ j ∧ j < 32 → 1 ≤ v ∧ v ≤ 2400) ∧ (32 ≤ j ∧ j < 35 → 0 ≤ v ∧ v ≤ 2) ∧ (j = 35 → 0 ≤ v ∧ v ≤ B) ∧ (36 ≤ j ∧ j < 84 → -40000 ≤ v ∧ v ≤ 40000) ∧ (84 ≤ j ∧ j < 90 → -51000 ≤ v ∧ v ≤ 51000) ∧
  (j = 90 → 0 ≤ v ∧ v ≤ B) ∧ (j = 91 → v = 0 ∨ v = 1) ∧ (j = 94 → 0 ≤ v ∧ v ≤ B) ∧ (j = 95 → v = 0 ∨ v = 1) ∧ (j = 96 → v = 0 ∨ v = 1) ∧ (j = 97 → v = -6 ∨ (0 ≤ v ∧ v ≤ 2)) ∧
  (98 ≤ j ∧ j < 101 → 0 ≤ v ∧ v ≤ B) ∧ (101 ≤ j ∧ j < 104 → v = 0 ∨ v = 1) ∧ (j = 104 → 0 ≤ v ∧ v ≤ 5 * B) ∧
  ((j = 225 ∨ j = 242 ∨ j = 259 ∨ j = 276 ∨ j = 293) → 0 ≤ v ∧ v ≤ 8) ∧ (226 ≤ j ∧ j < 310 ∧ ¬ (j = 242 ∨ j = 259 ∨ j = 276 ∨ j = 293) → cb v)
theorem Inv_rg {a : Int → Int} {B : Int} (hI : Inv a B) (j : Int) : rg B j (a j) := by
  obtain ⟨iP, i4, iR, iE, iN, ⟨i21, i22, i23, i24, i25, i26, i27, i28⟩, iD, iW, i35, iS, iM, i90, i91, i94, i95, i96, i97, iT, iK, i104, iPn, iPc⟩ := hI
  refine ⟨fun h => iP j h.1 h.2, fun h => by subst h; exact i4.1, fun h => by subst h; exact i4.2.2, fun h => iR j h.1 h.2, fun h => by subst h; exact iE, fun h => iN j h.1 h.2, fun h => by subst h; exact i21, fun h => by subst h; exact i22, fun h => by subst h; exact i23, fun h => by subst h; exact i24, fun h => by subst h; exact i25, fun h => by subst h; exact i26, fun h => by subst h; exact i27, fun h => by subst h; exact i28,
    fun h => iD j h.1 h.2, fun h => iW j h.1 h.2, fun h => by subst h; exact i35, fun h => iS j h.1 h.2, fun h => iM j h.1 h.2, fun h => by subst h; exact i90, fun h => by subst h; exact i91, fun h => by subst h; exact i94, fun h => by subst h; exact i95, fun h => by subst h; exact i96, fun h => by subst h; exact i97, fun h => iT j h.1 h.2, fun h => iK j h.1 h.2, fun h => by subst h; exact i104, fun h => ?_, fun h => ?_⟩
  · rcases h with rfl | rfl | rfl | rfl | rfl
    · exact iPn 0 (by decide) (by decide)
    · exact iPn 1 (by decide) (by decide)
    · exact iPn 2 (by decide) (by decide)
    · exact iPn 3 (by decide) (by decide)
    · exact iPn 4 (by decide) (by decide)
  · have q := iPc ((j - 225) / 17) (((j - 225) % 17 - 1) / 2) (by omega) (by omega) (by omega) (by omega)
    by_cases e : (j - 225) % 17 % 2 = 1
    · rw [show 226 + 17 * ((j - 225) / 17) + 2 * (((j - 225) % 17 - 1) / 2) = j by omega] at q; exact q.1
    · rw [show 227 + 17 * ((j - 225) / 17) + 2 * (((j - 225) % 17 - 1) / 2) = j by omega] at q; exact q.2
theorem rg_Inv {a : Int → Int} {B : Int} (h : ∀ j : Int, rg B j (a j)) (h45 : a 4 ≤ a 5) : Inv a B := by
  have g : ∀ j : Int, rg B j (a j) := h
  unfold rg at g
  refine ⟨fun j h1 h2 => (g j).1 ⟨h1, h2⟩, ⟨(g 4).2.1 rfl, h45, (g 5).2.2.1 rfl⟩, fun j h1 h2 => (g j).2.2.2.1 ⟨h1, h2⟩, (g 14).2.2.2.2.1 rfl, fun j h1 h2 => (g j).2.2.2.2.2.1 ⟨h1, h2⟩,
    ⟨(g 21).2.2.2.2.2.2.1 rfl, (g 22).2.2.2.2.2.2.2.1 rfl, (g 23).2.2.2.2.2.2.2.2.1 rfl, (g 24).2.2.2.2.2.2.2.2.2.1 rfl, (g 25).2.2.2.2.2.2.2.2.2.2.1 rfl, (g 26).2.2.2.2.2.2.2.2.2.2.2.1 rfl, (g 27).2.2.2.2.2.2.2.2.2.2.2.2.1 rfl, (g 28).2.2.2.2.2.2.2.2.2.2.2.2.2.1 rfl⟩,
    fun j h1 h2 => (g j).2.2.2.2.2.2.2.2.2.2.2.2.2.2.1 ⟨h1, h2⟩, fun j h1 h2 => (g j).2.2.2.2.2.2.2.2.2.2.2.2.2.2.2.1 ⟨h1, h2⟩, (g 35).2.2.2.2.2.2.2.2.2.2.2.2.2.2.2.2.1 rfl, fun j h1 h2 => (g j).2.2.2.2.2.2.2.2.2.2.2.2.2.2.2.2.2.1 ⟨h1, h2⟩, fun j h1 h2 => (g j).2.2.2.2.2.2.2.2.2.2.2.2.2.2.2.2.2.2.1 ⟨h1, h2⟩,
    (g 90).2.2.2.2.2.2.2.2.2.2.2.2.2.2.2.2.2.2.2.1 rfl, (g 91).2.2.2.2.2.2.2.2.2.2.2.2.2.2.2.2.2.2.2.2.1 rfl, (g 94).2.2.2.2.2.2.2.2.2.2.2.2.2.2.2.2.2.2.2.2.2.1 rfl, (g 95).2.2.2.2.2.2.2.2.2.2.2.2.2.2.2.2.2.2.2.2.2.2.1 rfl, (g 96).2.2.2.2.2.2.2.2.2.2.2.2.2.2.2.2.2.2.2.2.2.2.2.1 rfl, (g 97).2.2.2.2.2.2.2.2.2.2.2.2.2.2.2.2.2.2.2.2.2.2.2.2.1 rfl,
    fun j h1 h2 => (g j).2.2.2.2.2.2.2.2.2.2.2.2.2.2.2.2.2.2.2.2.2.2.2.2.2.1 ⟨h1, h2⟩, fun j h1 h2 => (g j).2.2.2.2.2.2.2.2.2.2.2.2.2.2.2.2.2.2.2.2.2.2.2.2.2.2.1 ⟨h1, h2⟩, (g 104).2.2.2.2.2.2.2.2.2.2.2.2.2.2.2.2.2.2.2.2.2.2.2.2.2.2.2.1 rfl, fun p h1 h2 => ?_, fun p k h1 h2 h3 h4 => ⟨?_, ?_⟩⟩
  · exact (g (225 + 17 * p)).2.2.2.2.2.2.2.2.2.2.2.2.2.2.2.2.2.2.2.2.2.2.2.2.2.2.2.2.1 (by omega)
  · exact (g (226 + 17 * p + 2 * k)).2.2.2.2.2.2.2.2.2.2.2.2.2.2.2.2.2.2.2.2.2.2.2.2.2.2.2.2.2 (by omega)
  · exact (g (227 + 17 * p + 2 * k)).2.2.2.2.2.2.2.2.2.2.2.2.2.2.2.2.2.2.2.2.2.2.2.2.2.2.2.2.2 (by omega)
theorem rg_ua {a : Int → Int} {B i v : Int} (h : ∀ j : Int, rg B j (a j)) (hv : rg B i v) (j : Int) : rg B j (ua a i v j) := by
  unfold ua; split
  · rename_i e; subst e; exact hv
  · exact h j
theorem cb_rg {B i v : Int} (hv : cb v) (hi : (0 ≤ i ∧ i < 4) ∨ (6 ≤ i ∧ i < 14)) : rg B i v := by unfold rg; (repeat' (first | apply And.intro | intro _)) <;> omega
theorem cb_rg2 {B i v : Int} (hv : cb v) (hi : 226 ≤ i ∧ i < 310 ∧ ¬ (i = 242 ∨ i = 259 ∨ i = 276 ∨ i = 293)) : rg B i v := by unfold rg; (repeat' (first | apply And.intro | intro _)) <;> omega
theorem inv_jmp {a : Int → Int} {B va vb ia ib : Int} (hI : Inv a B) (h0 : cb va) (h1 : cb vb) (h2 : cb ia) (h3 : cb ib) : Inv (s_jmp a va vb ia ib) B := by
  refine rg_Inv (fun j => ?_) ?_
  · unfold s_jmp
    exact rg_ua (rg_ua (rg_ua (rg_ua (rg_ua (Inv_rg hI) (cb_rg h0 (by omega))) (cb_rg h1 (by omega))) (cb_rg h2 (by omega))) (cb_rg h3 (by omega))) (by unfold rg; (repeat' (first | apply And.intro | intro _)) <;> omega) j
  · have := hI.2.1; unfold s_jmp; rw [ua_eq, ua_ne (by decide), ua_ne (by decide), ua_ne (by decide), ua_ne (by decide), ua_ne (by decide)]; omega
theorem inv_rst {a : Int → Int} {B : Int} (hI : Inv a B) : Inv (s_rst a) B := by
  have hB : 0 ≤ B := by have := hI.2.2.2.2.2.2.2.2.1; omega
  refine rg_Inv (fun j => ?_) ?_
  · unfold s_rst
    refine rg_ua (rg_ua (rg_ua (rg_ua (Inv_rg hI) ?_) ?_) ?_) ?_ j <;> (unfold rg; (repeat' (first | apply And.intro | intro _)) <;> omega)
  · rw [rst_o (by decide), rst_o (by decide)]; exact hI.2.1.2.1
theorem inv_app {a : Int → Int} {B p x y : Int} (hI : Inv a B) (hp : 0 ≤ p ∧ p ≤ 4) (hn : 0 ≤ a (225 + 17 * p) ∧ a (225 + 17 * p) ≤ 7) (hx : cb x) (hy : cb y) : Inv (s_app a p x y) B := by
  refine rg_Inv (fun j => ?_) ?_
  · unfold s_app
    exact rg_ua (rg_ua (rg_ua (Inv_rg hI) (cb_rg2 hx (by omega))) (cb_rg2 hy (by omega))) (by unfold rg; (repeat' (first | apply And.intro | intro _)) <;> omega) j
  · rw [app_o hp hn (by omega), app_o hp hn (by omega)]; exact hI.2.1.2.1
theorem inv_clr {a : Int → Int} {B p : Int} (hI : Inv a B) (hp : 0 ≤ p ∧ p ≤ 4) : Inv (ua a (225 + 17 * p) 0) B := by
  refine rg_Inv (fun j => rg_ua (Inv_rg hI) (by unfold rg; (repeat' (first | apply And.intro | intro _)) <;> omega) j) ?_
  rw [ua_ne (by omega), ua_ne (by omega)]; exact hI.2.1.2.1
theorem inv_corner {a : Int → Int} {B p x y : Int} (hI : Inv a B) : Inv (n_corner a p x y) B := by
  unfold n_corner; split
  · rename_i h
    have := hI.2.2.2.2.2.2.2.2.2.2.2.2.2.2.2.2.2.2.2.2.1 p h.1.1 (by omega)
    exact inv_app hI h.1 (by omega) h.2.1.1 h.2.1.2
  · exact hI
theorem inv_clear {a : Int → Int} {B p : Int} (hI : Inv a B) : Inv (n_clear a p) B := by
  unfold n_clear; split
  · rename_i h; exact inv_clr hI h
  · exact hI
theorem inv_set {a : Int → Int} {B s v : Int} (hI : Inv a B) : Inv (n_set a s v) B := by
  unfold n_set; split
  · rename_i h
    have h8 : s = 0 ∨ s = 1 ∨ s = 2 ∨ s = 3 ∨ s = 4 ∨ s = 5 ∨ s = 6 ∨ s = 7 := by omega
    have hv := h.2
    refine rg_Inv (fun j => rg_ua (Inv_rg hI) ?_ j) (by rw [ua_ne (by omega), ua_ne (by omega)]; exact hI.2.1.2.1)
    rcases h8 with rfl | rfl | rfl | rfl | rfl | rfl | rfl | rfl
    · have hv : (1 : Int) ≤ v ∧ v ≤ 20000 := hv
      unfold rg; (repeat' (first | apply And.intro | intro _)) <;> omega
    · have hv : (0 : Int) ≤ v ∧ v ≤ 20000 := hv
      unfold rg; (repeat' (first | apply And.intro | intro _)) <;> omega
    · have hv : (0 : Int) ≤ v ∧ v ≤ 1000 := hv
      unfold rg; (repeat' (first | apply And.intro | intro _)) <;> omega
    · have hv : (0 : Int) ≤ v ∧ v ≤ 20000 := hv
      unfold rg; (repeat' (first | apply And.intro | intro _)) <;> omega
    · have hv : (0 : Int) ≤ v ∧ v ≤ 10000 := hv
      unfold rg; (repeat' (first | apply And.intro | intro _)) <;> omega
    · have hv : (0 : Int) ≤ v ∧ v ≤ 7 := hv
      unfold rg; (repeat' (first | apply And.intro | intro _)) <;> omega
    · have hv : (1 : Int) ≤ v ∧ v ≤ 1000 := hv
      unfold rg; (repeat' (first | apply And.intro | intro _)) <;> omega
    · have hv : (0 : Int) ≤ v ∧ v ≤ 7 := hv
      unfold rg; (repeat' (first | apply And.intro | intro _)) <;> omega
  · exact hI
theorem inv_zone {a : Int → Int} {B z d w : Int} (hI : Inv a B) : Inv (n_zone a z d w) B := by
  unfold n_zone; split
  · rename_i h
    refine rg_Inv (fun j => rg_ua (rg_ua (Inv_rg hI) ?_) ?_ j) (by rw [ua_ne (by omega), ua_ne (by omega), ua_ne (by omega), ua_ne (by omega)]; exact hI.2.1.2.1) <;> (unfold rg; (repeat' (first | apply And.intro | intro _)) <;> omega)
  · exact hI
theorem inv_apply {a : Int → Int} {B va vb ia ib : Int} (hI : Inv a B) : Inv (n_apply a va vb ia ib) B := by
  unfold n_apply; split
  · rename_i h; exact inv_jmp hI h.1 h.2.1 h.2.2.1 h.2.2.2
  · exact hI
theorem inv_ramp {a : Int → Int} {B m va vb ia ib : Int} (hI : Inv a B) : Inv (n_ramp a m va vb ia ib) B := by
  unfold n_ramp; split
  · rename_i h
    have i0 := hI.1 0 (by decide) (by decide); have i1 := hI.1 1 (by decide) (by decide); have i2 := hI.1 2 (by decide) (by decide); have i3 := hI.1 3 (by decide) (by decide)
    unfold s_bgn
    refine rg_Inv (fun j => ?_) (by rw [ua_ne (by decide), ua_eq, ua_eq]; omega)
    exact rg_ua (rg_ua (rg_ua (rg_ua (rg_ua (rg_ua (rg_ua (rg_ua (rg_ua (rg_ua (Inv_rg hI) (cb_rg i0 (by omega))) (cb_rg i1 (by omega))) (cb_rg i2 (by omega))) (cb_rg i3 (by omega))) (cb_rg h.2.1 (by omega))) (cb_rg h.2.2.1 (by omega))) (cb_rg h.2.2.2.1 (by omega))) (cb_rg h.2.2.2.2 (by omega))) (by unfold rg; (repeat' (first | apply And.intro | intro _)) <;> omega)) (by unfold rg; (repeat' (first | apply And.intro | intro _)) <;> omega) j
  · exact hI
theorem inv_net {a : Int → Int} {B p r x : Int} (hI : Inv a B) : Inv (n_net a p r x) B := by
  have h45 : n_net a p r x 4 ≤ n_net a p r x 5 := by rw [net_o (by decide), net_o (by decide)]; exact hI.2.1.2.1
  refine rg_Inv ?_ h45
  unfold n_net; split
  · split
    · exact rg_ua (Inv_rg hI) (by unfold rg; (repeat' (first | apply And.intro | intro _)) <;> omega)
    · exact rg_ua (rg_ua (Inv_rg hI) (by unfold rg; (repeat' (first | apply And.intro | intro _)) <;> omega)) (by unfold rg; (repeat' (first | apply And.intro | intro _)) <;> omega)
  · exact Inv_rg hI
theorem inv_sol {a : Int → Int} {B r x : Int} (hI : Inv a B) : Inv (s_sol a r x) B := by unfold s_sol; exact inv_jmp hI (lim_r _) (lim_r _) (lim_r _) (lim_r _)
theorem inv_fault {a : Int → Int} {B p q : Int} (hI : Inv a B) : Inv (n_fault a p q) B := by
  unfold n_fault; split
  · exact inv_sol hI
  · exact hI
theorem inv_heal {a : Int → Int} {B : Int} (hI : Inv a B) : Inv (n_heal a) B := by
  unfold n_heal; split
  · exact hI
  · exact inv_sol hI
theorem inv_pass {a : Int → Int} {B m : Int} (hI : Inv a B) : Inv (n_pass a m) (B + 5000) := by
  unfold n_pass; split
  · exact Inv_up (itr_inv hI m.toNat) (by omega)
  · exact Inv_up hI (by omega)
/-! a test -/
def s_t0 (a : Int → Int) : Int → Int := s_jmp (s_rst a) (sVa a (a 17 + a 19) (a 18 + a 20)) (sVb a (a 17 + a 19) (a 18 + a 20)) (sIa a (a 17 + a 19) (a 18 + a 20)) (sIb a (a 17 + a 19) (a 18 + a 20))
theorem inv_t0 {a : Int → Int} {B : Int} (hI : Inv a B) : Inv (s_t0 a) B := inv_jmp (inv_rst hI) (lim_r _) (lim_r _) (lim_r _) (lim_r _)
theorem t0_o {a : Int → Int} {j : Int} (h : ¬ (0 ≤ j ∧ j ≤ 4) ∧ ¬ (97 ≤ j ∧ j ≤ 100)) : s_t0 a j = a j := (jmp_o (by omega)).trans (rst_o (by omega))
theorem itr_o {a : Int → Int} {B : Int} (hI : Inv a B) {j : Int} : ∀ n : Nat, ((5 ≤ j ∧ j ≤ 34) ∨ 225 ≤ j) → itr n a j = a j
  | 0, _ => rfl
  | n + 1, h => by
    have iI := itr_inv hI n
    have sw := st6_104 iI
    show stp (itr n a) j = a j
    rw [stp_o iI.2.2.2.2.2.2.2.2.1.1 iI.2.2.2.2.2.2.2.2.2.2.2.2.2.2.2.2.2.2.2.1.1 sw.2.2.1 h]
    exact itr_o hI n h
theorem sol_rst (a : Int → Int) : s_jmp (s_rst a) (sVa a (a 17 + a 19) (a 18 + a 20)) (sVb a (a 17 + a 19) (a 18 + a 20)) (sIa a (a 17 + a 19) (a 18 + a 20)) (sIb a (a 17 + a 19) (a 18 + a 20)) = s_sol (s_rst a) (s_rst a 17 + s_rst a 19) (s_rst a 18 + s_rst a 20) := rfl
theorem sol_e {a b : Int → Int} {r x : Int} (h : ∀ j : Int, 14 ≤ j → j ≤ 20 → b j = a j) : s_sol b r x = s_jmp b (sVa a r x) (sVb a r x) (sIa a r x) (sIb a r x) := by
  unfold s_sol sVa sVb sIa sIb; rw [h 14 (by decide) (by decide), h 15 (by decide) (by decide), h 16 (by decide) (by decide)]
theorem fz_e {a b : Int → Int} {p q : Int} (h : ∀ j : Int, 14 ≤ j → j ≤ 20 → b j = a j) : fzR b p q = fzR a p q ∧ fzX b p = fzX a p := by
  unfold fzR fzX; rw [h 17 (by decide) (by decide), h 18 (by decide) (by decide)]; exact ⟨rfl, rfl⟩
theorem t48_o {a : Int → Int} {B : Int} (hI : Inv a B) (j : Int) (h1 : 14 ≤ j) (h2 : j ≤ 20) : itr 48 (s_t0 a) j = a j := (itr_o (inv_t0 hI) 48 (by omega)).trans (t0_o (by omega))
theorem sol_tst {a : Int → Int} {B p q : Int} (hI : Inv a B) : s_tst a p q = s_sol (itr 48 (s_t0 a)) (fzR (itr 48 (s_t0 a)) p q) (fzX (itr 48 (s_t0 a)) p) := by
  have h := t48_o hI
  rw [(fz_e (p := p) (q := q) h).1, (fz_e (p := p) (q := q) h).2, sol_e h]; rfl
theorem inv_tst {a : Int → Int} {B p q : Int} (hI : Inv a B) : Inv (s_tst a p q) (B + 48) := inv_jmp (itr_inv (inv_t0 hI) 48) (lim_r _) (lim_r _) (lim_r _) (lim_r _)
theorem stp_keep {a : Int → Int} {B : Int} (hI : Inv a B) (h : ¬ a 97 = -6) : stp a 97 = a 97 := by
  have sw := st6_104 hI
  rw [stp_97 sw.2.2.1, ripA_8 hI.2.2.2.2.2.2.2.2.1.1 hI.2.2.2.2.2.2.2.2.2.2.2.2.2.2.2.2.2.2.2.1.1 sw.2.2.1]
  unfold rip; rw [if_neg h]
theorem itr_keep {a : Int → Int} {B : Int} (hI : Inv a B) (h : ¬ a 97 = -6) : ∀ n : Nat, itr n a 97 = a 97
  | 0 => rfl
  | n + 1 => by
    have e := itr_keep hI h n
    show stp (itr n a) 97 = a 97
    rw [stp_keep (itr_inv hI n) (by rw [e]; exact h), e]
theorem itr_c (a : Int → Int) : ∀ n : Nat, itr n (stp a) = stp (itr n a)
  | 0 => rfl
  | n + 1 => by show stp (itr n (stp a)) = stp (stp (itr n a)); rw [itr_c a n]
theorem utS_itr : ∀ (n : Nat) {a : Int → Int} {B : Int}, Inv a B → (utS n a 97 = -6 → utS n a = itr n a) ∧ (¬ utS n a 97 = -6 → itr n a 97 = utS n a 97)
  | 0, a, B, hI => ⟨fun _ => rfl, fun _ => rfl⟩
  | n + 1, a, B, hI => by
    by_cases h : a 97 = -6
    · have r := utS_itr n (stp_inv hI)
      rw [utS_s rfl h]
      have e : itr (n + 1) a = itr n (stp a) := (itr_c a n).symm
      rw [e]; exact r
    · rw [utS_n h]
      exact ⟨fun q => absurd q h, fun _ => itr_keep hI h (n + 1)⟩
def s_tsC (a : Int → Int) (p q : Int) : Int → Int := s_jmp (utS 48 (s_t0 a)) (sVa a (fzR a p q) (fzX a p)) (sVb a (fzR a p q) (fzX a p)) (sIa a (fzR a p q) (fzX a p)) (sIb a (fzR a p q) (fzX a p))
theorem inv_tsC {a : Int → Int} {B p q : Int} (hI : Inv a B) : Inv (s_tsC a p q) (B + 48) := inv_jmp (utS_inv 48 (inv_t0 hI)) (lim_r _) (lim_r _) (lim_r _) (lim_r _)
theorem tst_C {a : Int → Int} {B p q : Int} (hI : Inv a B) (m : Nat) : utR m 0 (s_tst a p q) = utR m 0 (s_tsC a p q) ∧ utS m (s_tst a p q) 97 = utS m (s_tsC a p q) 97 := by
  have k := utS_itr 48 (inv_t0 hI)
  by_cases h : utS 48 (s_t0 a) 97 = -6
  · have e : s_tst a p q = s_tsC a p q := by unfold s_tsC; rw [k.1 h]; rfl
    rw [e]; exact ⟨rfl, rfl⟩
  · have e1 : s_tsC a p q 97 = utS 48 (s_t0 a) 97 := jmp_o (by decide)
    have e2 : s_tst a p q 97 = itr 48 (s_t0 a) 97 := jmp_o (by decide)
    rw [k.2 h] at e2
    rw [utR_n (by rw [e2]; exact h), utR_n (by rw [e1]; exact h), utS_n (by rw [e2]; exact h), utS_n (by rw [e1]; exact h), e1, e2]
    exact ⟨rfl, rfl⟩
theorem cov_3 {a : Int → Int} {va vb ia ib z n0 n1 n2 : Int} (h21 : 1 ≤ a 21) (h0 : bP (bP (0 < cvD ia ib ∧ a 21 * a 21 ≤ cvD ia ib) = 1 ∧ hldA a 0 (cvX va vb ia ib) (cvY va vb ia ib) (cvD ia ib) = true) = n0) (h1 : bP (bP (0 < cvD ia ib ∧ a 21 * a 21 ≤ cvD ia ib) = 1 ∧ hldA a 1 (cvX va vb ia ib) (cvY va vb ia ib) (cvD ia ib) = true) = n1) (h2 : bP (bP (0 < cvD ia ib ∧ a 21 * a 21 ≤ cvD ia ib) = 1 ∧ hldA a 2 (cvX va vb ia ib) (cvY va vb ia ib) (cvD ia ib) = true) = n2) : cov a va vb ia ib = n0 + 2 * n1 + 4 * n2 := by
  have hm : 1 * 1 ≤ a 21 * a 21 := Int.mul_le_mul h21 h21 (by decide) (by omega)
  subst h0 h1 h2
  unfold cov cv0
  by_cases q : a 21 * a 21 ≤ cvD ia ib
  · have e : bP (0 < cvD ia ib ∧ a 21 * a 21 ≤ cvD ia ib) = 1 := bP_t ⟨by omega, q⟩
    have g : ∀ b : Bool, bP (bP (0 < cvD ia ib ∧ a 21 * a 21 ≤ cvD ia ib) = 1 ∧ b = true) = b01 b := fun b => by
      rw [b01_bP]; exact bP_c ⟨fun h => h.2, fun h => ⟨e, h⟩⟩
    rw [if_pos q, g, g, g]
  · have e : ¬ bP (0 < cvD ia ib ∧ a 21 * a 21 ≤ cvD ia ib) = 1 := by rw [bP_f (fun h => q h.2)]; decide
    rw [if_neg q, bP_f (fun h => e h.1), bP_f (fun h => e h.1), bP_f (fun h => e h.1)]; rfl
theorem cvz_bi {x : Int} (h : 0 ≤ x ∧ x ≤ 7) : bi x := ⟨by omega, by omega⟩
def fth (i : Int) : Int := if i = 0 then -6 else i - 1
theorem fth_s {i : Int} (h : 0 ≤ i) : fth (i + 1) = i := by unfold fth; rw [if_neg (by omega)]; omega
def sq (u v : Option Nat) : Nat → Option Nat := fun i => if i = 0 then u else if i = 1 then v else none
theorem sqa_0 {u v : Option Nat} {q : Nat} : va_up (sq u v) (Int.toNat 0) (some q) = sq (some q) v := by
  funext i; unfold va_up sq; show (if i = 0 then _ else _) = _; split <;> rfl
theorem sqa_1 {u v : Option Nat} {q : Nat} : va_up (sq u v) (Int.toNat 1) (some q) = sq u (some q) := by
  funext i; unfold va_up sq; show (if i = 1 then _ else _) = _
  by_cases h : i = 1
  · subst h; rfl
  · rw [if_neg h, if_neg h, if_neg h]
theorem sq_n : sq none none = fun _ => none := by
  funext i; unfold sq; split
  · rfl
  · split <;> rfl
