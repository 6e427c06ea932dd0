/-! rows changed by a call: what stays -/
theorem bP_z {c : Prop} [Decidable c] : bP c = 0 ∨ bP c = 1 := by unfold bP; split <;> simp
theorem b01_bP {b : Bool} : b01 b = bP (b = true) := rfl
theorem at_e {a : Int → Int} {u v : Int} (h : u = v) : a u + 100000 = 100000 + a v := by rw [h]; omega
theorem app_o {a : Int → Int} {p x y j : Int} (hp : 0 ≤ p ∧ p ≤ 4) (hn : 0 ≤ a (225 + 17 * p) ∧ a (225 + 17 * p) ≤ 7) (h : ¬ (225 + 17 * p ≤ j ∧ j ≤ 241 + 17 * p)) : s_app a p x y j = a j := by
  unfold s_app; rw [ua_ne (by omega), ua_ne (by omega), ua_ne (by omega)]
theorem app_n {a : Int → Int} {p x y : Int} : s_app a p x y (225 + 17 * p) = a (225 + 17 * p) + 1 := by unfold s_app; exact ua_eq
theorem app_Xf {a : Int → Int} {p x y : Int} : sh2 (s_app a p x y) (226 + 17 * p) = ua (sh2 a (226 + 17 * p)) (a (225 + 17 * p)) x := by
  funext k; unfold s_app sh2 ua
  by_cases e : k = a (225 + 17 * p)
  · rw [if_neg (by omega), if_neg (by omega), if_pos (by omega), if_pos e]
  · rw [if_neg (by omega), if_neg (by omega), if_neg (by omega), if_neg e]
theorem app_X {a : Int → Int} {p x y k : Int} : sh2 (s_app a p x y) (226 + 17 * p) k = ua (sh2 a (226 + 17 * p)) (a (225 + 17 * p)) x k := congrFun app_Xf k
theorem app_Y {a : Int → Int} {p x y k : Int} (h : 0 ≤ k) : sh2 (s_app a p x y) (227 + 17 * p) k = ua (sh2 a (227 + 17 * p)) (a (225 + 17 * p)) y k := by
  unfold s_app sh2 ua
  rw [if_neg (by omega)]
  by_cases e : k = a (225 + 17 * p)
  · rw [if_pos (by omega), if_pos e]
  · rw [if_neg (by omega), if_neg (by omega), if_neg e]
theorem snd_cc {X Y X' Y' : Int → Int} {n n' : Int} (hX : ∀ k : Int, 0 ≤ k → k < 8 → X k = X' k) (hY : ∀ k : Int, 0 ≤ k → k < 8 → Y k = Y' k) (hn : n = n') (h : 0 ≤ n' ∧ n' ≤ 8) : snd X Y n = snd X' Y' n' := by
  subst hn; exact (hld_c (x := 0) (y := 0) (d := 0) h hX hY).1
theorem snd_0 {X Y : Int → Int} {n : Int} (h : n = 0) : snd X Y n = 1 := by subst h; rfl
theorem app_S {a : Int → Int} {p x y : Int} (hn : 0 ≤ a (225 + 17 * p) ∧ a (225 + 17 * p) ≤ 7) : snd (sh2 (s_app a p x y) (226 + 17 * p)) (sh2 (s_app a p x y) (227 + 17 * p)) (s_app a p x y (225 + 17 * p)) = snd (ua (sh2 a (226 + 17 * p)) (a (225 + 17 * p)) x) (ua (sh2 a (227 + 17 * p)) (a (225 + 17 * p)) y) (a (225 + 17 * p) + 1) :=
  snd_cc (fun k _ _ => app_X) (fun k h _ => app_Y h) app_n (by omega)
theorem low_b (s : Int) : 0 ≤ lowT s ∧ lowT s ≤ 1 := by
  have h : ∀ n : Nat, n < 8 → 0 ≤ lowL.getD n 0 ∧ lowL.getD n 0 ≤ 1 := by decide +kernel
  unfold lowT
  by_cases q : s.toNat < 8
  · exact h _ q
  · have e : lowL.getD s.toNat 0 = 0 := by
      rw [List.getD_eq_getElem?_getD, List.getElem?_eq_none (by show 8 ≤ s.toNat; omega)]; rfl
    rw [e]; omega
theorem hig_b (s : Int) : 0 ≤ higT s ∧ higT s ≤ 20000 := by
  have h : ∀ n : Nat, n < 8 → 0 ≤ higL.getD n 0 ∧ higL.getD n 0 ≤ 20000 := by decide +kernel
  unfold higT
  by_cases q : s.toNat < 8
  · exact h _ q
  · have e : higL.getD s.toNat 0 = 0 := by
      rw [List.getD_eq_getElem?_getD, List.getElem?_eq_none (by show 8 ≤ s.toNat; omega)]; rfl
    rw [e]; omega
theorem net_o {a : Int → Int} {p r x j : Int} (h : ¬ (14 ≤ j ∧ j ≤ 20)) : n_net a p r x j = a j := by
  unfold n_net; (repeat' split) <;> first | rfl | (rw [ua_ne (by omega)]; done) | (rw [ua_ne (by omega), ua_ne (by omega)]; done)
theorem net_F {a : Int → Int} {p r x k : Int} (hk : okN p r x) (h0 : 0 ≤ k) (h1 : k < 4) : nF (n_net a p r x) k = ua (nF a) p r k := by
  unfold n_net nF ua; rw [if_pos hk]; dsimp only
  by_cases e : p = 0
  · subst e; rw [if_pos rfl]; by_cases q : k = 0
    · rw [if_pos q, if_pos rfl, if_pos q]
    · rw [if_neg q, if_neg (by omega), if_neg q, if_neg q]
  · rw [if_neg e]; by_cases q : k = 0
    · subst q; rw [if_pos rfl, if_neg (by omega), if_neg (by omega), if_neg (by omega), if_pos rfl]
    · by_cases g : k = p
      · rw [if_neg q, if_neg (by omega), if_pos (by omega), if_pos g]
      · rw [if_neg q, if_neg (by omega), if_neg (by omega), if_neg g, if_neg q]
theorem net_S {a : Int → Int} {p r x k : Int} (hk : okN p r x) (h0 : 0 ≤ k) (h1 : k < 4) : nS (n_net a p r x) k = ua (nS a) p x k := by
  unfold n_net nS ua; rw [if_pos hk]; dsimp only
  by_cases e : p = 0
  · subst e; rw [if_pos rfl]; by_cases q : k = 0
    · rw [if_pos q, if_pos q]; omega
    · rw [if_neg q, if_neg (by omega), if_neg q, if_neg q]
  · rw [if_neg e]; by_cases q : k = 0
    · subst q; rw [if_pos rfl, if_neg (by omega), if_pos rfl]
    · by_cases g : k = p
      · rw [if_neg q, if_pos (by omega), if_pos g]
      · rw [if_neg q, if_neg (by omega), if_neg (by omega), if_neg g, if_neg q]
theorem jmp_0 {a : Int → Int} {va vb ia ib : Int} : s_jmp a va vb ia ib 0 = va := rfl
theorem jmp_1 {a : Int → Int} {va vb ia ib : Int} : s_jmp a va vb ia ib 1 = vb := rfl
theorem jmp_2 {a : Int → Int} {va vb ia ib : Int} : s_jmp a va vb ia ib 2 = ia := rfl
theorem jmp_3 {a : Int → Int} {va vb ia ib : Int} : s_jmp a va vb ia ib 3 = ib := rfl
theorem jmp_4 {a : Int → Int} {va vb ia ib : Int} : s_jmp a va vb ia ib 4 = 0 := rfl
theorem bgn_o {a : Int → Int} {m va vb ia ib j : Int} (h : ¬ (4 ≤ j ∧ j ≤ 13)) : s_bgn a m va vb ia ib j = a j := by
  unfold s_bgn; rw [ua_ne (by omega), ua_ne (by omega), ua_ne (by omega), ua_ne (by omega), ua_ne (by omega), ua_ne (by omega), ua_ne (by omega), ua_ne (by omega), ua_ne (by omega), ua_ne (by omega)]
theorem bgn_4 {a : Int → Int} {m va vb ia ib : Int} : s_bgn a m va vb ia ib 4 = m := rfl
theorem bgn_5 {a : Int → Int} {m va vb ia ib : Int} : s_bgn a m va vb ia ib 5 = m := rfl
theorem bgn_6 {a : Int → Int} {m va vb ia ib : Int} : s_bgn a m va vb ia ib 6 = a 0 := rfl
theorem bgn_7 {a : Int → Int} {m va vb ia ib : Int} : s_bgn a m va vb ia ib 7 = a 1 := rfl
theorem bgn_8 {a : Int → Int} {m va vb ia ib : Int} : s_bgn a m va vb ia ib 8 = a 2 := rfl
theorem bgn_9 {a : Int → Int} {m va vb ia ib : Int} : s_bgn a m va vb ia ib 9 = a 3 := rfl
theorem bgn_10 {a : Int → Int} {m va vb ia ib : Int} : s_bgn a m va vb ia ib 10 = va := rfl
theorem bgn_11 {a : Int → Int} {m va vb ia ib : Int} : s_bgn a m va vb ia ib 11 = vb := rfl
theorem bgn_12 {a : Int → Int} {m va vb ia ib : Int} : s_bgn a m va vb ia ib 12 = ia := rfl
theorem bgn_13 {a : Int → Int} {m va vb ia ib : Int} : s_bgn a m va vb ia ib 13 = ib := rfl
