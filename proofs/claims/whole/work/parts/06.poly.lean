abbrev rm_K_outside : Room := { frames := 0, cells := 0, slots := 0, locals := 0 }
set_option maxHeartbeats 8000000 in
set_option maxRecDepth 100000 in
theorem K_outside (l : Launch) (E : Ev) (x lo hi : Int) (hx : bi x) (hl : bi lo) (hh : bi hi) : Mc l yX10_outside wsX10_outside rm_K_outside E [vI x, vI lo, vI hi] [] 0 0 (fun v9 w9 => v9 = some (vI (bP (x < lo ∨ hi < x))) ∧ w9 = []) := by
  refine Mc.intro (cc := cX10_outside) (maxL := 3) (ret := (some .boolean)) (lv0 := [(0, vI x), (1, vI lo), (2, vI hi)]) (by decide +kernel) rfl rfl (Nat.le_of_ble_eq_true rfl) ?_
  intro p9 e9 s9 m9 args9 below9 meth9 c9 A9 C hr hmn
  have C : Cx p9 s9 m9 args9 meth9 c9 E A9 3 cX10_outside wsX10_outside RX10 := C
  refine g_iload_n C 0 rfl dX10_outside_0 rfl ?_
  refine g_iload_n C 1 rfl dX10_outside_1 rfl ?_
  refine g_icmp_lt C (tgt := 10) (hx) (hl) dX10_outside_2 (by decide) rfl (fun c_1 => ?_) (fun c_1 => ?_)
  · refine g_iconst C dX10_outside_10 rfl ?_
    refine g_goto C (pc' := 15) dX10_outside_11 (by decide) ?_
    refine g_top (v' := vI (bP (x < lo ∨ hi < x))) (congrArg (fun z_ : Int => vI z_) (show (bP (x < lo ∨ hi < x)) = 1 by first | exact bP_t (by first | assumption | omega) | exact bP_f (by first | assumption | omega))) ?_
    exact g_iret C hr (nrZ _) (Nat.le_of_ble_eq_true rfl) (Nat.le_of_ble_eq_true rfl) dX10_outside_15 ⟨rfl, rfl⟩
  refine g_iload_n C 0 rfl dX10_outside_5 rfl ?_
  refine g_iload_n C 2 rfl dX10_outside_6 rfl ?_
  refine g_icmp_le C (tgt := 14) (hx) (hh) dX10_outside_7 (by decide) rfl (fun c_2 => ?_) (fun c_2 => ?_)
  · refine g_iconst C dX10_outside_14 rfl ?_
    refine g_top (v' := vI (bP (x < lo ∨ hi < x))) (congrArg (fun z_ : Int => vI z_) (show (bP (x < lo ∨ hi < x)) = 0 by first | exact bP_t (by first | assumption | omega) | exact bP_f (by first | assumption | omega))) ?_
    exact g_iret C hr (nrZ _) (Nat.le_of_ble_eq_true rfl) (Nat.le_of_ble_eq_true rfl) dX10_outside_15 ⟨rfl, rfl⟩
  refine g_iconst C dX10_outside_10 rfl ?_
  refine g_goto C (pc' := 15) dX10_outside_11 (by decide) ?_
  refine g_top (v' := vI (bP (x < lo ∨ hi < x))) (congrArg (fun z_ : Int => vI z_) (show (bP (x < lo ∨ hi < x)) = 1 by first | exact bP_t (by first | assumption | omega) | exact bP_f (by first | assumption | omega))) ?_
  exact g_iret C hr (nrZ _) (Nat.le_of_ble_eq_true rfl) (Nat.le_of_ble_eq_true rfl) dX10_outside_15 ⟨rfl, rfl⟩

theorem hyd_X10_outside : yX10_outside.cls ≠ "java/lang/invoke/MethodHandle" ∧ yX10_outside.cls ≠ "java/lang/invoke/VarHandle" ∧ (parseMethodDescriptor yX10_outside.desc).map (fun d => d.parameters.length) = some 3 := by decide +kernel
abbrev rm_K_beyond : Room := { frames := 1, cells := 0, slots := 0, locals := 22 }
set_option maxHeartbeats 8000000 in
set_option maxRecDepth 100000 in
theorem K_beyond (l : Launch) (E : Ev) (x : Int) (hx : bi x) : Mc l yX10_beyondLimit wsX10_beyondLimit rm_K_beyond E [vI x] [] 0 0 (fun v9 w9 => v9 = some (vI (bP (x < (-20000) ∨ 20000 < x))) ∧ w9 = []) := by
  refine Mc.intro (cc := cX10_beyondLimit) (maxL := 1) (ret := (some .boolean)) (lv0 := [(0, vI x)]) (by decide +kernel) rfl rfl (Nat.le_of_ble_eq_true rfl) ?_
  intro p9 e9 s9 m9 args9 below9 meth9 c9 A9 C hr hmn
  have C : Cx p9 s9 m9 args9 meth9 c9 E A9 1 cX10_beyondLimit wsX10_beyondLimit RX10 := C
  refine g_iload_n C 0 rfl dX10_beyondLimit_0 rfl ?_
  refine g_sipush C (by decide) dX10_beyondLimit_1 rfl ?_
  refine g_sipush C (by decide) dX10_beyondLimit_4 rfl ?_
  refine g_callS C (As := [vI x, vI (-20000), vI 20000]) (wc := []) (wr := []) (st := []) gX10_beyondLimit_X10_outside rfl (K_outside l E x (-20000) 20000 hx ⟨by decide, by decide⟩ ⟨by decide, by decide⟩) hyd_X10_outside rfl [] [] rfl rfl rfl rfl rfl (by decide) ⟨rfl, rfl⟩ ⟨Nat.le_of_ble_eq_true rfl, Nat.le_of_ble_eq_true rfl, Nat.le_of_ble_eq_true rfl, Nat.le_of_ble_eq_true rfl⟩ (Nat.le_of_ble_eq_true rfl) dX10_beyondLimit_7 (rfl : _ = 0) (rfl : _ = 0) rfl ?_
  rintro _ _ ⟨rfl, rfl⟩
  refine g_is (ws' := []) (st' := [vI (bP (x < (-20000) ∨ 20000 < x))]) rfl rfl ?_
  exact g_iret C hr (nrZ _) (Nat.le_of_ble_eq_true rfl) (Nat.le_of_ble_eq_true rfl) dX10_beyondLimit_10 ⟨rfl, rfl⟩

theorem in_X4_after_X4 : ∀ w ∈ u_ws RX4 TX4 4, w ∈ wsX4_after := by decide +kernel
theorem fd_X4_after_28 : fdk wsX4_after RX4 28 "ZoneRelay$Polygon" RX4 TX4 4 2 := ⟨in_X4_after_X4, by decide +kernel, by decide, rfl⟩
abbrev rm_K_after : Room := { frames := 0, cells := 0, slots := 0, locals := 0 }
set_option maxHeartbeats 8000000 in
set_option maxRecDepth 100000 in
theorem K_after (l : Launch) (E : Ev) (h xs ys : Nat) (X Y : Int → Int) (n df k : Int) (hn : 0 ≤ n ∧ n ≤ 8) (hk : 0 ≤ k ∧ k < 8) : Mc l yX4_after wsX4_after rm_K_after E [vR h, vI k] [(h, .inr (5, [vR xs, vR ys, vI n, vI df])), (xs, cI E 8 X), (ys, cI E 8 Y)] 0 0 (fun v9 w9 => v9 = some (vI (af n k)) ∧ w9 = [(h, .inr (5, [vR xs, vR ys, vI n, vI df])), (xs, cI E 8 X), (ys, cI E 8 Y)]) := by
  refine Mc.intro (cc := cX4_after) (maxL := 2) (ret := (some .int)) (lv0 := [(0, vR h), (1, vI k)]) (by decide +kernel) rfl rfl (Nat.le_of_ble_eq_true rfl) ?_
  intro p9 e9 s9 m9 args9 below9 meth9 c9 A9 C hr hmn
  have C : Cx p9 s9 m9 args9 meth9 c9 E A9 2 cX4_after wsX4_after RX4 := C
  refine g_iload_n C 1 rfl dX4_after_0 rfl ?_
  refine g_iconst C dX4_after_1 rfl ?_
  refine g_iadd C rfl dX4_after_2 rfl ?_
  refine g_aload_n C 0 rfl dX4_after_3 rfl ?_
  refine g_get C 0 fd_X4_after_28 rfl rfl rfl dX4_after_4 rfl ?_
  refine g_icmp_ge C (tgt := 16) ⟨by omega, by omega⟩ ⟨by omega, by omega⟩ dX4_after_7 (by decide) rfl (fun c_1 => ?_) (fun c_1 => ?_)
  · refine g_iconst C dX4_after_16 rfl ?_
    refine g_top (v' := vI (af n k)) (congrArg (fun z_ : Int => vI z_) (show (af n k) = 0 by unfold af; split <;> omega)) ?_
    exact g_iret C hr rfl (Nat.le_of_ble_eq_true rfl) (Nat.le_of_ble_eq_true rfl) dX4_after_17 ⟨rfl, rfl⟩
  refine g_iload_n C 1 rfl dX4_after_10 rfl ?_
  refine g_iconst C dX4_after_11 rfl ?_
  refine g_iadd C rfl dX4_after_12 rfl ?_
  refine g_goto C (pc' := 17) dX4_after_13 (by decide) ?_
  refine g_top (v' := vI (af n k)) (congrArg (fun z_ : Int => vI z_) (show (af n k) = (k + 1) by unfold af; split <;> omega)) ?_
  exact g_iret C hr rfl (Nat.le_of_ble_eq_true rfl) (Nat.le_of_ble_eq_true rfl) dX4_after_17 ⟨rfl, rfl⟩

theorem in_X4_turnsLeftEverywhere_X4 : ∀ w ∈ u_ws RX4 TX4 4, w ∈ wsX4_turnsLeftEverywhere := by decide +kernel
theorem fd_X4_turnsLeftEverywhere_28 : fdk wsX4_turnsLeftEverywhere RX4 28 "ZoneRelay$Polygon" RX4 TX4 4 2 := ⟨in_X4_turnsLeftEverywhere_X4, by decide +kernel, by decide, rfl⟩
theorem hyd_X4_after : yX4_after.cls ≠ "java/lang/invoke/MethodHandle" ∧ yX4_after.cls ≠ "java/lang/invoke/VarHandle" ∧ (parseMethodDescriptor yX4_after.desc).map (fun d => d.parameters.length) = some 1 := by decide +kernel
theorem fd_X4_turnsLeftEverywhere_9 : fdk wsX4_turnsLeftEverywhere RX4 9 "ZoneRelay$Polygon" RX4 TX4 4 0 := ⟨in_X4_turnsLeftEverywhere_X4, by decide +kernel, by decide, rfl⟩
theorem fd_X4_turnsLeftEverywhere_15 : fdk wsX4_turnsLeftEverywhere RX4 15 "ZoneRelay$Polygon" RX4 TX4 4 1 := ⟨in_X4_turnsLeftEverywhere_X4, by decide +kernel, by decide, rfl⟩
abbrev rm_K_turnsLeft : Room := { frames := 1, cells := 0, slots := 0, locals := 21 }
set_option maxHeartbeats 8000000 in
set_option maxRecDepth 100000 in
theorem K_turnsLeft (l : Launch) (E : Ev) (h xs ys : Nat) (X Y : Int → Int) (n df : Int) (hn : 0 ≤ n ∧ n ≤ 8) (hX : cbA X) (hY : cbA Y) : Mc l yX4_turnsLeftEverywhere wsX4_turnsLeftEverywhere rm_K_turnsLeft E [vR h] [(h, .inr (5, [vR xs, vR ys, vI n, vI df])), (xs, cI E 8 X), (ys, cI E 8 Y)] 0 0 (fun v9 w9 => v9 = some (vI (bP (allB (tlB X Y n) n.toNat = true))) ∧ w9 = [(h, .inr (5, [vR xs, vR ys, vI n, vI df])), (xs, cI E 8 X), (ys, cI E 8 Y)]) := by
  refine Mc.intro (cc := cX4_turnsLeftEverywhere) (maxL := 6) (ret := (some .boolean)) (lv0 := [(0, vR h)]) (by decide +kernel) rfl rfl (Nat.le_of_ble_eq_true rfl) ?_
  intro p9 e9 s9 m9 args9 below9 meth9 c9 A9 C hr hmn
  have C : Cx p9 s9 m9 args9 meth9 c9 E A9 6 cX4_turnsLeftEverywhere wsX4_turnsLeftEverywhere RX4 := C
  refine g_iconst C dX4_turnsLeftEverywhere_0 rfl ?_
  refine g_istore_n C (lv' := [(0, vR h), (1, vI 0)]) [1, 0] (by decide) rfl rfl dX4_turnsLeftEverywhere_1 rfl ?_
  have hL_2 : ∀ (fuel : Nat) (i : Int) (h0 : 0 ≤ i) (h1 : i ≤ n) (hal : allB (tlB X Y n) i.toNat = true) (hfu : (n - i).toNat = fuel), G p9 l e9 rm_K_turnsLeft s9 m9 args9 below9 meth9 c9 (RQ E (fun v9 w9 => v9 = some (vI (bP (allB (tlB X Y n) n.toNat = true))) ∧ w9 = [(h, .inr (5, [vR xs, vR ys, vI n, vI df])), (xs, cI E 8 X), (ys, cI E 8 Y)]) A9 below9 args9 s9 0 0) E A9 6 0 0 [(h, .inr (5, [vR xs, vR ys, vI n, vI df])), (xs, cI E 8 X), (ys, cI E 8 Y)] [(0, vR h), (1, vI i)] 2 [] := by
    intro fuel
    induction fuel using Nat.strongRecOn with
    | ind fuel ih =>
      intro i h0 h1 hal hfu
      refine g_iload_n C 1 rfl dX4_turnsLeftEverywhere_2 rfl ?_
      refine g_aload_n C 0 rfl dX4_turnsLeftEverywhere_3 rfl ?_
      refine g_get C 0 fd_X4_turnsLeftEverywhere_28 rfl rfl rfl dX4_turnsLeftEverywhere_4 rfl ?_
      refine g_icmp_ge C (tgt := 98) ⟨by omega, by omega⟩ ⟨by omega, by omega⟩ dX4_turnsLeftEverywhere_7 (by decide) rfl (fun c_1 => ?_) (fun c_1 => ?_)
      · refine g_iconst C dX4_turnsLeftEverywhere_98 rfl ?_
        refine g_top (v' := vI (bP (allB (tlB X Y n) n.toNat = true))) (congrArg (fun z_ : Int => vI z_) (show (bP (allB (tlB X Y n) n.toNat = true)) = 1 by exact bP_t (by rw [show n.toNat = i.toNat by omega]; exact hal))) ?_
        exact g_iret C hr (nrZ _) (Nat.le_of_ble_eq_true rfl) (Nat.le_of_ble_eq_true rfl) dX4_turnsLeftEverywhere_99 ⟨rfl, rfl⟩
      refine g_aload_n C 0 rfl dX4_turnsLeftEverywhere_10 rfl ?_
      refine g_iload_n C 1 rfl dX4_turnsLeftEverywhere_11 rfl ?_
      refine g_callV C (b := h) (As := [vI i]) (wc := [(h, .inr (5, [vR xs, vR ys, vI n, vI df])), (xs, cI E 8 X), (ys, cI E 8 Y)]) (wr := []) (st := []) gX4_turnsLeftEverywhere_X4_after (q9 := 0) (ci := 5) rfl rfl rfl (K_after l E h xs ys X Y n df i hn (by first | assumption | omega)) hyd_X4_after rfl [0, 1, 2] [] rfl rfl rfl rfl rfl (by decide) ⟨rfl, rfl⟩ ⟨Nat.le_of_ble_eq_true rfl, Nat.le_of_ble_eq_true rfl, Nat.le_of_ble_eq_true rfl, Nat.le_of_ble_eq_true rfl⟩ (Nat.le_of_ble_eq_true rfl) dX4_turnsLeftEverywhere_12 (rfl : _ = 0) (rfl : _ = 0) rfl ?_
      rintro _ _ ⟨rfl, rfl⟩
      refine g_is (ws' := [(h, .inr (5, [vR xs, vR ys, vI n, vI df])), (xs, cI E 8 X), (ys, cI E 8 Y)]) (st' := [vI (af n i)]) rfl rfl ?_
      have ha1 := af_r (n := n) (k := i) (by omega) (by omega)
      have x1 := hX i (by omega) (by omega)
      have y1 := hY i (by omega) (by omega)
      have x2 := hX (af n i) (by omega) (by omega)
      have y2 := hY (af n i) (by omega) (by omega)
      refine g_istore_n C (lv' := [(0, vR h), (1, vI i), (2, vI (af n i))]) [1, 2, 0] (by decide) rfl rfl dX4_turnsLeftEverywhere_15 rfl ?_
      refine g_aload_n C 0 rfl dX4_turnsLeftEverywhere_16 rfl ?_
      refine g_iload_n C 2 rfl dX4_turnsLeftEverywhere_17 rfl ?_
      refine g_callV C (b := h) (As := [vI (af n i)]) (wc := [(h, .inr (5, [vR xs, vR ys, vI n, vI df])), (xs, cI E 8 X), (ys, cI E 8 Y)]) (wr := []) (st := []) gX4_turnsLeftEverywhere_X4_after (q9 := 0) (ci := 5) rfl rfl rfl (K_after l E h xs ys X Y n df (af n i) hn (by first | assumption | omega)) hyd_X4_after rfl [0, 1, 2] [] rfl rfl rfl rfl rfl (by decide) ⟨rfl, rfl⟩ ⟨Nat.le_of_ble_eq_true rfl, Nat.le_of_ble_eq_true rfl, Nat.le_of_ble_eq_true rfl, Nat.le_of_ble_eq_true rfl⟩ (Nat.le_of_ble_eq_true rfl) dX4_turnsLeftEverywhere_18 (rfl : _ = 0) (rfl : _ = 0) rfl ?_
      rintro _ _ ⟨rfl, rfl⟩
      refine g_is (ws' := [(h, .inr (5, [vR xs, vR ys, vI n, vI df])), (xs, cI E 8 X), (ys, cI E 8 Y)]) (st' := [vI (af n (af n i))]) rfl rfl ?_
      have ha2 := af_r (n := n) (k := af n i) (by omega) (by omega)
      have x3 := hX (af n (af n i)) (by omega) (by omega)
      have y3 := hY (af n (af n i)) (by omega) (by omega)
      have m1 := mul_b (x := X (af n i) - X i) (y := Y (af n (af n i)) - Y (af n i)) (A := 40000) (B := 40000) (by omega) (by omega)
      have m2 := mul_b (x := Y (af n i) - Y i) (y := X (af n (af n i)) - X (af n i)) (A := 40000) (B := 40000) (by omega) (by omega)
      refine g_istore_n C (lv' := [(0, vR h), (1, vI i), (2, vI (af n i)), (3, vI (af n (af n i)))]) [1, 2, 3, 0] (by decide) rfl rfl dX4_turnsLeftEverywhere_21 rfl ?_
      refine g_aload_n C 0 rfl dX4_turnsLeftEverywhere_22 rfl ?_
      refine g_get C 0 fd_X4_turnsLeftEverywhere_9 rfl rfl rfl dX4_turnsLeftEverywhere_23 rfl ?_
      refine g_iload_n C 2 rfl dX4_turnsLeftEverywhere_26 rfl ?_
      refine g_iald C 1 rfl (by omega) (by omega) (by decide) rfl dX4_turnsLeftEverywhere_27 rfl ?_
      refine g_aload_n C 0 rfl dX4_turnsLeftEverywhere_28 rfl ?_
      refine g_get C 0 fd_X4_turnsLeftEverywhere_9 rfl rfl rfl dX4_turnsLeftEverywhere_29 rfl ?_
      refine g_iload_n C 1 rfl dX4_turnsLeftEverywhere_32 rfl ?_
      refine g_iald C 1 rfl (by omega) (by omega) (by decide) rfl dX4_turnsLeftEverywhere_33 rfl ?_
      refine g_isub C rfl dX4_turnsLeftEverywhere_34 rfl ?_
      refine g_i2l C ⟨by omega, by omega⟩ rfl dX4_turnsLeftEverywhere_35 rfl ?_
      refine g_aload_n C 0 rfl dX4_turnsLeftEverywhere_36 rfl ?_
      refine g_get C 0 fd_X4_turnsLeftEverywhere_15 rfl rfl rfl dX4_turnsLeftEverywhere_37 rfl ?_
      refine g_iload_n C 3 rfl dX4_turnsLeftEverywhere_40 rfl ?_
      refine g_iald C 2 rfl (by omega) (by omega) (by decide) rfl dX4_turnsLeftEverywhere_41 rfl ?_
      refine g_aload_n C 0 rfl dX4_turnsLeftEverywhere_42 rfl ?_
      refine g_get C 0 fd_X4_turnsLeftEverywhere_15 rfl rfl rfl dX4_turnsLeftEverywhere_43 rfl ?_
      refine g_iload_n C 2 rfl dX4_turnsLeftEverywhere_46 rfl ?_
      refine g_iald C 2 rfl (by omega) (by omega) (by decide) rfl dX4_turnsLeftEverywhere_47 rfl ?_
      refine g_isub C rfl dX4_turnsLeftEverywhere_48 rfl ?_
      refine g_i2l C ⟨by omega, by omega⟩ rfl dX4_turnsLeftEverywhere_49 rfl ?_
      refine g_lmul C rfl dX4_turnsLeftEverywhere_50 rfl ?_
      refine g_aload_n C 0 rfl dX4_turnsLeftEverywhere_51 rfl ?_
      refine g_get C 0 fd_X4_turnsLeftEverywhere_15 rfl rfl rfl dX4_turnsLeftEverywhere_52 rfl ?_
      refine g_iload_n C 2 rfl dX4_turnsLeftEverywhere_55 rfl ?_
      refine g_iald C 2 rfl (by omega) (by omega) (by decide) rfl dX4_turnsLeftEverywhere_56 rfl ?_
      refine g_aload_n C 0 rfl dX4_turnsLeftEverywhere_57 rfl ?_
      refine g_get C 0 fd_X4_turnsLeftEverywhere_15 rfl rfl rfl dX4_turnsLeftEverywhere_58 rfl ?_
      refine g_iload_n C 1 rfl dX4_turnsLeftEverywhere_61 rfl ?_
      refine g_iald C 2 rfl (by omega) (by omega) (by decide) rfl dX4_turnsLeftEverywhere_62 rfl ?_
      refine g_isub C rfl dX4_turnsLeftEverywhere_63 rfl ?_
      refine g_i2l C ⟨by omega, by omega⟩ rfl dX4_turnsLeftEverywhere_64 rfl ?_
      refine g_aload_n C 0 rfl dX4_turnsLeftEverywhere_65 rfl ?_
      refine g_get C 0 fd_X4_turnsLeftEverywhere_9 rfl rfl rfl dX4_turnsLeftEverywhere_66 rfl ?_
      refine g_iload_n C 3 rfl dX4_turnsLeftEverywhere_69 rfl ?_
      refine g_iald C 1 rfl (by omega) (by omega) (by decide) rfl dX4_turnsLeftEverywhere_70 rfl ?_
      refine g_aload_n C 0 rfl dX4_turnsLeftEverywhere_71 rfl ?_
      refine g_get C 0 fd_X4_turnsLeftEverywhere_9 rfl rfl rfl dX4_turnsLeftEverywhere_72 rfl ?_
      refine g_iload_n C 2 rfl dX4_turnsLeftEverywhere_75 rfl ?_
      refine g_iald C 1 rfl (by omega) (by omega) (by decide) rfl dX4_turnsLeftEverywhere_76 rfl ?_
      refine g_isub C rfl dX4_turnsLeftEverywhere_77 rfl ?_
      refine g_i2l C ⟨by omega, by omega⟩ rfl dX4_turnsLeftEverywhere_78 rfl ?_
      refine g_lmul C rfl dX4_turnsLeftEverywhere_79 rfl ?_
      refine g_lsub C rfl dX4_turnsLeftEverywhere_80 rfl ?_
      refine g_lstore C (lv' := [(0, vR h), (1, vI i), (2, vI (af n i)), (3, vI (af n (af n i))), (4, vL ((((X (af n i)) - (X i)) * ((Y (af n (af n i))) - (Y (af n i)))) - (((Y (af n i)) - (Y i)) * ((X (af n (af n i))) - (X (af n i))))))]) [1, 2, 3, 4, 0] (by decide) rfl rfl dX4_turnsLeftEverywhere_81 rfl ?_
      refine g_lload C 4 rfl dX4_turnsLeftEverywhere_83 rfl ?_
      refine g_lconst0 C dX4_turnsLeftEverywhere_85 rfl ?_
      refine g_lcmp_gt C ⟨by omega, by omega⟩ ⟨by decide, by decide⟩ dX4_turnsLeftEverywhere_86 rfl (tgt := 92) dX4_turnsLeftEverywhere_87 (by decide) rfl (fun c_2 => ?_) (fun c_2 => ?_)
      · refine g_iinc C (r := (i + 1)) (lv' := [(0, vR h), (1, vI (i + 1)), (2, vI (af n i)), (3, vI (af n (af n i))), (4, vL ((((X (af n i)) - (X i)) * ((Y (af n (af n i))) - (Y (af n i)))) - (((Y (af n i)) - (Y i)) * ((X (af n (af n i))) - (X (af n i))))))]) 1 [1, 0, 2, 3, 4] rfl rfl (by decide) rfl rfl dX4_turnsLeftEverywhere_92 rfl ?_
        refine g_goto C (pc' := 2) dX4_turnsLeftEverywhere_95 (by decide) ?_
        refine g_lv (lv' := [(0, vR h), (1, vI (i + 1))]) [0, 1] rfl ?_
        exact ih _ (by omega) (i + 1) (by omega) (by omega) (allB_s (by omega) rfl hal (by simp only [tlB, trn]; exact decide_eq_true c_2)) rfl
      refine g_iconst C dX4_turnsLeftEverywhere_90 rfl ?_
      refine g_top (v' := vI (bP (allB (tlB X Y n) n.toNat = true))) (congrArg (fun z_ : Int => vI z_) (show (bP (allB (tlB X Y n) n.toNat = true)) = 0 by exact bP_f (by rw [allB_f (k := i) h0 (by omega) (by simp only [tlB, trn]; exact decide_eq_false c_2)]; decide))) ?_
      exact g_iret C hr (nrZ _) (Nat.le_of_ble_eq_true rfl) (Nat.le_of_ble_eq_true rfl) dX4_turnsLeftEverywhere_91 ⟨rfl, rfl⟩
  exact hL_2 _ 0 (by omega) (by omega) rfl rfl

abbrev rm_K_compare : Room := { frames := 0, cells := 0, slots := 0, locals := 0 }
set_option maxHeartbeats 8000000 in
set_option maxRecDepth 100000 in
theorem K_compare (l : Launch) (E : Ev) (x y : Int) (hx : bi x) (hy : bi y) : Mc l yJ6_compare_7cf53 wsJ6_compare_7cf53 rm_K_compare E [vI x, vI y] [] 0 0 (fun v9 w9 => v9 = some (vI (sgn3 x y)) ∧ w9 = []) := by
  refine Mc.intro (cc := cJ6_compare_7cf53) (maxL := 2) (ret := (some .int)) (lv0 := [(0, vI x), (1, vI y)]) (by decide +kernel) rfl rfl (Nat.le_of_ble_eq_true rfl) ?_
  intro p9 e9 s9 m9 args9 below9 meth9 c9 A9 C hr hmn
  have C : Cx p9 s9 m9 args9 meth9 c9 E A9 2 cJ6_compare_7cf53 wsJ6_compare_7cf53 RJ6 := C
  refine g_iload_n C 0 rfl dJ6_compare_7cf53_0 rfl ?_
  refine g_iload_n C 1 rfl dJ6_compare_7cf53_1 rfl ?_
  refine g_icmp_ge C (tgt := 9) (hx) (hy) dJ6_compare_7cf53_2 (by decide) rfl (fun c_1 => ?_) (fun c_1 => ?_)
  · refine g_iload_n C 0 rfl dJ6_compare_7cf53_9 rfl ?_
    refine g_iload_n C 1 rfl dJ6_compare_7cf53_10 rfl ?_
    refine g_icmp_ne C (tgt := 18) (hx) (hy) dJ6_compare_7cf53_11 (by decide) rfl (fun c_2 => ?_) (fun c_2 => ?_)
    · refine g_iconst C dJ6_compare_7cf53_18 rfl ?_
      refine g_top (v' := vI (sgn3 x y)) (congrArg (fun z_ : Int => vI z_) (show (sgn3 x y) = 1 by unfold sgn3; (repeat' split) <;> first | rfl | omega)) ?_
      exact g_iret C hr rfl (Nat.le_of_ble_eq_true rfl) (Nat.le_of_ble_eq_true rfl) dJ6_compare_7cf53_19 ⟨rfl, rfl⟩
    refine g_iconst C dJ6_compare_7cf53_14 rfl ?_
    refine g_goto C (pc' := 19) dJ6_compare_7cf53_15 (by decide) ?_
    refine g_top (v' := vI (sgn3 x y)) (congrArg (fun z_ : Int => vI z_) (show (sgn3 x y) = 0 by unfold sgn3; (repeat' split) <;> first | rfl | omega)) ?_
    exact g_iret C hr rfl (Nat.le_of_ble_eq_true rfl) (Nat.le_of_ble_eq_true rfl) dJ6_compare_7cf53_19 ⟨rfl, rfl⟩
  refine g_iconst C dJ6_compare_7cf53_5 rfl ?_
  refine g_goto C (pc' := 19) dJ6_compare_7cf53_6 (by decide) ?_
  refine g_top (v' := vI (sgn3 x y)) (congrArg (fun z_ : Int => vI z_) (show (sgn3 x y) = (-1) by unfold sgn3; (repeat' split) <;> first | rfl | omega)) ?_
  exact g_iret C hr rfl (Nat.le_of_ble_eq_true rfl) (Nat.le_of_ble_eq_true rfl) dJ6_compare_7cf53_19 ⟨rfl, rfl⟩

theorem in_X4_countTurnsOfY_X4 : ∀ w ∈ u_ws RX4 TX4 4, w ∈ wsX4_countTurnsOfY := by decide +kernel
theorem fd_X4_countTurnsOfY_28 : fdk wsX4_countTurnsOfY RX4 28 "ZoneRelay$Polygon" RX4 TX4 4 2 := ⟨in_X4_countTurnsOfY_X4, by decide +kernel, by decide, rfl⟩
theorem fd_X4_countTurnsOfY_15 : fdk wsX4_countTurnsOfY RX4 15 "ZoneRelay$Polygon" RX4 TX4 4 1 := ⟨in_X4_countTurnsOfY_X4, by decide +kernel, by decide, rfl⟩
theorem hyd_J6_compare_7cf53 : yJ6_compare_7cf53.cls ≠ "java/lang/invoke/MethodHandle" ∧ yJ6_compare_7cf53.cls ≠ "java/lang/invoke/VarHandle" ∧ (parseMethodDescriptor yJ6_compare_7cf53.desc).map (fun d => d.parameters.length) = some 2 := by decide +kernel
abbrev rm_K_countTurns : Room := { frames := 1, cells := 0, slots := 0, locals := 21 }
set_option maxHeartbeats 8000000 in
set_option maxRecDepth 100000 in
theorem K_countTurns (l : Launch) (E : Ev) (h xs ys : Nat) (X Y : Int → Int) (n df : Int) (hn : 0 ≤ n ∧ n ≤ 8) (hX : cbA X) (hY : cbA Y) : Mc l yX4_countTurnsOfY wsX4_countTurnsOfY rm_K_countTurns E [vR h] [(h, .inr (5, [vR xs, vR ys, vI n, vI df])), (xs, cI E 8 X), (ys, cI E 8 Y)] 0 0 (fun v9 w9 => v9 = some (vI (yturns Y n)) ∧ w9 = [(h, .inr (5, [vR xs, vR ys, vI n, vI df])), (xs, cI E 8 X), (ys, cI E 8 Y)]) := by
  refine Mc.intro (cc := cX4_countTurnsOfY) (maxL := 5) (ret := (some .int)) (lv0 := [(0, vR h)]) (by decide +kernel) rfl rfl (Nat.le_of_ble_eq_true rfl) ?_
  intro p9 e9 s9 m9 args9 below9 meth9 c9 A9 C hr hmn
  have C : Cx p9 s9 m9 args9 meth9 c9 E A9 5 cX4_countTurnsOfY wsX4_countTurnsOfY RX4 := C
  refine g_iconst C dX4_countTurnsOfY_0 rfl ?_
  refine g_istore_n C (lv' := [(0, vR h), (1, vI 0)]) [1, 0] (by decide) rfl rfl dX4_countTurnsOfY_1 rfl ?_
  refine g_iconst C dX4_countTurnsOfY_2 rfl ?_
  refine g_istore_n C (lv' := [(0, vR h), (1, vI 0), (2, vI 0)]) [1, 2, 0] (by decide) rfl rfl dX4_countTurnsOfY_3 rfl ?_
  refine g_iconst C dX4_countTurnsOfY_4 rfl ?_
  refine g_istore_n C (lv' := [(0, vR h), (1, vI 0), (2, vI 0), (3, vI 0)]) [1, 2, 3, 0] (by decide) rfl rfl dX4_countTurnsOfY_5 rfl ?_
  have hL_6 : ∀ (fuel : Nat) (i : Int) (h0 : 0 ≤ i) (h1 : i ≤ n) (hfu : (n - i).toNat = fuel), G p9 l e9 rm_K_countTurns s9 m9 args9 below9 meth9 c9 (RQ E (fun v9 w9 => v9 = some (vI (yturns Y n)) ∧ w9 = [(h, .inr (5, [vR xs, vR ys, vI n, vI df])), (xs, cI E 8 X), (ys, cI E 8 Y)]) A9 below9 args9 s9 0 0) E A9 5 0 0 [(h, .inr (5, [vR xs, vR ys, vI n, vI df])), (xs, cI E 8 X), (ys, cI E 8 Y)] [(0, vR h), (1, vI 0), (2, vI (lsg (ysg Y n) 0 (Int.toNat i))), (3, vI i)] 6 [] := by
    intro fuel
    induction fuel using Nat.strongRecOn with
    | ind fuel ih =>
      intro i h0 h1 hfu
      refine g_iload_n C 3 rfl dX4_countTurnsOfY_6 rfl ?_
      refine g_aload_n C 0 rfl dX4_countTurnsOfY_7 rfl ?_
      refine g_get C 0 fd_X4_countTurnsOfY_28 rfl rfl rfl dX4_countTurnsOfY_8 rfl ?_
      refine g_icmp_ge C (tgt := 53) ⟨by omega, by omega⟩ ⟨by omega, by omega⟩ dX4_countTurnsOfY_11 (by decide) rfl (fun c_1 => ?_) (fun c_1 => ?_)
      · refine g_iconst C dX4_countTurnsOfY_53 rfl ?_
        refine g_istore_n C (lv' := [(0, vR h), (1, vI 0), (2, vI (lsg (ysg Y n) 0 (Int.toNat i))), (3, vI 0)]) [1, 2, 3, 0] (by decide) rfl rfl dX4_countTurnsOfY_54 rfl ?_
        have hL_55 : ∀ (fuel : Nat) (i : Int) (h0 : 0 ≤ i) (h1 : i ≤ n) (hfu : (n - i).toNat = fuel), G p9 l e9 rm_K_countTurns s9 m9 args9 below9 meth9 c9 (RQ E (fun v9 w9 => v9 = some (vI (yturns Y n)) ∧ w9 = [(h, .inr (5, [vR xs, vR ys, vI n, vI df])), (xs, cI E 8 X), (ys, cI E 8 Y)]) A9 below9 args9 s9 0 0) E A9 5 0 0 [(h, .inr (5, [vR xs, vR ys, vI n, vI df])), (xs, cI E 8 X), (ys, cI E 8 Y)] [(0, vR h), (1, vI (tcn (ysg Y n) (lsg (ysg Y n) 0 (Int.toNat n)) (Int.toNat i))), (2, vI (lsg (ysg Y n) (lsg (ysg Y n) 0 (Int.toNat n)) (Int.toNat i))), (3, vI i)] 55 [] := by
          intro fuel
          induction fuel using Nat.strongRecOn with
          | ind fuel ih =>
            intro i h0 h1 hfu
            refine g_iload_n C 3 rfl dX4_countTurnsOfY_55 rfl ?_
            refine g_aload_n C 0 rfl dX4_countTurnsOfY_56 rfl ?_
            refine g_get C 0 fd_X4_countTurnsOfY_28 rfl rfl rfl dX4_countTurnsOfY_57 rfl ?_
            refine g_icmp_ge C (tgt := 107) ⟨by omega, by omega⟩ ⟨by omega, by omega⟩ dX4_countTurnsOfY_60 (by decide) rfl (fun c_2 => ?_) (fun c_2 => ?_)
            · refine g_iload_n C 1 rfl dX4_countTurnsOfY_107 rfl ?_
              refine g_top (v' := vI (yturns Y n)) (congrArg (fun z_ : Int => vI z_) (show (yturns Y n) = (tcn (ysg Y n) (lsg (ysg Y n) 0 (Int.toNat n)) (Int.toNat i)) by rw [show i = n by omega]; rfl)) ?_
              exact g_iret C hr rfl (Nat.le_of_ble_eq_true rfl) (Nat.le_of_ble_eq_true rfl) dX4_countTurnsOfY_108 ⟨rfl, rfl⟩
            refine g_aload_n C 0 rfl dX4_countTurnsOfY_63 rfl ?_
            refine g_get C 0 fd_X4_countTurnsOfY_15 rfl rfl rfl dX4_countTurnsOfY_64 rfl ?_
            refine g_aload_n C 0 rfl dX4_countTurnsOfY_67 rfl ?_
            refine g_iload_n C 3 rfl dX4_countTurnsOfY_68 rfl ?_
            refine g_callV C (b := h) (As := [vI i]) (wc := [(h, .inr (5, [vR xs, vR ys, vI n, vI df])), (xs, cI E 8 X), (ys, cI E 8 Y)]) (wr := []) (st := [vR ys]) gX4_countTurnsOfY_X4_after (q9 := 0) (ci := 5) rfl rfl rfl (K_after l E h xs ys X Y n df i hn (by first | assumption | omega)) hyd_X4_after rfl [0, 1, 2] [] rfl rfl rfl rfl rfl (by decide) ⟨rfl, rfl⟩ ⟨Nat.le_of_ble_eq_true rfl, Nat.le_of_ble_eq_true rfl, Nat.le_of_ble_eq_true rfl, Nat.le_of_ble_eq_true rfl⟩ (Nat.le_of_ble_eq_true rfl) dX4_countTurnsOfY_69 (rfl : _ = 0) (rfl : _ = 0) rfl ?_
            rintro _ _ ⟨rfl, rfl⟩
            refine g_is (ws' := [(h, .inr (5, [vR xs, vR ys, vI n, vI df])), (xs, cI E 8 X), (ys, cI E 8 Y)]) (st' := [vI (af n i), vR ys]) rfl rfl ?_
            have ha1 := af_r (n := n) (k := i) (by omega) (by omega)
            have yb1 := hY i (by omega) (by omega)
            have yb2 := hY (af n i) (by omega) (by omega)
            refine g_iald C 2 rfl (by omega) (by omega) (by decide) rfl dX4_countTurnsOfY_72 rfl ?_
            refine g_aload_n C 0 rfl dX4_countTurnsOfY_73 rfl ?_
            refine g_get C 0 fd_X4_countTurnsOfY_15 rfl rfl rfl dX4_countTurnsOfY_74 rfl ?_
            refine g_iload_n C 3 rfl dX4_countTurnsOfY_77 rfl ?_
            refine g_iald C 2 rfl (by omega) (by omega) (by decide) rfl dX4_countTurnsOfY_78 rfl ?_
            refine g_callS C (As := [vI (Y (af n i)), vI (Y i)]) (wc := []) (wr := [(h, .inr (5, [vR xs, vR ys, vI n, vI df])), (xs, cI E 8 X), (ys, cI E 8 Y)]) (st := []) gX4_countTurnsOfY_J6_compare_7cf53 rfl (K_compare l E (Y (af n i)) (Y i) ⟨by omega, by omega⟩ ⟨by omega, by omega⟩) hyd_J6_compare_7cf53 rfl [] [0, 1, 2] rfl rfl rfl rfl rfl (by decide) ⟨rfl, rfl⟩ ⟨Nat.le_of_ble_eq_true rfl, Nat.le_of_ble_eq_true rfl, Nat.le_of_ble_eq_true rfl, Nat.le_of_ble_eq_true rfl⟩ (Nat.le_of_ble_eq_true rfl) dX4_countTurnsOfY_79 (rfl : _ = 0) (rfl : _ = 0) rfl ?_
            rintro _ _ ⟨rfl, rfl⟩
            refine g_is (ws' := [(h, .inr (5, [vR xs, vR ys, vI n, vI df])), (xs, cI E 8 X), (ys, cI E 8 Y)]) (st' := [vI (sgn3 (Y (af n i)) (Y i))]) rfl rfl ?_
            have hs1 := ysg_r Y n i
            unfold ysg at hs1
            have hl1 := lsg_r (f := ysg Y n) (b := lsg (ysg Y n) 0 (Int.toNat n)) (lsg_r (by decide) (ysg_r Y n) _) (ysg_r Y n) (Int.toNat i)
            refine g_istore C (lv' := [(0, vR h), (1, vI (tcn (ysg Y n) (lsg (ysg Y n) 0 (Int.toNat n)) (Int.toNat i))), (2, vI (lsg (ysg Y n) (lsg (ysg Y n) 0 (Int.toNat n)) (Int.toNat i))), (3, vI i), (4, vI (sgn3 (Y (af n i)) (Y i)))]) [1, 2, 3, 4, 0] (by decide) rfl rfl dX4_countTurnsOfY_82 rfl ?_
            refine g_iload C 4 rfl dX4_countTurnsOfY_84 rfl ?_
            refine g_if_eq C (tgt := 101) ⟨by omega, by omega⟩ dX4_countTurnsOfY_86 (by decide) rfl (fun c_3 => ?_) (fun c_3 => ?_)
            · refine g_iinc C (r := (i + 1)) (lv' := [(0, vR h), (1, vI (tcn (ysg Y n) (lsg (ysg Y n) 0 (Int.toNat n)) (Int.toNat i))), (2, vI (lsg (ysg Y n) (lsg (ysg Y n) 0 (Int.toNat n)) (Int.toNat i))), (3, vI (i + 1)), (4, vI (sgn3 (Y (af n i)) (Y i)))]) 3 [1, 2, 3, 0, 4] rfl rfl (by decide) rfl rfl dX4_countTurnsOfY_101 rfl ?_
              refine g_goto C (pc' := 55) dX4_countTurnsOfY_104 (by decide) ?_
              refine g_lv (lv' := [(0, vR h), (1, vI (tcn (ysg Y n) (lsg (ysg Y n) 0 (Int.toNat n)) (Int.toNat i))), (2, vI (lsg (ysg Y n) (lsg (ysg Y n) 0 (Int.toNat n)) (Int.toNat i))), (3, vI (i + 1))]) [0, 1, 2, 3] rfl ?_
              refine g_cast (ws' := [(h, .inr (5, [vR xs, vR ys, vI n, vI df])), (xs, cI E 8 X), (ys, cI E 8 Y)]) (lv' := [(0, vR h), (1, vI (tcn (ysg Y n) (lsg (ysg Y n) 0 (Int.toNat n)) (Int.toNat (i + 1)))), (2, vI (lsg (ysg Y n) (lsg (ysg Y n) 0 (Int.toNat n)) (Int.toNat i))), (3, vI (i + 1))]) (st' := []) rfl (congrArg (fun z_ : Int => ([(0, vR h), (1, vI z_), (2, vI (lsg (ysg Y n) (lsg (ysg Y n) 0 (Int.toNat n)) (Int.toNat i))), (3, vI (i + 1))] : List (Nat × Value))) (show (tcn (ysg Y n) (lsg (ysg Y n) 0 (Int.toNat n)) (Int.toNat i)) = (tcn (ysg Y n) (lsg (ysg Y n) 0 (Int.toNat n)) (Int.toNat (i + 1))) by (first | rw [lsg_s h0] | rw [tcn_s h0]); simp only [ysg]; (repeat' split) <;> first | rfl | omega)) rfl ?_
              refine g_cast (ws' := [(h, .inr (5, [vR xs, vR ys, vI n, vI df])), (xs, cI E 8 X), (ys, cI E 8 Y)]) (lv' := [(0, vR h), (1, vI (tcn (ysg Y n) (lsg (ysg Y n) 0 (Int.toNat n)) (Int.toNat (i + 1)))), (2, vI (lsg (ysg Y n) (lsg (ysg Y n) 0 (Int.toNat n)) (Int.toNat (i + 1)))), (3, vI (i + 1))]) (st' := []) rfl (congrArg (fun z_ : Int => ([(0, vR h), (1, vI (tcn (ysg Y n) (lsg (ysg Y n) 0 (Int.toNat n)) (Int.toNat (i + 1)))), (2, vI z_), (3, vI (i + 1))] : List (Nat × Value))) (show (lsg (ysg Y n) (lsg (ysg Y n) 0 (Int.toNat n)) (Int.toNat i)) = (lsg (ysg Y n) (lsg (ysg Y n) 0 (Int.toNat n)) (Int.toNat (i + 1))) by (first | rw [lsg_s h0] | rw [tcn_s h0]); simp only [ysg]; (repeat' split) <;> first | rfl | omega)) rfl ?_
              exact ih _ (by omega) (i + 1) (by omega) (by omega) rfl
            refine g_iload C 4 rfl dX4_countTurnsOfY_89 rfl ?_
            refine g_iload_n C 2 rfl dX4_countTurnsOfY_91 rfl ?_
            refine g_icmp_eq C (tgt := 101) ⟨by omega, by omega⟩ ⟨by omega, by omega⟩ dX4_countTurnsOfY_92 (by decide) rfl (fun c_4 => ?_) (fun c_4 => ?_)
            · refine g_iinc C (r := (i + 1)) (lv' := [(0, vR h), (1, vI (tcn (ysg Y n) (lsg (ysg Y n) 0 (Int.toNat n)) (Int.toNat i))), (2, vI (lsg (ysg Y n) (lsg (ysg Y n) 0 (Int.toNat n)) (Int.toNat i))), (3, vI (i + 1)), (4, vI (sgn3 (Y (af n i)) (Y i)))]) 3 [1, 2, 3, 0, 4] rfl rfl (by decide) rfl rfl dX4_countTurnsOfY_101 rfl ?_
              refine g_goto C (pc' := 55) dX4_countTurnsOfY_104 (by decide) ?_
              refine g_lv (lv' := [(0, vR h), (1, vI (tcn (ysg Y n) (lsg (ysg Y n) 0 (Int.toNat n)) (Int.toNat i))), (2, vI (lsg (ysg Y n) (lsg (ysg Y n) 0 (Int.toNat n)) (Int.toNat i))), (3, vI (i + 1))]) [0, 1, 2, 3] rfl ?_
              refine g_cast (ws' := [(h, .inr (5, [vR xs, vR ys, vI n, vI df])), (xs, cI E 8 X), (ys, cI E 8 Y)]) (lv' := [(0, vR h), (1, vI (tcn (ysg Y n) (lsg (ysg Y n) 0 (Int.toNat n)) (Int.toNat (i + 1)))), (2, vI (lsg (ysg Y n) (lsg (ysg Y n) 0 (Int.toNat n)) (Int.toNat i))), (3, vI (i + 1))]) (st' := []) rfl (congrArg (fun z_ : Int => ([(0, vR h), (1, vI z_), (2, vI (lsg (ysg Y n) (lsg (ysg Y n) 0 (Int.toNat n)) (Int.toNat i))), (3, vI (i + 1))] : List (Nat × Value))) (show (tcn (ysg Y n) (lsg (ysg Y n) 0 (Int.toNat n)) (Int.toNat i)) = (tcn (ysg Y n) (lsg (ysg Y n) 0 (Int.toNat n)) (Int.toNat (i + 1))) by (first | rw [lsg_s h0] | rw [tcn_s h0]); simp only [ysg]; (repeat' split) <;> first | rfl | omega)) rfl ?_
              refine g_cast (ws' := [(h, .inr (5, [vR xs, vR ys, vI n, vI df])), (xs, cI E 8 X), (ys, cI E 8 Y)]) (lv' := [(0, vR h), (1, vI (tcn (ysg Y n) (lsg (ysg Y n) 0 (Int.toNat n)) (Int.toNat (i + 1)))), (2, vI (lsg (ysg Y n) (lsg (ysg Y n) 0 (Int.toNat n)) (Int.toNat (i + 1)))), (3, vI (i + 1))]) (st' := []) rfl (congrArg (fun z_ : Int => ([(0, vR h), (1, vI (tcn (ysg Y n) (lsg (ysg Y n) 0 (Int.toNat n)) (Int.toNat (i + 1)))), (2, vI z_), (3, vI (i + 1))] : List (Nat × Value))) (show (lsg (ysg Y n) (lsg (ysg Y n) 0 (Int.toNat n)) (Int.toNat i)) = (lsg (ysg Y n) (lsg (ysg Y n) 0 (Int.toNat n)) (Int.toNat (i + 1))) by (first | rw [lsg_s h0] | rw [tcn_s h0]); simp only [ysg]; (repeat' split) <;> first | rfl | omega)) rfl ?_
              exact ih _ (by omega) (i + 1) (by omega) (by omega) rfl
            refine g_iinc C (r := ((tcn (ysg Y n) (lsg (ysg Y n) 0 (Int.toNat n)) (Int.toNat i)) + 1)) (lv' := [(0, vR h), (1, vI ((tcn (ysg Y n) (lsg (ysg Y n) 0 (Int.toNat n)) (Int.toNat i)) + 1)), (2, vI (lsg (ysg Y n) (lsg (ysg Y n) 0 (Int.toNat n)) (Int.toNat i))), (3, vI i), (4, vI (sgn3 (Y (af n i)) (Y i)))]) 1 [1, 0, 2, 3, 4] rfl rfl (by decide) rfl rfl dX4_countTurnsOfY_95 rfl ?_
            refine g_iload C 4 rfl dX4_countTurnsOfY_98 rfl ?_
            refine g_istore_n C (lv' := [(0, vR h), (1, vI ((tcn (ysg Y n) (lsg (ysg Y n) 0 (Int.toNat n)) (Int.toNat i)) + 1)), (2, vI (sgn3 (Y (af n i)) (Y i))), (3, vI i), (4, vI (sgn3 (Y (af n i)) (Y i)))]) [1, 2, 0, 3, 4] (by decide) rfl rfl dX4_countTurnsOfY_100 rfl ?_
            refine g_iinc C (r := (i + 1)) (lv' := [(0, vR h), (1, vI ((tcn (ysg Y n) (lsg (ysg Y n) 0 (Int.toNat n)) (Int.toNat i)) + 1)), (2, vI (sgn3 (Y (af n i)) (Y i))), (3, vI (i + 1)), (4, vI (sgn3 (Y (af n i)) (Y i)))]) 3 [1, 2, 3, 0, 4] rfl rfl (by decide) rfl rfl dX4_countTurnsOfY_101 rfl ?_
            refine g_goto C (pc' := 55) dX4_countTurnsOfY_104 (by decide) ?_
            refine g_lv (lv' := [(0, vR h), (1, vI ((tcn (ysg Y n) (lsg (ysg Y n) 0 (Int.toNat n)) (Int.toNat i)) + 1)), (2, vI (sgn3 (Y (af n i)) (Y i))), (3, vI (i + 1))]) [0, 1, 2, 3] rfl ?_
            refine g_cast (ws' := [(h, .inr (5, [vR xs, vR ys, vI n, vI df])), (xs, cI E 8 X), (ys, cI E 8 Y)]) (lv' := [(0, vR h), (1, vI (tcn (ysg Y n) (lsg (ysg Y n) 0 (Int.toNat n)) (Int.toNat (i + 1)))), (2, vI (sgn3 (Y (af n i)) (Y i))), (3, vI (i + 1))]) (st' := []) rfl (congrArg (fun z_ : Int => ([(0, vR h), (1, vI z_), (2, vI (sgn3 (Y (af n i)) (Y i))), (3, vI (i + 1))] : List (Nat × Value))) (show ((tcn (ysg Y n) (lsg (ysg Y n) 0 (Int.toNat n)) (Int.toNat i)) + 1) = (tcn (ysg Y n) (lsg (ysg Y n) 0 (Int.toNat n)) (Int.toNat (i + 1))) by (first | rw [lsg_s h0] | rw [tcn_s h0]); simp only [ysg]; (repeat' split) <;> first | rfl | omega)) rfl ?_
            refine g_cast (ws' := [(h, .inr (5, [vR xs, vR ys, vI n, vI df])), (xs, cI E 8 X), (ys, cI E 8 Y)]) (lv' := [(0, vR h), (1, vI (tcn (ysg Y n) (lsg (ysg Y n) 0 (Int.toNat n)) (Int.toNat (i + 1)))), (2, vI (lsg (ysg Y n) (lsg (ysg Y n) 0 (Int.toNat n)) (Int.toNat (i + 1)))), (3, vI (i + 1))]) (st' := []) rfl (congrArg (fun z_ : Int => ([(0, vR h), (1, vI (tcn (ysg Y n) (lsg (ysg Y n) 0 (Int.toNat n)) (Int.toNat (i + 1)))), (2, vI z_), (3, vI (i + 1))] : List (Nat × Value))) (show (sgn3 (Y (af n i)) (Y i)) = (lsg (ysg Y n) (lsg (ysg Y n) 0 (Int.toNat n)) (Int.toNat (i + 1))) by (first | rw [lsg_s h0] | rw [tcn_s h0]); simp only [ysg]; (repeat' split) <;> first | rfl | omega)) rfl ?_
            exact ih _ (by omega) (i + 1) (by omega) (by omega) rfl
        refine g_cast (ws' := [(h, .inr (5, [vR xs, vR ys, vI n, vI df])), (xs, cI E 8 X), (ys, cI E 8 Y)]) (lv' := [(0, vR h), (1, vI (tcn (ysg Y n) (lsg (ysg Y n) 0 (Int.toNat n)) (Int.toNat 0))), (2, vI (lsg (ysg Y n) 0 (Int.toNat i))), (3, vI 0)]) (st' := []) rfl (congrArg (fun z_ : Int => ([(0, vR h), (1, vI z_), (2, vI (lsg (ysg Y n) 0 (Int.toNat i))), (3, vI 0)] : List (Nat × Value))) (show 0 = (tcn (ysg Y n) (lsg (ysg Y n) 0 (Int.toNat n)) (Int.toNat 0)) by first | rfl | (rw [show n = i by omega]; rfl))) rfl ?_
        refine g_cast (ws' := [(h, .inr (5, [vR xs, vR ys, vI n, vI df])), (xs, cI E 8 X), (ys, cI E 8 Y)]) (lv' := [(0, vR h), (1, vI (tcn (ysg Y n) (lsg (ysg Y n) 0 (Int.toNat n)) (Int.toNat 0))), (2, vI (lsg (ysg Y n) (lsg (ysg Y n) 0 (Int.toNat n)) (Int.toNat 0))), (3, vI 0)]) (st' := []) rfl (congrArg (fun z_ : Int => ([(0, vR h), (1, vI (tcn (ysg Y n) (lsg (ysg Y n) 0 (Int.toNat n)) (Int.toNat 0))), (2, vI z_), (3, vI 0)] : List (Nat × Value))) (show (lsg (ysg Y n) 0 (Int.toNat i)) = (lsg (ysg Y n) (lsg (ysg Y n) 0 (Int.toNat n)) (Int.toNat 0)) by first | rfl | (rw [show n = i by omega]; rfl))) rfl ?_
        exact hL_55 _ 0 (by omega) (by omega) rfl
      refine g_aload_n C 0 rfl dX4_countTurnsOfY_14 rfl ?_
      refine g_get C 0 fd_X4_countTurnsOfY_15 rfl rfl rfl dX4_countTurnsOfY_15 rfl ?_
      refine g_aload_n C 0 rfl dX4_countTurnsOfY_18 rfl ?_
      refine g_iload_n C 3 rfl dX4_countTurnsOfY_19 rfl ?_
      refine g_callV C (b := h) (As := [vI i]) (wc := [(h, .inr (5, [vR xs, vR ys, vI n, vI df])), (xs, cI E 8 X), (ys, cI E 8 Y)]) (wr := []) (st := [vR ys]) gX4_countTurnsOfY_X4_after (q9 := 0) (ci := 5) rfl rfl rfl (K_after l E h xs ys X Y n df i hn (by first | assumption | omega)) hyd_X4_after rfl [0, 1, 2] [] rfl rfl rfl rfl rfl (by decide) ⟨rfl, rfl⟩ ⟨Nat.le_of_ble_eq_true rfl, Nat.le_of_ble_eq_true rfl, Nat.le_of_ble_eq_true rfl, Nat.le_of_ble_eq_true rfl⟩ (Nat.le_of_ble_eq_true rfl) dX4_countTurnsOfY_20 (rfl : _ = 0) (rfl : _ = 0) rfl ?_
      rintro _ _ ⟨rfl, rfl⟩
      refine g_is (ws' := [(h, .inr (5, [vR xs, vR ys, vI n, vI df])), (xs, cI E 8 X), (ys, cI E 8 Y)]) (st' := [vI (af n i), vR ys]) rfl rfl ?_
      have ha1 := af_r (n := n) (k := i) (by omega) (by omega)
      have yb1 := hY i (by omega) (by omega)
      have yb2 := hY (af n i) (by omega) (by omega)
      refine g_iald C 2 rfl (by omega) (by omega) (by decide) rfl dX4_countTurnsOfY_23 rfl ?_
      refine g_aload_n C 0 rfl dX4_countTurnsOfY_24 rfl ?_
      refine g_get C 0 fd_X4_countTurnsOfY_15 rfl rfl rfl dX4_countTurnsOfY_25 rfl ?_
      refine g_iload_n C 3 rfl dX4_countTurnsOfY_28 rfl ?_
      refine g_iald C 2 rfl (by omega) (by omega) (by decide) rfl dX4_countTurnsOfY_29 rfl ?_
      refine g_callS C (As := [vI (Y (af n i)), vI (Y i)]) (wc := []) (wr := [(h, .inr (5, [vR xs, vR ys, vI n, vI df])), (xs, cI E 8 X), (ys, cI E 8 Y)]) (st := []) gX4_countTurnsOfY_J6_compare_7cf53 rfl (K_compare l E (Y (af n i)) (Y i) ⟨by omega, by omega⟩ ⟨by omega, by omega⟩) hyd_J6_compare_7cf53 rfl [] [0, 1, 2] rfl rfl rfl rfl rfl (by decide) ⟨rfl, rfl⟩ ⟨Nat.le_of_ble_eq_true rfl, Nat.le_of_ble_eq_true rfl, Nat.le_of_ble_eq_true rfl, Nat.le_of_ble_eq_true rfl⟩ (Nat.le_of_ble_eq_true rfl) dX4_countTurnsOfY_30 (rfl : _ = 0) (rfl : _ = 0) rfl ?_
      rintro _ _ ⟨rfl, rfl⟩
      refine g_is (ws' := [(h, .inr (5, [vR xs, vR ys, vI n, vI df])), (xs, cI E 8 X), (ys, cI E 8 Y)]) (st' := [vI (sgn3 (Y (af n i)) (Y i))]) rfl rfl ?_
      have hs1 := ysg_r Y n i
      unfold ysg at hs1
      refine g_istore C (lv' := [(0, vR h), (1, vI 0), (2, vI (lsg (ysg Y n) 0 (Int.toNat i))), (3, vI i), (4, vI (sgn3 (Y (af n i)) (Y i)))]) [1, 2, 3, 4, 0] (by decide) rfl rfl dX4_countTurnsOfY_33 rfl ?_
      refine g_iload C 4 rfl dX4_countTurnsOfY_35 rfl ?_
      refine g_if_ne C (tgt := 44) ⟨by omega, by omega⟩ dX4_countTurnsOfY_37 (by decide) rfl (fun c_5 => ?_) (fun c_5 => ?_)
      · refine g_iload C 4 rfl dX4_countTurnsOfY_44 rfl ?_
        refine g_istore_n C (lv' := [(0, vR h), (1, vI 0), (2, vI (sgn3 (Y (af n i)) (Y i))), (3, vI i), (4, vI (sgn3 (Y (af n i)) (Y i)))]) [1, 2, 0, 3, 4] (by decide) rfl rfl dX4_countTurnsOfY_46 rfl ?_
        refine g_iinc C (r := (i + 1)) (lv' := [(0, vR h), (1, vI 0), (2, vI (sgn3 (Y (af n i)) (Y i))), (3, vI (i + 1)), (4, vI (sgn3 (Y (af n i)) (Y i)))]) 3 [1, 2, 3, 0, 4] rfl rfl (by decide) rfl rfl dX4_countTurnsOfY_47 rfl ?_
        refine g_goto C (pc' := 6) dX4_countTurnsOfY_50 (by decide) ?_
        refine g_lv (lv' := [(0, vR h), (1, vI 0), (2, vI (sgn3 (Y (af n i)) (Y i))), (3, vI (i + 1))]) [0, 1, 2, 3] rfl ?_
        refine g_cast (ws' := [(h, .inr (5, [vR xs, vR ys, vI n, vI df])), (xs, cI E 8 X), (ys, cI E 8 Y)]) (lv' := [(0, vR h), (1, vI 0), (2, vI (lsg (ysg Y n) 0 (Int.toNat (i + 1)))), (3, vI (i + 1))]) (st' := []) rfl (congrArg (fun z_ : Int => ([(0, vR h), (1, vI 0), (2, vI z_), (3, vI (i + 1))] : List (Nat × Value))) (show (sgn3 (Y (af n i)) (Y i)) = (lsg (ysg Y n) 0 (Int.toNat (i + 1))) by (first | rw [lsg_s h0] | rw [tcn_s h0]); simp only [ysg]; (repeat' split) <;> first | rfl | omega)) rfl ?_
        exact ih _ (by omega) (i + 1) (by omega) (by omega) rfl
      refine g_iload_n C 2 rfl dX4_countTurnsOfY_40 rfl ?_
      refine g_goto C (pc' := 46) dX4_countTurnsOfY_41 (by decide) ?_
      refine g_istore_n C (lv' := [(0, vR h), (1, vI 0), (2, vI (lsg (ysg Y n) 0 (Int.toNat i))), (3, vI i), (4, vI (sgn3 (Y (af n i)) (Y i)))]) [1, 2, 0, 3, 4] (by decide) rfl rfl dX4_countTurnsOfY_46 rfl ?_
      refine g_iinc C (r := (i + 1)) (lv' := [(0, vR h), (1, vI 0), (2, vI (lsg (ysg Y n) 0 (Int.toNat i))), (3, vI (i + 1)), (4, vI (sgn3 (Y (af n i)) (Y i)))]) 3 [1, 2, 3, 0, 4] rfl rfl (by decide) rfl rfl dX4_countTurnsOfY_47 rfl ?_
      refine g_goto C (pc' := 6) dX4_countTurnsOfY_50 (by decide) ?_
      refine g_lv (lv' := [(0, vR h), (1, vI 0), (2, vI (lsg (ysg Y n) 0 (Int.toNat i))), (3, vI (i + 1))]) [0, 1, 2, 3] rfl ?_
      refine g_cast (ws' := [(h, .inr (5, [vR xs, vR ys, vI n, vI df])), (xs, cI E 8 X), (ys, cI E 8 Y)]) (lv' := [(0, vR h), (1, vI 0), (2, vI (lsg (ysg Y n) 0 (Int.toNat (i + 1)))), (3, vI (i + 1))]) (st' := []) rfl (congrArg (fun z_ : Int => ([(0, vR h), (1, vI 0), (2, vI z_), (3, vI (i + 1))] : List (Nat × Value))) (show (lsg (ysg Y n) 0 (Int.toNat i)) = (lsg (ysg Y n) 0 (Int.toNat (i + 1))) by (first | rw [lsg_s h0] | rw [tcn_s h0]); simp only [ysg]; (repeat' split) <;> first | rfl | omega)) rfl ?_
      exact ih _ (by omega) (i + 1) (by omega) (by omega) rfl
  refine g_cast (ws' := [(h, .inr (5, [vR xs, vR ys, vI n, vI df])), (xs, cI E 8 X), (ys, cI E 8 Y)]) (lv' := [(0, vR h), (1, vI 0), (2, vI (lsg (ysg Y n) 0 (Int.toNat 0))), (3, vI 0)]) (st' := []) rfl (congrArg (fun z_ : Int => ([(0, vR h), (1, vI 0), (2, vI z_), (3, vI 0)] : List (Nat × Value))) (show 0 = (lsg (ysg Y n) 0 (Int.toNat 0)) by first | rfl | (rw [show n = i by omega]; rfl))) rfl ?_
  exact hL_6 _ 0 (by omega) (by omega) rfl

theorem in_X4_findDefect_X4 : ∀ w ∈ u_ws RX4 TX4 4, w ∈ wsX4_findDefect := by decide +kernel
theorem fd_X4_findDefect_28 : fdk wsX4_findDefect RX4 28 "ZoneRelay$Polygon" RX4 TX4 4 2 := ⟨in_X4_findDefect_X4, by decide +kernel, by decide, rfl⟩
theorem hyd_X4_turnsLeftEverywhere : yX4_turnsLeftEverywhere.cls ≠ "java/lang/invoke/MethodHandle" ∧ yX4_turnsLeftEverywhere.cls ≠ "java/lang/invoke/VarHandle" ∧ (parseMethodDescriptor yX4_turnsLeftEverywhere.desc).map (fun d => d.parameters.length) = some 0 := by decide +kernel
theorem hyd_X4_countTurnsOfY : yX4_countTurnsOfY.cls ≠ "java/lang/invoke/MethodHandle" ∧ yX4_countTurnsOfY.cls ≠ "java/lang/invoke/VarHandle" ∧ (parseMethodDescriptor yX4_countTurnsOfY.desc).map (fun d => d.parameters.length) = some 0 := by decide +kernel
abbrev rm_K_findDefect : Room := { frames := 2, cells := 0, slots := 0, locals := 46 }
set_option maxHeartbeats 8000000 in
set_option maxRecDepth 100000 in
theorem K_findDefect (l : Launch) (E : Ev) (h xs ys : Nat) (X Y : Int → Int) (n df : Int) (hn : 0 ≤ n ∧ n ≤ 8) (hX : cbA X) (hY : cbA Y) : Mc l yX4_findDefect wsX4_findDefect rm_K_findDefect E [vR h] [(h, .inr (5, [vR xs, vR ys, vI n, vI df])), (xs, cI E 8 X), (ys, cI E 8 Y)] 0 0 (fun v9 w9 => v9 = some (vI (snd X Y n)) ∧ w9 = [(h, .inr (5, [vR xs, vR ys, vI n, vI df])), (xs, cI E 8 X), (ys, cI E 8 Y)]) := by
  refine Mc.intro (cc := cX4_findDefect) (maxL := 1) (ret := (some .int)) (lv0 := [(0, vR h)]) (by decide +kernel) rfl rfl (Nat.le_of_ble_eq_true rfl) ?_
  intro p9 e9 s9 m9 args9 below9 meth9 c9 A9 C hr hmn
  have C : Cx p9 s9 m9 args9 meth9 c9 E A9 1 cX4_findDefect wsX4_findDefect RX4 := C
  refine g_aload_n C 0 rfl dX4_findDefect_0 rfl ?_
  refine g_get C 0 fd_X4_findDefect_28 rfl rfl rfl dX4_findDefect_1 rfl ?_
  refine g_iconst C dX4_findDefect_4 rfl ?_
  refine g_icmp_ge C (tgt := 10) ⟨by omega, by omega⟩ ⟨by decide, by decide⟩ dX4_findDefect_5 (by decide) rfl (fun c_1 => ?_) (fun c_1 => ?_)
  · refine g_aload_n C 0 rfl dX4_findDefect_10 rfl ?_
    refine g_callV C (b := h) (As := []) (wc := [(h, .inr (5, [vR xs, vR ys, vI n, vI df])), (xs, cI E 8 X), (ys, cI E 8 Y)]) (wr := []) (st := []) gX4_findDefect_X4_turnsLeftEverywhere (q9 := 0) (ci := 5) rfl rfl rfl (K_turnsLeft l E h xs ys X Y n df hn hX hY) hyd_X4_turnsLeftEverywhere rfl [0, 1, 2] [] rfl rfl rfl rfl rfl (by decide) ⟨rfl, rfl⟩ ⟨Nat.le_of_ble_eq_true rfl, Nat.le_of_ble_eq_true rfl, Nat.le_of_ble_eq_true rfl, Nat.le_of_ble_eq_true rfl⟩ (Nat.le_of_ble_eq_true rfl) dX4_findDefect_11 (rfl : _ = 0) (rfl : _ = 0) rfl ?_
    rintro _ _ ⟨rfl, rfl⟩
    refine g_is (ws' := [(h, .inr (5, [vR xs, vR ys, vI n, vI df])), (xs, cI E 8 X), (ys, cI E 8 Y)]) (st' := [vI (bP (allB (tlB X Y n) n.toNat = true))]) rfl rfl ?_
    refine g_ifb_ne C (tgt := 19) dX4_findDefect_14 (by decide) rfl (fun c_2 => ?_) (fun c_2 => ?_)
    · refine g_aload_n C 0 rfl dX4_findDefect_19 rfl ?_
      refine g_callV C (b := h) (As := []) (wc := [(h, .inr (5, [vR xs, vR ys, vI n, vI df])), (xs, cI E 8 X), (ys, cI E 8 Y)]) (wr := []) (st := []) gX4_findDefect_X4_countTurnsOfY (q9 := 0) (ci := 5) rfl rfl rfl (K_countTurns l E h xs ys X Y n df hn hX hY) hyd_X4_countTurnsOfY rfl [0, 1, 2] [] rfl rfl rfl rfl rfl (by decide) ⟨rfl, rfl⟩ ⟨Nat.le_of_ble_eq_true rfl, Nat.le_of_ble_eq_true rfl, Nat.le_of_ble_eq_true rfl, Nat.le_of_ble_eq_true rfl⟩ (Nat.le_of_ble_eq_true rfl) dX4_findDefect_20 (rfl : _ = 0) (rfl : _ = 0) rfl ?_
      rintro _ _ ⟨rfl, rfl⟩
      refine g_is (ws' := [(h, .inr (5, [vR xs, vR ys, vI n, vI df])), (xs, cI E 8 X), (ys, cI E 8 Y)]) (st' := [vI (yturns Y n)]) rfl rfl ?_
      have ht := tcn_r (f := ysg Y n) (b := lsg (ysg Y n) 0 (Int.toNat n)) (Int.toNat n)
      refine g_iconst C dX4_findDefect_23 rfl ?_
      refine g_icmp_ne C (tgt := 31) (by unfold yturns; exact ⟨by omega, by omega⟩) ⟨by decide, by decide⟩ dX4_findDefect_24 (by decide) rfl (fun c_3 => ?_) (fun c_3 => ?_)
      · refine g_iconst C dX4_findDefect_31 rfl ?_
        refine g_top (v' := vI (snd X Y n)) (congrArg (fun z_ : Int => vI z_) (show (snd X Y n) = 3 by unfold snd; (repeat' split) <;> first | rfl | omega | contradiction | (exfalso; simp_all))) ?_
        exact g_iret C hr rfl (Nat.le_of_ble_eq_true rfl) (Nat.le_of_ble_eq_true rfl) dX4_findDefect_32 ⟨rfl, rfl⟩
      refine g_iconst C dX4_findDefect_27 rfl ?_
      refine g_goto C (pc' := 32) dX4_findDefect_28 (by decide) ?_
      refine g_top (v' := vI (snd X Y n)) (congrArg (fun z_ : Int => vI z_) (show (snd X Y n) = 0 by unfold snd; (repeat' split) <;> first | rfl | omega | contradiction | (exfalso; simp_all))) ?_
      exact g_iret C hr rfl (Nat.le_of_ble_eq_true rfl) (Nat.le_of_ble_eq_true rfl) dX4_findDefect_32 ⟨rfl, rfl⟩
    refine g_iconst C dX4_findDefect_17 rfl ?_
    refine g_top (v' := vI (snd X Y n)) (congrArg (fun z_ : Int => vI z_) (show (snd X Y n) = 2 by unfold snd; (repeat' split) <;> first | rfl | omega | contradiction | (exfalso; simp_all))) ?_
    exact g_iret C hr rfl (Nat.le_of_ble_eq_true rfl) (Nat.le_of_ble_eq_true rfl) dX4_findDefect_18 ⟨rfl, rfl⟩
  refine g_iconst C dX4_findDefect_8 rfl ?_
  refine g_top (v' := vI (snd X Y n)) (congrArg (fun z_ : Int => vI z_) (show (snd X Y n) = 1 by unfold snd; (repeat' split) <;> first | rfl | omega | contradiction | (exfalso; simp_all))) ?_
  exact g_iret C hr rfl (Nat.le_of_ble_eq_true rfl) (Nat.le_of_ble_eq_true rfl) dX4_findDefect_9 ⟨rfl, rfl⟩

theorem in_X4_empty_X4 : ∀ w ∈ u_ws RX4 TX4 4, w ∈ wsX4_empty := by decide +kernel
theorem fd_X4_empty_28 : fdk wsX4_empty RX4 28 "ZoneRelay$Polygon" RX4 TX4 4 2 := ⟨in_X4_empty_X4, by decide +kernel, by decide, rfl⟩
theorem fd_X4_empty_18 : fdk wsX4_empty RX4 18 "ZoneRelay$Polygon" RX4 TX4 4 3 := ⟨in_X4_empty_X4, by decide +kernel, by decide, rfl⟩
abbrev rm_K_empty : Room := { frames := 0, cells := 0, slots := 0, locals := 0 }
set_option maxHeartbeats 8000000 in
set_option maxRecDepth 100000 in
theorem K_empty (l : Launch) (E : Ev) (h xs ys : Nat) (X Y : Int → Int) (n df : Int)  : Mc l yX4_empty wsX4_empty rm_K_empty E [vR h] [(h, .inr (5, [vR xs, vR ys, vI n, vI df])), (xs, cI E 8 X), (ys, cI E 8 Y)] 0 0 (fun v9 w9 => v9 = none ∧ w9 = [(h, .inr (5, [vR xs, vR ys, vI 0, vI 1])), (xs, cI E 8 X), (ys, cI E 8 Y)]) := by
  refine Mc.intro (cc := cX4_empty) (maxL := 1) (ret := none) (lv0 := [(0, vR h)]) (by decide +kernel) rfl rfl (Nat.le_of_ble_eq_true rfl) ?_
  intro p9 e9 s9 m9 args9 below9 meth9 c9 A9 C hr hmn
  have C : Cx p9 s9 m9 args9 meth9 c9 E A9 1 cX4_empty wsX4_empty RX4 := C
  refine g_aload_n C 0 rfl dX4_empty_0 rfl ?_
  refine g_iconst C dX4_empty_1 rfl ?_
  refine g_put C tyX4 tyX4_ok nmX4 0 fd_X4_empty_28 rfl rfl rfl rfl rfl rfl (Nat.le_of_ble_eq_true rfl) (ws' := [(h, .inr (5, [vR xs, vR ys, vI 0, vI df])), (xs, cI E 8 X), (ys, cI E 8 Y)]) rfl dX4_empty_2 rfl ?_
  refine g_aload_n C 0 rfl dX4_empty_5 rfl ?_
  refine g_iconst C dX4_empty_6 rfl ?_
  refine g_put C tyX4 tyX4_ok nmX4 0 fd_X4_empty_18 rfl rfl rfl rfl rfl rfl (Nat.le_of_ble_eq_true rfl) (ws' := [(h, .inr (5, [vR xs, vR ys, vI 0, vI 1])), (xs, cI E 8 X), (ys, cI E 8 Y)]) rfl dX4_empty_7 rfl ?_
  exact g_vret C hr (Nat.le_of_ble_eq_true rfl) (Nat.le_of_ble_eq_true rfl) dX4_empty_10 ⟨rfl, rfl⟩

theorem in_X4_append_X4 : ∀ w ∈ u_ws RX4 TX4 4, w ∈ wsX4_append := by decide +kernel
theorem fd_X4_append_28 : fdk wsX4_append RX4 28 "ZoneRelay$Polygon" RX4 TX4 4 2 := ⟨in_X4_append_X4, by decide +kernel, by decide, rfl⟩
theorem fd_X4_append_9 : fdk wsX4_append RX4 9 "ZoneRelay$Polygon" RX4 TX4 4 0 := ⟨in_X4_append_X4, by decide +kernel, by decide, rfl⟩
theorem fd_X4_append_15 : fdk wsX4_append RX4 15 "ZoneRelay$Polygon" RX4 TX4 4 1 := ⟨in_X4_append_X4, by decide +kernel, by decide, rfl⟩
theorem hyd_X4_findDefect : yX4_findDefect.cls ≠ "java/lang/invoke/MethodHandle" ∧ yX4_findDefect.cls ≠ "java/lang/invoke/VarHandle" ∧ (parseMethodDescriptor yX4_findDefect.desc).map (fun d => d.parameters.length) = some 0 := by decide +kernel
theorem fd_X4_append_18 : fdk wsX4_append RX4 18 "ZoneRelay$Polygon" RX4 TX4 4 3 := ⟨in_X4_append_X4, by decide +kernel, by decide, rfl⟩
abbrev rm_K_append : Room := { frames := 3, cells := 0, slots := 0, locals := 66 }
set_option maxHeartbeats 8000000 in
set_option maxRecDepth 100000 in
theorem K_append (l : Launch) (E : Ev) (h xs ys : Nat) (X Y : Int → Int) (n df x y : Int) (hn : 0 ≤ n ∧ n < 8) (hX : cbA X) (hY : cbA Y) (hx : cb x) (hy : cb y) : Mc l yX4_append wsX4_append rm_K_append E [vR h, vI x, vI y] [(h, .inr (5, [vR xs, vR ys, vI n, vI df])), (xs, cI E 8 X), (ys, cI E 8 Y)] 0 0 (fun v9 w9 => v9 = none ∧ w9 = [(h, .inr (5, [vR xs, vR ys, vI (n + 1), vI (snd (ua X n x) (ua Y n y) (n + 1))])), (xs, cI E 8 (ua X n x)), (ys, cI E 8 (ua Y n y))]) := by
  refine Mc.intro (cc := cX4_append) (maxL := 3) (ret := none) (lv0 := [(0, vR h), (1, vI x), (2, vI y)]) (by decide +kernel) rfl rfl (Nat.le_of_ble_eq_true rfl) ?_
  intro p9 e9 s9 m9 args9 below9 meth9 c9 A9 C hr hmn
  have C : Cx p9 s9 m9 args9 meth9 c9 E A9 3 cX4_append wsX4_append RX4 := C
  refine g_aload_n C 0 rfl dX4_append_0 rfl ?_
  refine g_get C 0 fd_X4_append_28 rfl rfl rfl dX4_append_1 rfl ?_
  refine g_bipush C (by decide) dX4_append_4 rfl ?_
  refine g_icmp_lt C (tgt := 10) ⟨by omega, by omega⟩ ⟨by decide, by decide⟩ dX4_append_6 (by decide) rfl (fun c_1 => ?_) (fun c_1 => ?_)
  · refine g_aload_n C 0 rfl dX4_append_10 rfl ?_
    refine g_get C 0 fd_X4_append_9 rfl rfl rfl dX4_append_11 rfl ?_
    refine g_aload_n C 0 rfl dX4_append_14 rfl ?_
    refine g_get C 0 fd_X4_append_28 rfl rfl rfl dX4_append_15 rfl ?_
    refine g_iload_n C 1 rfl dX4_append_18 rfl ?_
    refine g_iast C 1 rfl (by omega) (by omega) (by decide) (ws' := [(h, .inr (5, [vR xs, vR ys, vI n, vI df])), (xs, cI E 8 (ua X n x)), (ys, cI E 8 Y)]) rfl dX4_append_19 rfl ?_
    refine g_aload_n C 0 rfl dX4_append_20 rfl ?_
    refine g_get C 0 fd_X4_append_15 rfl rfl rfl dX4_append_21 rfl ?_
    refine g_aload_n C 0 rfl dX4_append_24 rfl ?_
    refine g_get C 0 fd_X4_append_28 rfl rfl rfl dX4_append_25 rfl ?_
    refine g_iload_n C 2 rfl dX4_append_28 rfl ?_
    refine g_iast C 2 rfl (by omega) (by omega) (by decide) (ws' := [(h, .inr (5, [vR xs, vR ys, vI n, vI df])), (xs, cI E 8 (ua X n x)), (ys, cI E 8 (ua Y n y))]) rfl dX4_append_29 rfl ?_
    refine g_aload_n C 0 rfl dX4_append_30 rfl ?_
    refine g_dup C rfl dX4_append_31 rfl ?_
    refine g_get C 0 fd_X4_append_28 rfl rfl rfl dX4_append_32 rfl ?_
    refine g_iconst C dX4_append_35 rfl ?_
    refine g_iadd C rfl dX4_append_36 rfl ?_
    refine g_put C tyX4 tyX4_ok nmX4 0 fd_X4_append_28 rfl rfl rfl rfl rfl rfl (Nat.le_of_ble_eq_true rfl) (ws' := [(h, .inr (5, [vR xs, vR ys, vI (n + 1), vI df])), (xs, cI E 8 (ua X n x)), (ys, cI E 8 (ua Y n y))]) rfl dX4_append_37 rfl ?_
    refine g_aload_n C 0 rfl dX4_append_40 rfl ?_
    refine g_aload_n C 0 rfl dX4_append_41 rfl ?_
    refine g_callV C (b := h) (As := []) (wc := [(h, .inr (5, [vR xs, vR ys, vI (n + 1), vI df])), (xs, cI E 8 (ua X n x)), (ys, cI E 8 (ua Y n y))]) (wr := []) (st := [vR h]) gX4_append_X4_findDefect (q9 := 0) (ci := 5) rfl rfl rfl (K_findDefect l E h xs ys (ua X n x) (ua Y n y) (n + 1) df (by first | assumption | omega) (cbA_u hX hx) (cbA_u hY hy)) hyd_X4_findDefect rfl [0, 1, 2] [] rfl rfl rfl rfl rfl (by decide) ⟨rfl, rfl⟩ ⟨Nat.le_of_ble_eq_true rfl, Nat.le_of_ble_eq_true rfl, Nat.le_of_ble_eq_true rfl, Nat.le_of_ble_eq_true rfl⟩ (Nat.le_of_ble_eq_true rfl) dX4_append_42 (rfl : _ = 0) (rfl : _ = 0) rfl ?_
    rintro _ _ ⟨rfl, rfl⟩
    refine g_is (ws' := [(h, .inr (5, [vR xs, vR ys, vI (n + 1), vI df])), (xs, cI E 8 (ua X n x)), (ys, cI E 8 (ua Y n y))]) (st' := [vI (snd (ua X n x) (ua Y n y) (n + 1)), vR h]) rfl rfl ?_
    refine g_put C tyX4 tyX4_ok nmX4 0 fd_X4_append_18 rfl rfl rfl rfl rfl rfl (Nat.le_of_ble_eq_true rfl) (ws' := [(h, .inr (5, [vR xs, vR ys, vI (n + 1), vI (snd (ua X n x) (ua Y n y) (n + 1))])), (xs, cI E 8 (ua X n x)), (ys, cI E 8 (ua Y n y))]) rfl dX4_append_45 rfl ?_
    exact g_vret C hr (Nat.le_of_ble_eq_true rfl) (Nat.le_of_ble_eq_true rfl) dX4_append_48 ⟨rfl, rfl⟩
  exfalso; omega

theorem in_X4_holds_X4 : ∀ w ∈ u_ws RX4 TX4 4, w ∈ wsX4_holds := by decide +kernel
theorem fd_X4_holds_18 : fdk wsX4_holds RX4 18 "ZoneRelay$Polygon" RX4 TX4 4 3 := ⟨in_X4_holds_X4, by decide +kernel, by decide, rfl⟩
theorem fd_X4_holds_28 : fdk wsX4_holds RX4 28 "ZoneRelay$Polygon" RX4 TX4 4 2 := ⟨in_X4_holds_X4, by decide +kernel, by decide, rfl⟩
theorem fd_X4_holds_9 : fdk wsX4_holds RX4 9 "ZoneRelay$Polygon" RX4 TX4 4 0 := ⟨in_X4_holds_X4, by decide +kernel, by decide, rfl⟩
theorem fd_X4_holds_15 : fdk wsX4_holds RX4 15 "ZoneRelay$Polygon" RX4 TX4 4 1 := ⟨in_X4_holds_X4, by decide +kernel, by decide, rfl⟩
abbrev rm_K_holds : Room := { frames := 1, cells := 0, slots := 0, locals := 21 }
set_option maxHeartbeats 8000000 in
set_option maxRecDepth 100000 in
theorem K_holds (l : Launch) (E : Ev) (h xs ys : Nat) (X Y : Int → Int) (n df x y d : Int) (hn : 0 ≤ n ∧ n ≤ 8) (hX : cbA X) (hY : cbA Y) (hdf : df = snd X Y n) (hx : -5300000000000 ≤ x ∧ x ≤ 5300000000000) (hy : -5300000000000 ≤ y ∧ y ≤ 5300000000000) (hd : 0 ≤ d ∧ d ≤ 5210000000) : Mc l yX4_holds wsX4_holds rm_K_holds E [vR h, vL x, vL y, vL d] [(h, .inr (5, [vR xs, vR ys, vI n, vI df])), (xs, cI E 8 X), (ys, cI E 8 Y)] 0 0 (fun v9 w9 => v9 = some (vI (bP (hld X Y n x y d = true))) ∧ w9 = [(h, .inr (5, [vR xs, vR ys, vI n, vI df])), (xs, cI E 8 X), (ys, cI E 8 Y)]) := by
  refine Mc.intro (cc := cX4_holds) (maxL := 13) (ret := (some .boolean)) (lv0 := [(0, vR h), (1, vL x), (3, vL y), (5, vL d)]) (by decide +kernel) rfl rfl (Nat.le_of_ble_eq_true rfl) ?_
  intro p9 e9 s9 m9 args9 below9 meth9 c9 A9 C hr hmn
  have C : Cx p9 s9 m9 args9 meth9 c9 E A9 13 cX4_holds wsX4_holds RX4 := C
  refine g_aload_n C 0 rfl dX4_holds_0 rfl ?_
  refine g_get C 0 fd_X4_holds_18 rfl rfl rfl dX4_holds_1 rfl ?_
  refine g_if_eq C (tgt := 9) (by have := snd_r X Y n; exact ⟨by omega, by omega⟩) dX4_holds_4 (by decide) rfl (fun c_1 => ?_) (fun c_1 => ?_)
  · refine g_iconst C dX4_holds_9 rfl ?_
    refine g_istore C (lv' := [(0, vR h), (1, vL x), (3, vL y), (5, vL d), (7, vI 0)]) [1, 2, 3, 4, 0] (by decide) rfl rfl dX4_holds_10 rfl ?_
    have hL_12 : ∀ (fuel : Nat) (i : Int) (h0 : 0 ≤ i) (h1 : i ≤ n) (hal : allB (ylB X Y n x y d) i.toNat = true) (hfu : (n - i).toNat = fuel), G p9 l e9 rm_K_holds s9 m9 args9 below9 meth9 c9 (RQ E (fun v9 w9 => v9 = some (vI (bP (hld X Y n x y d = true))) ∧ w9 = [(h, .inr (5, [vR xs, vR ys, vI n, vI df])), (xs, cI E 8 X), (ys, cI E 8 Y)]) A9 below9 args9 s9 0 0) E A9 13 0 0 [(h, .inr (5, [vR xs, vR ys, vI n, vI df])), (xs, cI E 8 X), (ys, cI E 8 Y)] [(0, vR h), (1, vL x), (3, vL y), (5, vL d), (7, vI i)] 12 [] := by
      intro fuel
      induction fuel using Nat.strongRecOn with
      | ind fuel ih =>
        intro i h0 h1 hal hfu
        refine g_iload C 4 rfl dX4_holds_12 rfl ?_
        refine g_aload_n C 0 rfl dX4_holds_14 rfl ?_
        refine g_get C 0 fd_X4_holds_28 rfl rfl rfl dX4_holds_15 rfl ?_
        refine g_icmp_ge C (tgt := 111) ⟨by omega, by omega⟩ ⟨by omega, by omega⟩ dX4_holds_18 (by decide) rfl (fun c_2 => ?_) (fun c_2 => ?_)
        · refine g_iconst C dX4_holds_111 rfl ?_
          refine g_top (v' := vI (bP (hld X Y n x y d = true))) (congrArg (fun z_ : Int => vI z_) (show (bP (hld X Y n x y d = true)) = 1 by exact bP_t (by unfold hld; rw [← hdf, show n.toNat = i.toNat by omega, hal]; simp; assumption))) ?_
          exact g_iret C hr (nrZ _) (Nat.le_of_ble_eq_true rfl) (Nat.le_of_ble_eq_true rfl) dX4_holds_112 ⟨rfl, rfl⟩
        refine g_aload_n C 0 rfl dX4_holds_21 rfl ?_
        refine g_iload C 4 rfl dX4_holds_22 rfl ?_
        refine g_callV C (b := h) (As := [vI i]) (wc := [(h, .inr (5, [vR xs, vR ys, vI n, vI df])), (xs, cI E 8 X), (ys, cI E 8 Y)]) (wr := []) (st := []) gX4_holds_X4_after (q9 := 0) (ci := 5) rfl rfl rfl (K_after l E h xs ys X Y n df i hn (by first | assumption | omega)) hyd_X4_after rfl [0, 1, 2] [] rfl rfl rfl rfl rfl (by decide) ⟨rfl, rfl⟩ ⟨Nat.le_of_ble_eq_true rfl, Nat.le_of_ble_eq_true rfl, Nat.le_of_ble_eq_true rfl, Nat.le_of_ble_eq_true rfl⟩ (Nat.le_of_ble_eq_true rfl) dX4_holds_24 (rfl : _ = 0) (rfl : _ = 0) rfl ?_
        rintro _ _ ⟨rfl, rfl⟩
        refine g_is (ws' := [(h, .inr (5, [vR xs, vR ys, vI n, vI df])), (xs, cI E 8 X), (ys, cI E 8 Y)]) (st' := [vI (af n i)]) rfl rfl ?_
        have ha1 := af_r (n := n) (k := i) (by omega) (by omega)
        have x1 := hX i (by omega) (by omega)
        have y1 := hY i (by omega) (by omega)
        have x2 := hX (af n i) (by omega) (by omega)
        have y2 := hY (af n i) (by omega) (by omega)
        have p1 := mul_b (x := Y i) (y := d) (A := 20000) (B := 5210000000) y1 (by omega)
        have p2 := mul_b (x := X i) (y := d) (A := 20000) (B := 5210000000) x1 (by omega)
        have m1 := mul_b (x := X (af n i) - X i) (y := y - Y i * d) (A := 40000) (B := 109500000000000) (by omega) (by omega)
        have m2 := mul_b (x := Y (af n i) - Y i) (y := x - X i * d) (A := 40000) (B := 109500000000000) (by omega) (by omega)
        refine g_istore C (lv' := [(0, vR h), (1, vL x), (3, vL y), (5, vL d), (7, vI i), (8, vI (af n i))]) [1, 2, 3, 4, 5, 0] (by decide) rfl rfl dX4_holds_27 rfl ?_
        refine g_aload_n C 0 rfl dX4_holds_29 rfl ?_
        refine g_get C 0 fd_X4_holds_9 rfl rfl rfl dX4_holds_30 rfl ?_
        refine g_iload C 5 rfl dX4_holds_33 rfl ?_
        refine g_iald C 1 rfl (by omega) (by omega) (by decide) rfl dX4_holds_35 rfl ?_
        refine g_aload_n C 0 rfl dX4_holds_36 rfl ?_
        refine g_get C 0 fd_X4_holds_9 rfl rfl rfl dX4_holds_37 rfl ?_
        refine g_iload C 4 rfl dX4_holds_40 rfl ?_
        refine g_iald C 1 rfl (by omega) (by omega) (by decide) rfl dX4_holds_42 rfl ?_
        refine g_isub C rfl dX4_holds_43 rfl ?_
        refine g_i2l C ⟨by omega, by omega⟩ rfl dX4_holds_44 rfl ?_
        refine g_lstore C (lv' := [(0, vR h), (1, vL x), (3, vL y), (5, vL d), (7, vI i), (8, vI (af n i)), (9, vL ((X (af n i)) - (X i)))]) [1, 2, 3, 4, 5, 6, 0] (by decide) rfl rfl dX4_holds_45 rfl ?_
        refine g_aload_n C 0 rfl dX4_holds_47 rfl ?_
        refine g_get C 0 fd_X4_holds_15 rfl rfl rfl dX4_holds_48 rfl ?_
        refine g_iload C 5 rfl dX4_holds_51 rfl ?_
        refine g_iald C 2 rfl (by omega) (by omega) (by decide) rfl dX4_holds_53 rfl ?_
        refine g_aload_n C 0 rfl dX4_holds_54 rfl ?_
        refine g_get C 0 fd_X4_holds_15 rfl rfl rfl dX4_holds_55 rfl ?_
        refine g_iload C 4 rfl dX4_holds_58 rfl ?_
        refine g_iald C 2 rfl (by omega) (by omega) (by decide) rfl dX4_holds_60 rfl ?_
        refine g_isub C rfl dX4_holds_61 rfl ?_
        refine g_i2l C ⟨by omega, by omega⟩ rfl dX4_holds_62 rfl ?_
        refine g_lstore C (lv' := [(0, vR h), (1, vL x), (3, vL y), (5, vL d), (7, vI i), (8, vI (af n i)), (9, vL ((X (af n i)) - (X i))), (11, vL ((Y (af n i)) - (Y i)))]) [1, 2, 3, 4, 5, 6, 7, 0] (by decide) rfl rfl dX4_holds_63 rfl ?_
        refine g_lload C 6 rfl dX4_holds_65 rfl ?_
        refine g_lload_n C 2 rfl dX4_holds_67 rfl ?_
        refine g_aload_n C 0 rfl dX4_holds_68 rfl ?_
        refine g_get C 0 fd_X4_holds_15 rfl rfl rfl dX4_holds_69 rfl ?_
        refine g_iload C 4 rfl dX4_holds_72 rfl ?_
        refine g_iald C 2 rfl (by omega) (by omega) (by decide) rfl dX4_holds_74 rfl ?_
        refine g_i2l C ⟨by omega, by omega⟩ rfl dX4_holds_75 rfl ?_
        refine g_lload C 3 rfl dX4_holds_76 rfl ?_
        refine g_lmul C rfl dX4_holds_78 rfl ?_
        refine g_lsub C rfl dX4_holds_79 rfl ?_
        refine g_lmul C rfl dX4_holds_80 rfl ?_
        refine g_lload C 7 rfl dX4_holds_81 rfl ?_
        refine g_lload_n C 1 rfl dX4_holds_83 rfl ?_
        refine g_aload_n C 0 rfl dX4_holds_84 rfl ?_
        refine g_get C 0 fd_X4_holds_9 rfl rfl rfl dX4_holds_85 rfl ?_
        refine g_iload C 4 rfl dX4_holds_88 rfl ?_
        refine g_iald C 1 rfl (by omega) (by omega) (by decide) rfl dX4_holds_90 rfl ?_
        refine g_i2l C ⟨by omega, by omega⟩ rfl dX4_holds_91 rfl ?_
        refine g_lload C 3 rfl dX4_holds_92 rfl ?_
        refine g_lmul C rfl dX4_holds_94 rfl ?_
        refine g_lsub C rfl dX4_holds_95 rfl ?_
        refine g_lmul C rfl dX4_holds_96 rfl ?_
        refine g_lsub C rfl dX4_holds_97 rfl ?_
        refine g_lconst0 C dX4_holds_98 rfl ?_
        refine g_lcmp_ge C ⟨by omega, by omega⟩ ⟨by decide, by decide⟩ dX4_holds_99 rfl (tgt := 105) dX4_holds_100 (by decide) rfl (fun c_3 => ?_) (fun c_3 => ?_)
        · refine g_iinc C (r := (i + 1)) (lv' := [(0, vR h), (1, vL x), (3, vL y), (5, vL d), (7, vI (i + 1)), (8, vI (af n i)), (9, vL ((X (af n i)) - (X i))), (11, vL ((Y (af n i)) - (Y i)))]) 4 [1, 2, 3, 4, 0, 5, 6, 7] rfl rfl (by decide) rfl rfl dX4_holds_105 rfl ?_
          refine g_goto C (pc' := 12) dX4_holds_108 (by decide) ?_
          refine g_lv (lv' := [(0, vR h), (1, vL x), (3, vL y), (5, vL d), (7, vI (i + 1))]) [0, 1, 2, 3, 4] rfl ?_
          exact ih _ (by omega) (i + 1) (by omega) (by omega) (allB_s (by omega) rfl hal (by simp only [ylB, edg]; exact decide_eq_true c_3)) rfl
        refine g_iconst C dX4_holds_103 rfl ?_
        refine g_top (v' := vI (bP (hld X Y n x y d = true))) (congrArg (fun z_ : Int => vI z_) (show (bP (hld X Y n x y d = true)) = 0 by exact bP_f (by unfold hld; rw [allB_f (k := i) h0 (by omega) (by simp only [ylB, edg]; exact decide_eq_false c_3)]; simp))) ?_
        exact g_iret C hr (nrZ _) (Nat.le_of_ble_eq_true rfl) (Nat.le_of_ble_eq_true rfl) dX4_holds_104 ⟨rfl, rfl⟩
    exact hL_12 _ 0 (by omega) (by omega) rfl rfl
  refine g_iconst C dX4_holds_7 rfl ?_
  refine g_top (v' := vI (bP (hld X Y n x y d = true))) (congrArg (fun z_ : Int => vI z_) (show (bP (hld X Y n x y d = true)) = 0 by exact bP_f (by unfold hld; rw [← hdf]; simp [c_1]))) ?_
  exact g_iret C hr (nrZ _) (Nat.le_of_ble_eq_true rfl) (Nat.le_of_ble_eq_true rfl) dX4_holds_8 ⟨rfl, rfl⟩
