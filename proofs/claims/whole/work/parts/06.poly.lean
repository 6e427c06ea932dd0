abbrev rm_K_outside : Room := { frames := 0, cells := 0, slots := 0, locals := 0 }
set_option maxHeartbeats 8000000 in
set_option maxRecDepth 100000 in
theorem K_outside (l : Launch) (E : Ev) (x lo hi : Int) (hx : bi x) (hl : bi lo) (hh : bi hi) : Mc l yX10_outside wsX10_outside rm_K_outside E [vI x, vI lo, vI hi] [] 0 0 (fun v w => v = some (vI (bP (x < lo ∨ hi < x))) ∧ w = []) := by
  refine Mc.intro (cc := cX10_outside) (maxL := 3) (ret := (some .boolean)) (lv0 := [(0, vI x), (1, vI lo), (2, vI hi)]) (by decide) rfl rfl (Nat.le_of_ble_eq_true rfl) ?_
  intro p e s m args below meth c A C hr hmn
  have C : Cx p s m args meth c E A 3 cX10_outside wsX10_outside RX10 := C
  refine g_iload_n C 0 rfl dX10_outside_0 rfl ?_
  refine g_iload_n C 1 rfl dX10_outside_1 rfl ?_
  refine g_icmp_lt C (tgt := 10) (hx) (hl) dX10_outside_2 (by decide) rfl (fun c_1 => ?_) (fun c_1 => ?_)
  · refine g_iconst C dX10_outside_10 rfl ?_
    refine g_goto C (pc' := 15) dX10_outside_11 (by decide) ?_
    refine g_top (v' := vI (bP (x < lo ∨ hi < x))) (congrArg (fun z_ : Int => vI z_) (show (bP (x < lo ∨ hi < x)) = 1 by first | exact bP_t (by first | assumption | omega) | exact bP_f (by first | assumption | omega))) ?_
    exact g_iret C hr (nrZ _) (Nat.le_of_ble_eq_true rfl) (Nat.le_of_ble_eq_true rfl) dX10_outside_15 ⟨rfl, rfl⟩
  refine g_iload_n C 0 rfl dX10_outside_5 rfl ?_
  refine g_iload_n C 2 rfl dX10_outside_6 rfl ?_
  refine g_icmp_le C (tgt := 14) (hx) (hh) dX10_outside_7 (by decide) rfl (fun c_2 => ?_) (fun c_2 => ?_)
  · refine g_iconst C dX10_outside_14 rfl ?_
    refine g_top (v' := vI (bP (x < lo ∨ hi < x))) (congrArg (fun z_ : Int => vI z_) (show (bP (x < lo ∨ hi < x)) = 0 by first | exact bP_t (by first | assumption | omega) | exact bP_f (by first | assumption | omega))) ?_
    exact g_iret C hr (nrZ _) (Nat.le_of_ble_eq_true rfl) (Nat.le_of_ble_eq_true rfl) dX10_outside_15 ⟨rfl, rfl⟩
  refine g_iconst C dX10_outside_10 rfl ?_
  refine g_goto C (pc' := 15) dX10_outside_11 (by decide) ?_
  refine g_top (v' := vI (bP (x < lo ∨ hi < x))) (congrArg (fun z_ : Int => vI z_) (show (bP (x < lo ∨ hi < x)) = 1 by first | exact bP_t (by first | assumption | omega) | exact bP_f (by first | assumption | omega))) ?_
  exact g_iret C hr (nrZ _) (Nat.le_of_ble_eq_true rfl) (Nat.le_of_ble_eq_true rfl) dX10_outside_15 ⟨rfl, rfl⟩

theorem hyd_X10_outside : yX10_outside.cls ≠ "java/lang/invoke/MethodHandle" ∧ yX10_outside.cls ≠ "java/lang/invoke/VarHandle" ∧ (parseMethodDescriptor yX10_outside.desc).map (fun d => d.parameters.length) = some 3 := by decide +kernel
abbrev rm_K_beyond : Room := { frames := 1, cells := 0, slots := 0, locals := 22 }
set_option maxHeartbeats 8000000 in
set_option maxRecDepth 100000 in
theorem K_beyond (l : Launch) (E : Ev) (x : Int) (hx : bi x) : Mc l yX10_beyondLimit wsX10_beyondLimit rm_K_beyond E [vI x] [] 0 0 (fun v w => v = some (vI (bP (x < (-20000) ∨ 20000 < x))) ∧ w = []) := by
  refine Mc.intro (cc := cX10_beyondLimit) (maxL := 1) (ret := (some .boolean)) (lv0 := [(0, vI x)]) (by decide) rfl rfl (Nat.le_of_ble_eq_true rfl) ?_
  intro p e s m args below meth c A C hr hmn
  have C : Cx p s m args meth c E A 1 cX10_beyondLimit wsX10_beyondLimit RX10 := C
  refine g_iload_n C 0 rfl dX10_beyondLimit_0 rfl ?_
  refine g_sipush C (by decide) dX10_beyondLimit_1 rfl ?_
  refine g_sipush C (by decide) dX10_beyondLimit_4 rfl ?_
  refine g_callS C (As := [vI x, vI (-20000), vI 20000]) (wc := []) (wr := []) (st := []) gX10_beyondLimit_X10_outside rfl (K_outside l E x (-20000) 20000 hx ⟨by decide, by decide⟩ ⟨by decide, by decide⟩) hyd_X10_outside rfl [] [] rfl rfl rfl rfl rfl (by decide) ⟨rfl, rfl⟩ ⟨Nat.le_of_ble_eq_true rfl, Nat.le_of_ble_eq_true rfl, Nat.le_of_ble_eq_true rfl, Nat.le_of_ble_eq_true rfl⟩ (by decide) dX10_beyondLimit_7 (rfl : _ = 0) (rfl : _ = 0) rfl ?_
  rintro _ _ ⟨rfl, rfl⟩
  refine g_is (ws' := []) (st' := [vI (bP (x < (-20000) ∨ 20000 < x))]) rfl rfl ?_
  exact g_iret C hr (nrZ _) (Nat.le_of_ble_eq_true rfl) (Nat.le_of_ble_eq_true rfl) dX10_beyondLimit_10 ⟨rfl, rfl⟩

theorem in_X4_after_X4 : ∀ w ∈ u_ws RX4 TX4 4, w ∈ wsX4_after := by decide +kernel
theorem fd_X4_after_28 : fdk wsX4_after RX4 28 "ZoneRelay$Polygon" RX4 TX4 4 2 := ⟨in_X4_after_X4, by decide +kernel, by decide, rfl⟩
abbrev rm_K_after : Room := { frames := 0, cells := 0, slots := 0, locals := 0 }
set_option maxHeartbeats 8000000 in
set_option maxRecDepth 100000 in
theorem K_after (l : Launch) (E : Ev) (h xs ys : Nat) (X Y : Int → Int) (n df k : Int) (hn : 0 ≤ n ∧ n ≤ 8) (hk : 0 ≤ k ∧ k < 8) : Mc l yX4_after wsX4_after rm_K_after E [vR h, vI k] [(h, .inr (5, [vR xs, vR ys, vI n, vI df])), (xs, cI E 8 X), (ys, cI E 8 Y)] 0 0 (fun v w => v = some (vI (af n k)) ∧ w = [(h, .inr (5, [vR xs, vR ys, vI n, vI df])), (xs, cI E 8 X), (ys, cI E 8 Y)]) := by
  refine Mc.intro (cc := cX4_after) (maxL := 2) (ret := (some .int)) (lv0 := [(0, vR h), (1, vI k)]) (by decide) rfl rfl (Nat.le_of_ble_eq_true rfl) ?_
  intro p e s m args below meth c A C hr hmn
  have C : Cx p s m args meth c E A 2 cX4_after wsX4_after RX4 := C
  refine g_iload_n C 1 rfl dX4_after_0 rfl ?_
  refine g_iconst C dX4_after_1 rfl ?_
  refine g_iadd C rfl dX4_after_2 rfl ?_
  refine g_aload_n C 0 rfl dX4_after_3 rfl ?_
  refine g_get C 0 fd_X4_after_28 rfl rfl rfl dX4_after_4 rfl ?_
  refine g_icmp_ge C (tgt := 16) ⟨by omega, by omega⟩ ⟨by omega, by omega⟩ dX4_after_7 (by decide) rfl (fun c_1 => ?_) (fun c_1 => ?_)
  · refine g_iconst C dX4_after_16 rfl ?_
    refine g_top (v' := vI (af n k)) (congrArg (fun z_ : Int => vI z_) (show (af n k) = 0 by unfold af; split <;> omega)) ?_
    exact g_iret C hr rfl (Nat.le_of_ble_eq_true rfl) (Nat.le_of_ble_eq_true rfl) dX4_after_17 ⟨rfl, rfl⟩
  refine g_iload_n C 1 rfl dX4_after_10 rfl ?_
  refine g_iconst C dX4_after_11 rfl ?_
  refine g_iadd C rfl dX4_after_12 rfl ?_
  refine g_goto C (pc' := 17) dX4_after_13 (by decide) ?_
  refine g_top (v' := vI (af n k)) (congrArg (fun z_ : Int => vI z_) (show (af n k) = (k + 1) by unfold af; split <;> omega)) ?_
  exact g_iret C hr rfl (Nat.le_of_ble_eq_true rfl) (Nat.le_of_ble_eq_true rfl) dX4_after_17 ⟨rfl, rfl⟩

theorem in_X4_turnsLeftEverywhere_X4 : ∀ w ∈ u_ws RX4 TX4 4, w ∈ wsX4_turnsLeftEverywhere := by decide +kernel
theorem fd_X4_turnsLeftEverywhere_28 : fdk wsX4_turnsLeftEverywhere RX4 28 "ZoneRelay$Polygon" RX4 TX4 4 2 := ⟨in_X4_turnsLeftEverywhere_X4, by decide +kernel, by decide, rfl⟩
theorem hyd_X4_after : yX4_after.cls ≠ "java/lang/invoke/MethodHandle" ∧ yX4_after.cls ≠ "java/lang/invoke/VarHandle" ∧ (parseMethodDescriptor yX4_after.desc).map (fun d => d.parameters.length) = some 1 := by decide +kernel
theorem fd_X4_turnsLeftEverywhere_9 : fdk wsX4_turnsLeftEverywhere RX4 9 "ZoneRelay$Polygon" RX4 TX4 4 0 := ⟨in_X4_turnsLeftEverywhere_X4, by decide +kernel, by decide, rfl⟩
theorem fd_X4_turnsLeftEverywhere_15 : fdk wsX4_turnsLeftEverywhere RX4 15 "ZoneRelay$Polygon" RX4 TX4 4 1 := ⟨in_X4_turnsLeftEverywhere_X4, by decide +kernel, by decide, rfl⟩
abbrev rm_K_turnsLeft : Room := { frames := 1, cells := 0, slots := 0, locals := 21 }
set_option maxHeartbeats 8000000 in
set_option maxRecDepth 100000 in
theorem K_turnsLeft (l : Launch) (E : Ev) (h xs ys : Nat) (X Y : Int → Int) (n df : Int) (hn : 0 ≤ n ∧ n ≤ 8) (hX : cbA X) (hY : cbA Y) : Mc l yX4_turnsLeftEverywhere wsX4_turnsLeftEverywhere rm_K_turnsLeft E [vR h] [(h, .inr (5, [vR xs, vR ys, vI n, vI df])), (xs, cI E 8 X), (ys, cI E 8 Y)] 0 0 (fun v w => v = some (vI (bP (allB (tlB X Y n) n.toNat = true))) ∧ w = [(h, .inr (5, [vR xs, vR ys, vI n, vI df])), (xs, cI E 8 X), (ys, cI E 8 Y)]) := by
  refine Mc.intro (cc := cX4_turnsLeftEverywhere) (maxL := 6) (ret := (some .boolean)) (lv0 := [(0, vR h)]) (by decide) rfl rfl (Nat.le_of_ble_eq_true rfl) ?_
  intro p e s m args below meth c A C hr hmn
  have C : Cx p s m args meth c E A 6 cX4_turnsLeftEverywhere wsX4_turnsLeftEverywhere RX4 := C
  refine g_iconst C dX4_turnsLeftEverywhere_0 rfl ?_
  refine g_istore_n C (lv' := [(0, vR h), (1, vI 0)]) [1, 0] (by decide) rfl rfl dX4_turnsLeftEverywhere_1 rfl ?_
  have hL_2 : ∀ (fuel : Nat) (i : Int) (h0 : 0 ≤ i) (h1 : i ≤ n) (hal : allB (tlB X Y n) i.toNat = true) (hfu : (n - i).toNat = fuel), G p l e rm_K_turnsLeft s m args below meth c (RQ E (fun v w => v = some (vI (bP (allB (tlB X Y n) n.toNat = true))) ∧ w = [(h, .inr (5, [vR xs, vR ys, vI n, vI df])), (xs, cI E 8 X), (ys, cI E 8 Y)]) A below args s 0 0) E A 6 0 0 [(h, .inr (5, [vR xs, vR ys, vI n, vI df])), (xs, cI E 8 X), (ys, cI E 8 Y)] [(0, vR h), (1, vI i)] 2 [] := by
    intro fuel
    induction fuel using Nat.strongRecOn with
    | ind fuel ih =>
      intro i h0 h1 hal hfu
      refine g_iload_n C 1 rfl dX4_turnsLeftEverywhere_2 rfl ?_
      refine g_aload_n C 0 rfl dX4_turnsLeftEverywhere_3 rfl ?_
      refine g_get C 0 fd_X4_turnsLeftEverywhere_28 rfl rfl rfl dX4_turnsLeftEverywhere_4 rfl ?_
      refine g_icmp_ge C (tgt := 98) ⟨by omega, by omega⟩ ⟨by omega, by omega⟩ dX4_turnsLeftEverywhere_7 (by decide) rfl (fun c_1 => ?_) (fun c_1 => ?_)
      · refine g_iconst C dX4_turnsLeftEverywhere_98 rfl ?_
        refine g_top (v' := vI (bP (allB (tlB X Y n) n.toNat = true))) (congrArg (fun z_ : Int => vI z_) (show (bP (allB (tlB X Y n) n.toNat = true)) = 1 by exact bP_t (by rw [show n.toNat = i.toNat by omega]; exact hal))) ?_
        exact g_iret C hr (nrZ _) (Nat.le_of_ble_eq_true rfl) (Nat.le_of_ble_eq_true rfl) dX4_turnsLeftEverywhere_99 ⟨rfl, rfl⟩
      refine g_aload_n C 0 rfl dX4_turnsLeftEverywhere_10 rfl ?_
      refine g_iload_n C 1 rfl dX4_turnsLeftEverywhere_11 rfl ?_
      refine g_callV C (b := h) (As := [vI i]) (wc := [(h, .inr (5, [vR xs, vR ys, vI n, vI df])), (xs, cI E 8 X), (ys, cI E 8 Y)]) (wr := []) (st := []) gX4_turnsLeftEverywhere_X4_after (q9 := 0) (ci := 5) rfl rfl rfl (K_after l E h xs ys X Y n df i hn (by first | assumption | omega)) hyd_X4_after rfl [0, 1, 2] [] rfl rfl rfl rfl rfl (by decide) ⟨rfl, rfl⟩ ⟨Nat.le_of_ble_eq_true rfl, Nat.le_of_ble_eq_true rfl, Nat.le_of_ble_eq_true rfl, Nat.le_of_ble_eq_true rfl⟩ (by decide) dX4_turnsLeftEverywhere_12 (rfl : _ = 0) (rfl : _ = 0) rfl ?_
      rintro _ _ ⟨rfl, rfl⟩
      refine g_is (ws' := [(h, .inr (5, [vR xs, vR ys, vI n, vI df])), (xs, cI E 8 X), (ys, cI E 8 Y)]) (st' := [vI (af n i)]) rfl rfl ?_
      have ha1 := af_r (n := n) (k := i) (by omega) (by omega)
      have x1 := hX i (by omega) (by omega)
      have y1 := hY i (by omega) (by omega)
      have x2 := hX (af n i) (by omega) (by omega)
      have y2 := hY (af n i) (by omega) (by omega)
      refine g_istore_n C (lv' := [(0, vR h), (1, vI i), (2, vI (af n i))]) [1, 2, 0] (by decide) rfl rfl dX4_turnsLeftEverywhere_15 rfl ?_
      refine g_aload_n C 0 rfl dX4_turnsLeftEverywhere_16 rfl ?_
      refine g_iload_n C 2 rfl dX4_turnsLeftEverywhere_17 rfl ?_
      refine g_callV C (b := h) (As := [vI (af n i)]) (wc := [(h, .inr (5, [vR xs, vR ys, vI n, vI df])), (xs, cI E 8 X), (ys, cI E 8 Y)]) (wr := []) (st := []) gX4_turnsLeftEverywhere_X4_after (q9 := 0) (ci := 5) rfl rfl rfl (K_after l E h xs ys X Y n df (af n i) hn (by first | assumption | omega)) hyd_X4_after rfl [0, 1, 2] [] rfl rfl rfl rfl rfl (by decide) ⟨rfl, rfl⟩ ⟨Nat.le_of_ble_eq_true rfl, Nat.le_of_ble_eq_true rfl, Nat.le_of_ble_eq_true rfl, Nat.le_of_ble_eq_true rfl⟩ (by decide) dX4_turnsLeftEverywhere_18 (rfl : _ = 0) (rfl : _ = 0) rfl ?_
      rintro _ _ ⟨rfl, rfl⟩
      refine g_is (ws' := [(h, .inr (5, [vR xs, vR ys, vI n, vI df])), (xs, cI E 8 X), (ys, cI E 8 Y)]) (st' := [vI (af n (af n i))]) rfl rfl ?_
      have ha2 := af_r (n := n) (k := af n i) (by omega) (by omega)
      have x3 := hX (af n (af n i)) (by omega) (by omega)
      have y3 := hY (af n (af n i)) (by omega) (by omega)
      have m1 := mul_b (x := X (af n i) - X i) (y := Y (af n (af n i)) - Y (af n i)) (A := 40000) (B := 40000) (by omega) (by omega)
      have m2 := mul_b (x := Y (af n i) - Y i) (y := X (af n (af n i)) - X (af n i)) (A := 40000) (B := 40000) (by omega) (by omega)
      refine g_istore_n C (lv' := [(0, vR h), (1, vI i), (2, vI (af n i)), (3, vI (af n (af n i)))]) [1, 2, 3, 0] (by decide) rfl rfl dX4_turnsLeftEverywhere_21 rfl ?_
      refine g_aload_n C 0 rfl dX4_turnsLeftEverywhere_22 rfl ?_
      refine g_get C 0 fd_X4_turnsLeftEverywhere_9 rfl rfl rfl dX4_turnsLeftEverywhere_23 rfl ?_
      refine g_iload_n C 2 rfl dX4_turnsLeftEverywhere_26 rfl ?_
      refine g_iald C 1 rfl (by omega) (by omega) (by decide) rfl dX4_turnsLeftEverywhere_27 rfl ?_
      refine g_aload_n C 0 rfl dX4_turnsLeftEverywhere_28 rfl ?_
      refine g_get C 0 fd_X4_turnsLeftEverywhere_9 rfl rfl rfl dX4_turnsLeftEverywhere_29 rfl ?_
      refine g_iload_n C 1 rfl dX4_turnsLeftEverywhere_32 rfl ?_
      refine g_iald C 1 rfl (by omega) (by omega) (by decide) rfl dX4_turnsLeftEverywhere_33 rfl ?_
      refine g_isub C rfl dX4_turnsLeftEverywhere_34 rfl ?_
      refine g_i2l C ⟨by omega, by omega⟩ rfl dX4_turnsLeftEverywhere_35 rfl ?_
      refine g_aload_n C 0 rfl dX4_turnsLeftEverywhere_36 rfl ?_
      refine g_get C 0 fd_X4_turnsLeftEverywhere_15 rfl rfl rfl dX4_turnsLeftEverywhere_37 rfl ?_
      refine g_iload_n C 3 rfl dX4_turnsLeftEverywhere_40 rfl ?_
      refine g_iald C 2 rfl (by omega) (by omega) (by decide) rfl dX4_turnsLeftEverywhere_41 rfl ?_
      refine g_aload_n C 0 rfl dX4_turnsLeftEverywhere_42 rfl ?_
      refine g_get C 0 fd_X4_turnsLeftEverywhere_15 rfl rfl rfl dX4_turnsLeftEverywhere_43 rfl ?_
      refine g_iload_n C 2 rfl dX4_turnsLeftEverywhere_46 rfl ?_
      refine g_iald C 2 rfl (by omega) (by omega) (by decide) rfl dX4_turnsLeftEverywhere_47 rfl ?_
      refine g_isub C rfl dX4_turnsLeftEverywhere_48 rfl ?_
      refine g_i2l C ⟨by omega, by omega⟩ rfl dX4_turnsLeftEverywhere_49 rfl ?_
      refine g_lmul C rfl dX4_turnsLeftEverywhere_50 rfl ?_
      refine g_aload_n C 0 rfl dX4_turnsLeftEverywhere_51 rfl ?_
      refine g_get C 0 fd_X4_turnsLeftEverywhere_15 rfl rfl rfl dX4_turnsLeftEverywhere_52 rfl ?_
      refine g_iload_n C 2 rfl dX4_turnsLeftEverywhere_55 rfl ?_
      refine g_iald C 2 rfl (by omega) (by omega) (by decide) rfl dX4_turnsLeftEverywhere_56 rfl ?_
      refine g_aload_n C 0 rfl dX4_turnsLeftEverywhere_57 rfl ?_
      refine g_get C 0 fd_X4_turnsLeftEverywhere_15 rfl rfl rfl dX4_turnsLeftEverywhere_58 rfl ?_
      refine g_iload_n C 1 rfl dX4_turnsLeftEverywhere_61 rfl ?_
      refine g_iald C 2 rfl (by omega) (by omega) (by decide) rfl dX4_turnsLeftEverywhere_62 rfl ?_
      refine g_isub C rfl dX4_turnsLeftEverywhere_63 rfl ?_
      refine g_i2l C ⟨by omega, by omega⟩ rfl dX4_turnsLeftEverywhere_64 rfl ?_
      refine g_aload_n C 0 rfl dX4_turnsLeftEverywhere_65 rfl ?_
      refine g_get C 0 fd_X4_turnsLeftEverywhere_9 rfl rfl rfl dX4_turnsLeftEverywhere_66 rfl ?_
      refine g_iload_n C 3 rfl dX4_turnsLeftEverywhere_69 rfl ?_
      refine g_iald C 1 rfl (by omega) (by omega) (by decide) rfl dX4_turnsLeftEverywhere_70 rfl ?_
      refine g_aload_n C 0 rfl dX4_turnsLeftEverywhere_71 rfl ?_
      refine g_get C 0 fd_X4_turnsLeftEverywhere_9 rfl rfl rfl dX4_turnsLeftEverywhere_72 rfl ?_
      refine g_iload_n C 2 rfl dX4_turnsLeftEverywhere_75 rfl ?_
      refine g_iald C 1 rfl (by omega) (by omega) (by decide) rfl dX4_turnsLeftEverywhere_76 rfl ?_
      refine g_isub C rfl dX4_turnsLeftEverywhere_77 rfl ?_
      refine g_i2l C ⟨by omega, by omega⟩ rfl dX4_turnsLeftEverywhere_78 rfl ?_
      refine g_lmul C rfl dX4_turnsLeftEverywhere_79 rfl ?_
      refine g_lsub C rfl dX4_turnsLeftEverywhere_80 rfl ?_
      refine g_lstore C (lv' := [(0, vR h), (1, vI i), (2, vI (af n i)), (3, vI (af n (af n i))), (4, vL ((((X (af n i)) - (X i)) * ((Y (af n (af n i))) - (Y (af n i)))) - (((Y (af n i)) - (Y i)) * ((X (af n (af n i))) - (X (af n i))))))]) [1, 2, 3, 4, 0] (by decide) rfl rfl dX4_turnsLeftEverywhere_81 rfl ?_
      refine g_lload C 4 rfl dX4_turnsLeftEverywhere_83 rfl ?_
      refine g_lconst0 C dX4_turnsLeftEverywhere_85 rfl ?_
      refine g_lcmp_gt C ⟨by omega, by omega⟩ ⟨by decide, by decide⟩ dX4_turnsLeftEverywhere_86 rfl (tgt := 92) dX4_turnsLeftEverywhere_87 (by decide) rfl (fun c_2 => ?_) (fun c_2 => ?_)
      · refine g_iinc C (r := (i + 1)) (lv' := [(0, vR h), (1, vI (i + 1)), (2, vI (af n i)), (3, vI (af n (af n i))), (4, vL ((((X (af n i)) - (X i)) * ((Y (af n (af n i))) - (Y (af n i)))) - (((Y (af n i)) - (Y i)) * ((X (af n (af n i))) - (X (af n i))))))]) 1 [1, 0, 2, 3, 4] rfl rfl (by decide) rfl rfl dX4_turnsLeftEverywhere_92 rfl ?_
        refine g_goto C (pc' := 2) dX4_turnsLeftEverywhere_95 (by decide) ?_
        refine g_lv (lv' := [(0, vR h), (1, vI (i + 1))]) [0, 1] rfl ?_
        exact ih _ (by omega) (i + 1) (by omega) (by omega) (allB_s (by omega) rfl hal (by simp only [tlB, trn]; exact decide_eq_true c_2)) rfl
      refine g_iconst C dX4_turnsLeftEverywhere_90 rfl ?_
      refine g_top (v' := vI (bP (allB (tlB X Y n) n.toNat = true))) (congrArg (fun z_ : Int => vI z_) (show (bP (allB (tlB X Y n) n.toNat = true)) = 0 by exact bP_f (by rw [allB_f (k := i) h0 (by omega) (by simp only [tlB, trn]; exact decide_eq_false c_2)]; decide))) ?_
      exact g_iret C hr (nrZ _) (Nat.le_of_ble_eq_true rfl) (Nat.le_of_ble_eq_true rfl) dX4_turnsLeftEverywhere_91 ⟨rfl, rfl⟩
  exact hL_2 _ 0 (by omega) (by omega) rfl rfl

abbrev rm_K_compare : Room := { frames := 0, cells := 0, slots := 0, locals := 0 }
set_option maxHeartbeats 8000000 in
set_option maxRecDepth 100000 in
theorem K_compare (l : Launch) (E : Ev) (x y : Int) (hx : bi x) (hy : bi y) : Mc l yJ6_compare_7cf53 wsJ6_compare_7cf53 rm_K_compare E [vI x, vI y] [] 0 0 (fun v w => v = some (vI (sgn3 x y)) ∧ w = []) := by
  refine Mc.intro (cc := cJ6_compare_7cf53) (maxL := 2) (ret := (some .int)) (lv0 := [(0, vI x), (1, vI y)]) (by decide) rfl rfl (Nat.le_of_ble_eq_true rfl) ?_
  intro p e s m args below meth c A C hr hmn
  have C : Cx p s m args meth c E A 2 cJ6_compare_7cf53 wsJ6_compare_7cf53 RJ6 := C
  refine g_iload_n C 0 rfl dJ6_compare_7cf53_0 rfl ?_
  refine g_iload_n C 1 rfl dJ6_compare_7cf53_1 rfl ?_
  refine g_icmp_ge C (tgt := 9) (hx) (hy) dJ6_compare_7cf53_2 (by decide) rfl (fun c_1 => ?_) (fun c_1 => ?_)
  · refine g_iload_n C 0 rfl dJ6_compare_7cf53_9 rfl ?_
    refine g_iload_n C 1 rfl dJ6_compare_7cf53_10 rfl ?_
    refine g_icmp_ne C (tgt := 18) (hx) (hy) dJ6_compare_7cf53_11 (by decide) rfl (fun c_2 => ?_) (fun c_2 => ?_)
    · refine g_iconst C dJ6_compare_7cf53_18 rfl ?_
      refine g_top (v' := vI (sgn3 x y)) (congrArg (fun z_ : Int => vI z_) (show (sgn3 x y) = 1 by unfold sgn3; (repeat' split) <;> first | rfl | omega)) ?_
      exact g_iret C hr rfl (Nat.le_of_ble_eq_true rfl) (Nat.le_of_ble_eq_true rfl) dJ6_compare_7cf53_19 ⟨rfl, rfl⟩
    refine g_iconst C dJ6_compare_7cf53_14 rfl ?_
    refine g_goto C (pc' := 19) dJ6_compare_7cf53_15 (by decide) ?_
    refine g_top (v' := vI (sgn3 x y)) (congrArg (fun z_ : Int => vI z_) (show (sgn3 x y) = 0 by unfold sgn3; (repeat' split) <;> first | rfl | omega)) ?_
    exact g_iret C hr rfl (Nat.le_of_ble_eq_true rfl) (Nat.le_of_ble_eq_true rfl) dJ6_compare_7cf53_19 ⟨rfl, rfl⟩
  refine g_iconst C dJ6_compare_7cf53_5 rfl ?_
  refine g_goto C (pc' := 19) dJ6_compare_7cf53_6 (by decide) ?_
  refine g_top (v' := vI (sgn3 x y)) (congrArg (fun z_ : Int => vI z_) (show (sgn3 x y) = (-1) by unfold sgn3; (repeat' split) <;> first | rfl | omega)) ?_
  exact g_iret C hr rfl (Nat.le_of_ble_eq_true rfl) (Nat.le_of_ble_eq_true rfl) dJ6_compare_7cf53_19 ⟨rfl, rfl⟩
