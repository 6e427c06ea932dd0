abbrev rm_K_floorMod : Room := { frames := 0, cells := 0, slots := 0, locals := 0 }
set_option maxHeartbeats 8000000 in
set_option maxRecDepth 100000 in
theorem K_floorMod (l : Launch) (E : Ev) (x y : Int) (hx : 0 ≤ x ∧ x < 2147483648) (hy : 0 < y ∧ y < 2147483648) : Mc l yJ9_floorMod_7cf53 wsJ9_floorMod_7cf53 rm_K_floorMod E [vI x, vI y] [] 0 0 (fun v9 w9 => v9 = some (vI (Int.tmod x y)) ∧ w9 = []) := by
  refine Mc.intro (cc := cJ9_floorMod_7cf53) (maxL := 3) (ret := (some .int)) (lv0 := [(0, vI x), (1, vI y)]) (by decide +kernel) rfl rfl (Nat.le_of_ble_eq_true rfl) ?_
  intro p9 e9 s9 m9 args9 below9 meth9 c9 A9 C hr hmn
  have C : Cx p9 s9 m9 args9 meth9 c9 E A9 3 cJ9_floorMod_7cf53 wsJ9_floorMod_7cf53 RJ9 := C
  refine g_iload_n C 0 rfl dJ9_floorMod_7cf53_0 rfl ?_
  refine g_iload_n C 1 rfl dJ9_floorMod_7cf53_1 rfl ?_
  refine g_irem C ⟨by omega, by omega⟩ ⟨by omega, by omega⟩ (by omega) rfl dJ9_floorMod_7cf53_2 rfl ?_
  refine g_istore_n C (lv' := [(0, vI x), (1, vI y), (2, vI (Int.tmod x y))]) [1, 2, 0] (by decide) rfl rfl dJ9_floorMod_7cf53_3 rfl ?_
  refine g_iload_n C 0 rfl dJ9_floorMod_7cf53_4 rfl ?_
  refine g_iload_n C 1 rfl dJ9_floorMod_7cf53_5 rfl ?_
  refine g_ixor C (z := I32 (xorI x y)) (xorI_I (by omega) (by omega)) dJ9_floorMod_7cf53_6 rfl ?_
  have hxr := xorI_r hx (show 0 ≤ y ∧ y < 2147483648 by omega)
  have htr := tmod_r (a := x) (b := y) (by omega) (by omega)
  refine g_if_ge C (tgt := 18) ⟨by omega, by omega⟩ dJ9_floorMod_7cf53_7 (by decide) rfl (fun c_1 => ?_) (fun c_1 => ?_)
  · refine g_iload_n C 2 rfl dJ9_floorMod_7cf53_18 rfl ?_
    exact g_iret C hr rfl (Nat.le_of_ble_eq_true rfl) (Nat.le_of_ble_eq_true rfl) dJ9_floorMod_7cf53_19 ⟨rfl, rfl⟩
  exfalso; omega

theorem w_X3_init_oi : Cond.methodLink RX3 1 Lib.objectInit ∈ wsX3_init ∧ Cond.instanceMethod Lib.objectInit ∈ wsX3_init ∧ Cond.code Lib.objectInit ⟨#[0xb1]⟩ 1 none ∈ wsX3_init := ⟨by decide +kernel, by decide +kernel, by decide +kernel⟩
abbrev rm_K_ph_init : Room := { frames := 1, cells := 0, slots := 0, locals := 12 }
set_option maxHeartbeats 8000000 in
set_option maxRecDepth 100000 in
theorem K_ph_init (l : Launch) (E : Ev) (h : Nat) (a b c d : Int)  : Mc l yX3_init wsX3_init rm_K_ph_init E [vR h] [(h, .inr (4, [vI a, vI b, vI c, vI d]))] 0 0 (fun v9 w9 => v9 = none ∧ w9 = [(h, .inr (4, [vI a, vI b, vI c, vI d]))]) := by
  refine Mc.intro (cc := cX3_init) (maxL := 1) (ret := none) (lv0 := [(0, vR h)]) (by decide +kernel) rfl rfl (Nat.le_of_ble_eq_true rfl) ?_
  intro p9 e9 s9 m9 args9 below9 meth9 c9 A9 C hr hmn
  have C : Cx p9 s9 m9 args9 meth9 c9 E A9 1 cX3_init wsX3_init RX3 := C
  refine g_aload_n C 0 rfl dX3_init_0 rfl ?_
  refine g_objInit C w_X3_init_oi ⟨Nat.le_of_ble_eq_true rfl, Nat.le_of_ble_eq_true rfl⟩ dX3_init_1 rfl ?_
  exact g_vret C hr (Nat.le_of_ble_eq_true rfl) (Nat.le_of_ble_eq_true rfl) dX3_init_4 ⟨rfl, rfl⟩

theorem in_X3_put_X3 : ∀ w ∈ u_ws RX3 TX3 4, w ∈ wsX3_put := by decide +kernel
theorem fd_X3_put_7 : fdk wsX3_put RX3 7 "ZoneRelay$Phasors" RX3 TX3 4 0 := ⟨in_X3_put_X3, by decide +kernel, by decide, rfl⟩
theorem fd_X3_put_13 : fdk wsX3_put RX3 13 "ZoneRelay$Phasors" RX3 TX3 4 1 := ⟨in_X3_put_X3, by decide +kernel, by decide, rfl⟩
theorem fd_X3_put_16 : fdk wsX3_put RX3 16 "ZoneRelay$Phasors" RX3 TX3 4 2 := ⟨in_X3_put_X3, by decide +kernel, by decide, rfl⟩
theorem fd_X3_put_19 : fdk wsX3_put RX3 19 "ZoneRelay$Phasors" RX3 TX3 4 3 := ⟨in_X3_put_X3, by decide +kernel, by decide, rfl⟩
abbrev rm_K_ph_put : Room := { frames := 0, cells := 0, slots := 0, locals := 0 }
set_option maxHeartbeats 8000000 in
set_option maxRecDepth 100000 in
theorem K_ph_put (l : Launch) (E : Ev) (h : Nat) (a b c d a2 b2 c2 d2 : Int)  : Mc l yX3_put wsX3_put rm_K_ph_put E [vR h, vI a2, vI b2, vI c2, vI d2] [(h, .inr (4, [vI a, vI b, vI c, vI d]))] 0 0 (fun v9 w9 => v9 = none ∧ w9 = [(h, .inr (4, [vI a2, vI b2, vI c2, vI d2]))]) := by
  refine Mc.intro (cc := cX3_put) (maxL := 5) (ret := none) (lv0 := [(0, vR h), (1, vI a2), (2, vI b2), (3, vI c2), (4, vI d2)]) (by decide +kernel) rfl rfl (Nat.le_of_ble_eq_true rfl) ?_
  intro p9 e9 s9 m9 args9 below9 meth9 c9 A9 C hr hmn
  have C : Cx p9 s9 m9 args9 meth9 c9 E A9 5 cX3_put wsX3_put RX3 := C
  refine g_aload_n C 0 rfl dX3_put_0 rfl ?_
  refine g_iload_n C 1 rfl dX3_put_1 rfl ?_
  refine g_put C tyX3 tyX3_ok nmX3 0 fd_X3_put_7 rfl rfl rfl rfl rfl rfl (Nat.le_of_ble_eq_true rfl) (ws' := [(h, .inr (4, [vI a2, vI b, vI c, vI d]))]) rfl dX3_put_2 rfl ?_
  refine g_aload_n C 0 rfl dX3_put_5 rfl ?_
  refine g_iload_n C 2 rfl dX3_put_6 rfl ?_
  refine g_put C tyX3 tyX3_ok nmX3 0 fd_X3_put_13 rfl rfl rfl rfl rfl rfl (Nat.le_of_ble_eq_true rfl) (ws' := [(h, .inr (4, [vI a2, vI b2, vI c, vI d]))]) rfl dX3_put_7 rfl ?_
  refine g_aload_n C 0 rfl dX3_put_10 rfl ?_
  refine g_iload_n C 3 rfl dX3_put_11 rfl ?_
  refine g_put C tyX3 tyX3_ok nmX3 0 fd_X3_put_16 rfl rfl rfl rfl rfl rfl (Nat.le_of_ble_eq_true rfl) (ws' := [(h, .inr (4, [vI a2, vI b2, vI c2, vI d]))]) rfl dX3_put_12 rfl ?_
  refine g_aload_n C 0 rfl dX3_put_15 rfl ?_
  refine g_iload C 4 rfl dX3_put_16 rfl ?_
  refine g_put C tyX3 tyX3_ok nmX3 0 fd_X3_put_19 rfl rfl rfl rfl rfl rfl (Nat.le_of_ble_eq_true rfl) (ws' := [(h, .inr (4, [vI a2, vI b2, vI c2, vI d2]))]) rfl dX3_put_18 rfl ?_
  exact g_vret C hr (Nat.le_of_ble_eq_true rfl) (Nat.le_of_ble_eq_true rfl) dX3_put_21 ⟨rfl, rfl⟩

theorem in_X3_becomeLike_X3 : ∀ w ∈ u_ws RX3 TX3 4, w ∈ wsX3_becomeLike := by decide +kernel
theorem fd_X3_becomeLike_7 : fdk wsX3_becomeLike RX3 7 "ZoneRelay$Phasors" RX3 TX3 4 0 := ⟨in_X3_becomeLike_X3, by decide +kernel, by decide, rfl⟩
theorem fd_X3_becomeLike_13 : fdk wsX3_becomeLike RX3 13 "ZoneRelay$Phasors" RX3 TX3 4 1 := ⟨in_X3_becomeLike_X3, by decide +kernel, by decide, rfl⟩
theorem fd_X3_becomeLike_16 : fdk wsX3_becomeLike RX3 16 "ZoneRelay$Phasors" RX3 TX3 4 2 := ⟨in_X3_becomeLike_X3, by decide +kernel, by decide, rfl⟩
theorem fd_X3_becomeLike_19 : fdk wsX3_becomeLike RX3 19 "ZoneRelay$Phasors" RX3 TX3 4 3 := ⟨in_X3_becomeLike_X3, by decide +kernel, by decide, rfl⟩
theorem hyd_X3_put : yX3_put.cls ≠ "java/lang/invoke/MethodHandle" ∧ yX3_put.cls ≠ "java/lang/invoke/VarHandle" ∧ (parseMethodDescriptor yX3_put.desc).map (fun d => d.parameters.length) = some 4 := by decide +kernel
abbrev rm_K_ph_like : Room := { frames := 1, cells := 0, slots := 0, locals := 24 }
set_option maxHeartbeats 8000000 in
set_option maxRecDepth 100000 in
theorem K_ph_like (l : Launch) (E : Ev) (h g : Nat) (a b c d a2 b2 c2 d2 : Int)  : Mc l yX3_becomeLike wsX3_becomeLike rm_K_ph_like E [vR h, vR g] [(h, .inr (4, [vI a, vI b, vI c, vI d])), (g, .inr (4, [vI a2, vI b2, vI c2, vI d2]))] 0 0 (fun v9 w9 => v9 = none ∧ w9 = [(h, .inr (4, [vI a2, vI b2, vI c2, vI d2])), (g, .inr (4, [vI a2, vI b2, vI c2, vI d2]))]) := by
  refine Mc.intro (cc := cX3_becomeLike) (maxL := 2) (ret := none) (lv0 := [(0, vR h), (1, vR g)]) (by decide +kernel) rfl rfl (Nat.le_of_ble_eq_true rfl) ?_
  intro p9 e9 s9 m9 args9 below9 meth9 c9 A9 C hr hmn
  have C : Cx p9 s9 m9 args9 meth9 c9 E A9 2 cX3_becomeLike wsX3_becomeLike RX3 := C
  refine g_aload_n C 0 rfl dX3_becomeLike_0 rfl ?_
  refine g_aload_n C 1 rfl dX3_becomeLike_1 rfl ?_
  refine g_get C 1 fd_X3_becomeLike_7 rfl rfl rfl dX3_becomeLike_2 rfl ?_
  refine g_aload_n C 1 rfl dX3_becomeLike_5 rfl ?_
  refine g_get C 1 fd_X3_becomeLike_13 rfl rfl rfl dX3_becomeLike_6 rfl ?_
  refine g_aload_n C 1 rfl dX3_becomeLike_9 rfl ?_
  refine g_get C 1 fd_X3_becomeLike_16 rfl rfl rfl dX3_becomeLike_10 rfl ?_
  refine g_aload_n C 1 rfl dX3_becomeLike_13 rfl ?_
  refine g_get C 1 fd_X3_becomeLike_19 rfl rfl rfl dX3_becomeLike_14 rfl ?_
  refine g_callV C (b := h) (As := [vI a2, vI b2, vI c2, vI d2]) (wc := [(h, .inr (4, [vI a, vI b, vI c, vI d]))]) (wr := [(g, .inr (4, [vI a2, vI b2, vI c2, vI d2]))]) (st := []) gX3_becomeLike_X3_put (q9 := 0) (ci := 4) rfl rfl rfl (K_ph_put l E h a b c d a2 b2 c2 d2 ) hyd_X3_put rfl [0] [1] rfl rfl rfl rfl rfl (by decide) ⟨rfl, rfl⟩ ⟨Nat.le_of_ble_eq_true rfl, Nat.le_of_ble_eq_true rfl, Nat.le_of_ble_eq_true rfl, Nat.le_of_ble_eq_true rfl⟩ (Nat.le_of_ble_eq_true rfl) dX3_becomeLike_17 (rfl : _ = 0) (rfl : _ = 0) rfl ?_
  rintro _ _ ⟨rfl, rfl⟩
  refine g_is (ws' := [(g, .inr (4, [vI a2, vI b2, vI c2, vI d2])), (h, .inr (4, [vI a2, vI b2, vI c2, vI d2]))]) (st' := []) rfl rfl ?_
  refine g_sub (ws' := [(h, .inr (4, [vI a2, vI b2, vI c2, vI d2])), (g, .inr (4, [vI a2, vI b2, vI c2, vI d2]))]) [1, 0] rfl rfl rfl ?_
  exact g_vret C hr (Nat.le_of_ble_eq_true rfl) (Nat.le_of_ble_eq_true rfl) dX3_becomeLike_20 ⟨rfl, rfl⟩

theorem w_X0_init_oi : Cond.methodLink RX0 1 Lib.objectInit ∈ wsX0_init ∧ Cond.instanceMethod Lib.objectInit ∈ wsX0_init ∧ Cond.code Lib.objectInit ⟨#[0xb1]⟩ 1 none ∈ wsX0_init := ⟨by decide +kernel, by decide +kernel, by decide +kernel⟩
theorem in_X0_init_X0 : ∀ w ∈ u_ws RX0 TX0 4, w ∈ wsX0_init := by decide +kernel
theorem fd_X0_init_7 : fdk wsX0_init RX0 7 "ZoneRelay$Impedance" RX0 TX0 4 3 := ⟨in_X0_init_X0, by decide +kernel, by decide, rfl⟩
abbrev rm_K_imp_init : Room := { frames := 1, cells := 0, slots := 0, locals := 12 }
set_option maxHeartbeats 8000000 in
set_option maxRecDepth 100000 in
theorem K_imp_init (l : Launch) (E : Ev) (h : Nat) (x x1 x2 x3 : Int)  : Mc l yX0_init wsX0_init rm_K_imp_init E [vR h] [(h, .inr (1, [vI x, vL x1, vL x2, vL x3]))] 0 0 (fun v9 w9 => v9 = none ∧ w9 = [(h, .inr (1, [vI x, vL x1, vL x2, vL 1]))]) := by
  refine Mc.intro (cc := cX0_init) (maxL := 1) (ret := none) (lv0 := [(0, vR h)]) (by decide +kernel) rfl rfl (Nat.le_of_ble_eq_true rfl) ?_
  intro p9 e9 s9 m9 args9 below9 meth9 c9 A9 C hr hmn
  have C : Cx p9 s9 m9 args9 meth9 c9 E A9 1 cX0_init wsX0_init RX0 := C
  refine g_aload_n C 0 rfl dX0_init_0 rfl ?_
  refine g_objInit C w_X0_init_oi ⟨Nat.le_of_ble_eq_true rfl, Nat.le_of_ble_eq_true rfl⟩ dX0_init_1 rfl ?_
  refine g_aload_n C 0 rfl dX0_init_4 rfl ?_
  refine g_lconst1 C dX0_init_5 rfl ?_
  refine g_put C tyX0 tyX0_ok nmX0 0 fd_X0_init_7 rfl rfl rfl rfl rfl rfl (Nat.le_of_ble_eq_true rfl) (ws' := [(h, .inr (1, [vI x, vL x1, vL x2, vL 1]))]) rfl dX0_init_6 rfl ?_
  exact g_vret C hr (Nat.le_of_ble_eq_true rfl) (Nat.le_of_ble_eq_true rfl) dX0_init_9 ⟨rfl, rfl⟩

theorem in_X0_becomeLike_X0 : ∀ w ∈ u_ws RX0 TX0 4, w ∈ wsX0_becomeLike := by decide +kernel
theorem fd_X0_becomeLike_13 : fdk wsX0_becomeLike RX0 13 "ZoneRelay$Impedance" RX0 TX0 4 0 := ⟨in_X0_becomeLike_X0, by decide +kernel, by decide, rfl⟩
theorem fd_X0_becomeLike_17 : fdk wsX0_becomeLike RX0 17 "ZoneRelay$Impedance" RX0 TX0 4 1 := ⟨in_X0_becomeLike_X0, by decide +kernel, by decide, rfl⟩
theorem fd_X0_becomeLike_20 : fdk wsX0_becomeLike RX0 20 "ZoneRelay$Impedance" RX0 TX0 4 2 := ⟨in_X0_becomeLike_X0, by decide +kernel, by decide, rfl⟩
theorem fd_X0_becomeLike_7 : fdk wsX0_becomeLike RX0 7 "ZoneRelay$Impedance" RX0 TX0 4 3 := ⟨in_X0_becomeLike_X0, by decide +kernel, by decide, rfl⟩
abbrev rm_K_imp_like : Room := { frames := 0, cells := 0, slots := 0, locals := 0 }
set_option maxHeartbeats 8000000 in
set_option maxRecDepth 100000 in
theorem K_imp_like (l : Launch) (E : Ev) (h g : Nat) (z x y d z2 x2 y2 d2 : Int) (hz : z2 = 0 ∨ z2 = 1) : Mc l yX0_becomeLike wsX0_becomeLike rm_K_imp_like E [vR h, vR g] [(h, .inr (1, [vI z, vL x, vL y, vL d])), (g, .inr (1, [vI z2, vL x2, vL y2, vL d2]))] 0 0 (fun v9 w9 => v9 = none ∧ w9 = [(h, .inr (1, [vI z2, vL x2, vL y2, vL d2])), (g, .inr (1, [vI z2, vL x2, vL y2, vL d2]))]) := by
  refine Mc.intro (cc := cX0_becomeLike) (maxL := 2) (ret := none) (lv0 := [(0, vR h), (1, vR g)]) (by decide +kernel) rfl rfl (Nat.le_of_ble_eq_true rfl) ?_
  intro p9 e9 s9 m9 args9 below9 meth9 c9 A9 C hr hmn
  have C : Cx p9 s9 m9 args9 meth9 c9 E A9 2 cX0_becomeLike wsX0_becomeLike RX0 := C
  refine g_aload_n C 0 rfl dX0_becomeLike_0 rfl ?_
  refine g_aload_n C 1 rfl dX0_becomeLike_1 rfl ?_
  refine g_get C 1 fd_X0_becomeLike_13 rfl rfl rfl dX0_becomeLike_2 rfl ?_
  refine g_put C tyX0 tyX0_ok nmX0 0 fd_X0_becomeLike_13 rfl rfl rfl rfl (nrZi hz) (ftZi hz) (Nat.le_of_ble_eq_true rfl) (ws' := [(h, .inr (1, [vI z2, vL x, vL y, vL d])), (g, .inr (1, [vI z2, vL x2, vL y2, vL d2]))]) rfl dX0_becomeLike_5 rfl ?_
  refine g_aload_n C 0 rfl dX0_becomeLike_8 rfl ?_
  refine g_aload_n C 1 rfl dX0_becomeLike_9 rfl ?_
  refine g_get C 1 fd_X0_becomeLike_17 rfl rfl rfl dX0_becomeLike_10 rfl ?_
  refine g_put C tyX0 tyX0_ok nmX0 0 fd_X0_becomeLike_17 rfl rfl rfl rfl rfl rfl (Nat.le_of_ble_eq_true rfl) (ws' := [(h, .inr (1, [vI z2, vL x2, vL y, vL d])), (g, .inr (1, [vI z2, vL x2, vL y2, vL d2]))]) rfl dX0_becomeLike_13 rfl ?_
  refine g_aload_n C 0 rfl dX0_becomeLike_16 rfl ?_
  refine g_aload_n C 1 rfl dX0_becomeLike_17 rfl ?_
  refine g_get C 1 fd_X0_becomeLike_20 rfl rfl rfl dX0_becomeLike_18 rfl ?_
  refine g_put C tyX0 tyX0_ok nmX0 0 fd_X0_becomeLike_20 rfl rfl rfl rfl rfl rfl (Nat.le_of_ble_eq_true rfl) (ws' := [(h, .inr (1, [vI z2, vL x2, vL y2, vL d])), (g, .inr (1, [vI z2, vL x2, vL y2, vL d2]))]) rfl dX0_becomeLike_21 rfl ?_
  refine g_aload_n C 0 rfl dX0_becomeLike_24 rfl ?_
  refine g_aload_n C 1 rfl dX0_becomeLike_25 rfl ?_
  refine g_get C 1 fd_X0_becomeLike_7 rfl rfl rfl dX0_becomeLike_26 rfl ?_
  refine g_put C tyX0 tyX0_ok nmX0 0 fd_X0_becomeLike_7 rfl rfl rfl rfl rfl rfl (Nat.le_of_ble_eq_true rfl) (ws' := [(h, .inr (1, [vI z2, vL x2, vL y2, vL d2])), (g, .inr (1, [vI z2, vL x2, vL y2, vL d2]))]) rfl dX0_becomeLike_29 rfl ?_
  exact g_vret C hr (Nat.le_of_ble_eq_true rfl) (Nat.le_of_ble_eq_true rfl) dX0_becomeLike_32 ⟨rfl, rfl⟩

theorem in_X0_become_X3 : ∀ w ∈ u_ws RX3 TX3 4, w ∈ wsX0_become := by decide +kernel
theorem fd_X0_become_23 : fdk wsX0_become RX0 23 "ZoneRelay$Phasors" RX3 TX3 4 0 := ⟨in_X0_become_X3, by decide +kernel, by decide, rfl⟩
theorem fd_X0_become_29 : fdk wsX0_become RX0 29 "ZoneRelay$Phasors" RX3 TX3 4 1 := ⟨in_X0_become_X3, by decide +kernel, by decide, rfl⟩
theorem fd_X0_become_32 : fdk wsX0_become RX0 32 "ZoneRelay$Phasors" RX3 TX3 4 2 := ⟨in_X0_become_X3, by decide +kernel, by decide, rfl⟩
theorem fd_X0_become_35 : fdk wsX0_become RX0 35 "ZoneRelay$Phasors" RX3 TX3 4 3 := ⟨in_X0_become_X3, by decide +kernel, by decide, rfl⟩
theorem in_X0_become_X0 : ∀ w ∈ u_ws RX0 TX0 4, w ∈ wsX0_become := by decide +kernel
theorem fd_X0_become_7 : fdk wsX0_become RX0 7 "ZoneRelay$Impedance" RX0 TX0 4 3 := ⟨in_X0_become_X0, by decide +kernel, by decide, rfl⟩
theorem w_X0_become_k38 : Cond.constantLong RX0 38 (1000) ∈ wsX0_become := by decide +kernel
theorem fd_X0_become_17 : fdk wsX0_become RX0 17 "ZoneRelay$Impedance" RX0 TX0 4 1 := ⟨in_X0_become_X0, by decide +kernel, by decide, rfl⟩
theorem fd_X0_become_20 : fdk wsX0_become RX0 20 "ZoneRelay$Impedance" RX0 TX0 4 2 := ⟨in_X0_become_X0, by decide +kernel, by decide, rfl⟩
theorem fd_X0_become_13 : fdk wsX0_become RX0 13 "ZoneRelay$Impedance" RX0 TX0 4 0 := ⟨in_X0_become_X0, by decide +kernel, by decide, rfl⟩
abbrev rm_K_imp_become : Room := { frames := 0, cells := 0, slots := 0, locals := 0 }
set_option maxHeartbeats 8000000 in
set_option maxRecDepth 100000 in
theorem K_imp_become (l : Launch) (E : Ev) (h g : Nat) (z x y d va vb ia ib m : Int) (eva : -51000 ≤ va ∧ va ≤ 51000) (evb : -51000 ≤ vb ∧ vb ≤ 51000) (eia : -51000 ≤ ia ∧ ia ≤ 51000) (eib : -51000 ≤ ib ∧ ib ≤ 51000) (hm : 0 ≤ m ∧ m ≤ 20000) : Mc l yX0_become wsX0_become rm_K_imp_become E [vR h, vR g, vI m] [(h, .inr (1, [vI z, vL x, vL y, vL d])), (g, .inr (4, [vI va, vI vb, vI ia, vI ib]))] 0 0 (fun v9 w9 => v9 = none ∧ w9 = [(h, .inr (1, [vI (bP (0 < ia * ia + ib * ib ∧ m * m ≤ ia * ia + ib * ib)), vL (1000 * ((va * ia) + (vb * ib))), vL (1000 * ((vb * ia) - (va * ib))), vL ((ia * ia) + (ib * ib))])), (g, .inr (4, [vI va, vI vb, vI ia, vI ib]))]) := by
  refine Mc.intro (cc := cX0_become) (maxL := 11) (ret := none) (lv0 := [(0, vR h), (1, vR g), (2, vI m)]) (by decide +kernel) rfl rfl (Nat.le_of_ble_eq_true rfl) ?_
  intro p9 e9 s9 m9 args9 below9 meth9 c9 A9 C hr hmn
  have C : Cx p9 s9 m9 args9 meth9 c9 E A9 11 cX0_become wsX0_become RX0 := C
  have m1 := mul_b (x := ia) (y := ia) (A := 51000) (B := 51000) eia eia
  have m2 := mul_b (x := ib) (y := ib) (A := 51000) (B := 51000) eib eib
  have m3 := mul_b (x := m) (y := m) (A := 20000) (B := 20000) (by omega) (by omega)
  refine g_aload_n C 1 rfl dX0_become_0 rfl ?_
  refine g_get C 1 fd_X0_become_23 rfl rfl rfl dX0_become_1 rfl ?_
  refine g_i2l C ⟨by omega, by omega⟩ rfl dX0_become_4 rfl ?_
  refine g_lstore_n C (lv' := [(0, vR h), (1, vR g), (2, vI m), (3, vL va)]) [1, 2, 3, 0] (by decide) rfl rfl dX0_become_5 rfl ?_
  refine g_aload_n C 1 rfl dX0_become_6 rfl ?_
  refine g_get C 1 fd_X0_become_29 rfl rfl rfl dX0_become_7 rfl ?_
  refine g_i2l C ⟨by omega, by omega⟩ rfl dX0_become_10 rfl ?_
  refine g_lstore C (lv' := [(0, vR h), (1, vR g), (2, vI m), (3, vL va), (5, vL vb)]) [1, 2, 3, 4, 0] (by decide) rfl rfl dX0_become_11 rfl ?_
  refine g_aload_n C 1 rfl dX0_become_13 rfl ?_
  refine g_get C 1 fd_X0_become_32 rfl rfl rfl dX0_become_14 rfl ?_
  refine g_i2l C ⟨by omega, by omega⟩ rfl dX0_become_17 rfl ?_
  refine g_lstore C (lv' := [(0, vR h), (1, vR g), (2, vI m), (3, vL va), (5, vL vb), (7, vL ia)]) [1, 2, 3, 4, 5, 0] (by decide) rfl rfl dX0_become_18 rfl ?_
  refine g_aload_n C 1 rfl dX0_become_20 rfl ?_
  refine g_get C 1 fd_X0_become_35 rfl rfl rfl dX0_become_21 rfl ?_
  refine g_i2l C ⟨by omega, by omega⟩ rfl dX0_become_24 rfl ?_
  refine g_lstore C (lv' := [(0, vR h), (1, vR g), (2, vI m), (3, vL va), (5, vL vb), (7, vL ia), (9, vL ib)]) [1, 2, 3, 4, 5, 6, 0] (by decide) rfl rfl dX0_become_25 rfl ?_
  refine g_aload_n C 0 rfl dX0_become_27 rfl ?_
  refine g_lload C 5 rfl dX0_become_28 rfl ?_
  refine g_lload C 5 rfl dX0_become_30 rfl ?_
  refine g_lmul C rfl dX0_become_32 rfl ?_
  refine g_lload C 6 rfl dX0_become_33 rfl ?_
  refine g_lload C 6 rfl dX0_become_35 rfl ?_
  refine g_lmul C rfl dX0_become_37 rfl ?_
  refine g_ladd C rfl dX0_become_38 rfl ?_
  refine g_put C tyX0 tyX0_ok nmX0 0 fd_X0_become_7 rfl rfl rfl rfl rfl rfl (Nat.le_of_ble_eq_true rfl) (ws' := [(h, .inr (1, [vI z, vL x, vL y, vL ((ia * ia) + (ib * ib))])), (g, .inr (4, [vI va, vI vb, vI ia, vI ib]))]) rfl dX0_become_39 rfl ?_
  refine g_aload_n C 0 rfl dX0_become_42 rfl ?_
  refine g_ldc2 C (x := 1000) w_X0_become_k38 (by decide) dX0_become_43 rfl ?_
  refine g_lload_n C 3 rfl dX0_become_46 rfl ?_
  refine g_lload C 5 rfl dX0_become_47 rfl ?_
  refine g_lmul C rfl dX0_become_49 rfl ?_
  refine g_lload C 4 rfl dX0_become_50 rfl ?_
  refine g_lload C 6 rfl dX0_become_52 rfl ?_
  refine g_lmul C rfl dX0_become_54 rfl ?_
  refine g_ladd C rfl dX0_become_55 rfl ?_
  refine g_lmul C rfl dX0_become_56 rfl ?_
  refine g_put C tyX0 tyX0_ok nmX0 0 fd_X0_become_17 rfl rfl rfl rfl rfl rfl (Nat.le_of_ble_eq_true rfl) (ws' := [(h, .inr (1, [vI z, vL (1000 * ((va * ia) + (vb * ib))), vL y, vL ((ia * ia) + (ib * ib))])), (g, .inr (4, [vI va, vI vb, vI ia, vI ib]))]) rfl dX0_become_57 rfl ?_
  refine g_aload_n C 0 rfl dX0_become_60 rfl ?_
  refine g_ldc2 C (x := 1000) w_X0_become_k38 (by decide) dX0_become_61 rfl ?_
  refine g_lload C 4 rfl dX0_become_64 rfl ?_
  refine g_lload C 5 rfl dX0_become_66 rfl ?_
  refine g_lmul C rfl dX0_become_68 rfl ?_
  refine g_lload_n C 3 rfl dX0_become_69 rfl ?_
  refine g_lload C 6 rfl dX0_become_70 rfl ?_
  refine g_lmul C rfl dX0_become_72 rfl ?_
  refine g_lsub C rfl dX0_become_73 rfl ?_
  refine g_lmul C rfl dX0_become_74 rfl ?_
  refine g_put C tyX0 tyX0_ok nmX0 0 fd_X0_become_20 rfl rfl rfl rfl rfl rfl (Nat.le_of_ble_eq_true rfl) (ws' := [(h, .inr (1, [vI z, vL (1000 * ((va * ia) + (vb * ib))), vL (1000 * ((vb * ia) - (va * ib))), vL ((ia * ia) + (ib * ib))])), (g, .inr (4, [vI va, vI vb, vI ia, vI ib]))]) rfl dX0_become_75 rfl ?_
  refine g_aload_n C 0 rfl dX0_become_78 rfl ?_
  refine g_aload_n C 0 rfl dX0_become_79 rfl ?_
  refine g_get C 0 fd_X0_become_7 rfl rfl rfl dX0_become_80 rfl ?_
  refine g_lconst0 C dX0_become_83 rfl ?_
  refine g_lcmp_le C ⟨by omega, by omega⟩ ⟨by decide, by decide⟩ dX0_become_84 rfl (tgt := 105) dX0_become_85 (by decide) rfl (fun c_1 => ?_) (fun c_1 => ?_)
  · refine g_iconst C dX0_become_105 rfl ?_
    refine g_put C tyX0 tyX0_ok nmX0 0 fd_X0_become_13 rfl rfl rfl rfl (by decide) (by decide) (Nat.le_of_ble_eq_true rfl) (ws' := [(h, .inr (1, [vI 0, vL (1000 * ((va * ia) + (vb * ib))), vL (1000 * ((vb * ia) - (va * ib))), vL ((ia * ia) + (ib * ib))])), (g, .inr (4, [vI va, vI vb, vI ia, vI ib]))]) rfl dX0_become_106 rfl ?_
    refine g_ws (ws' := [(h, .inr (1, [vI (bP (0 < ia * ia + ib * ib ∧ m * m ≤ ia * ia + ib * ib)), vL (1000 * ((va * ia) + (vb * ib))), vL (1000 * ((vb * ia) - (va * ib))), vL ((ia * ia) + (ib * ib))])), (g, .inr (4, [vI va, vI vb, vI ia, vI ib]))]) (congrArg (fun z_ : Int => ([(h, .inr (1, [vI z_, vL (1000 * ((va * ia) + (vb * ib))), vL (1000 * ((vb * ia) - (va * ib))), vL ((ia * ia) + (ib * ib))])), (g, .inr (4, [vI va, vI vb, vI ia, vI ib]))] : va_W)) (show (bP (0 < ia * ia + ib * ib ∧ m * m ≤ ia * ia + ib * ib)) = 0 by first | exact bP_t (by first | assumption | omega) | exact bP_f (by first | assumption | omega))) ?_
    exact g_vret C hr (Nat.le_of_ble_eq_true rfl) (Nat.le_of_ble_eq_true rfl) dX0_become_109 ⟨rfl, rfl⟩
  refine g_aload_n C 0 rfl dX0_become_88 rfl ?_
  refine g_get C 0 fd_X0_become_7 rfl rfl rfl dX0_become_89 rfl ?_
  refine g_iload_n C 2 rfl dX0_become_92 rfl ?_
  refine g_i2l C ⟨by omega, by omega⟩ rfl dX0_become_93 rfl ?_
  refine g_iload_n C 2 rfl dX0_become_94 rfl ?_
  refine g_i2l C ⟨by omega, by omega⟩ rfl dX0_become_95 rfl ?_
  refine g_lmul C rfl dX0_become_96 rfl ?_
  refine g_lcmp_lt C ⟨by omega, by omega⟩ ⟨by omega, by omega⟩ dX0_become_97 rfl (tgt := 105) dX0_become_98 (by decide) rfl (fun c_2 => ?_) (fun c_2 => ?_)
  · refine g_iconst C dX0_become_105 rfl ?_
    refine g_put C tyX0 tyX0_ok nmX0 0 fd_X0_become_13 rfl rfl rfl rfl (by decide) (by decide) (Nat.le_of_ble_eq_true rfl) (ws' := [(h, .inr (1, [vI 0, vL (1000 * ((va * ia) + (vb * ib))), vL (1000 * ((vb * ia) - (va * ib))), vL ((ia * ia) + (ib * ib))])), (g, .inr (4, [vI va, vI vb, vI ia, vI ib]))]) rfl dX0_become_106 rfl ?_
    refine g_ws (ws' := [(h, .inr (1, [vI (bP (0 < ia * ia + ib * ib ∧ m * m ≤ ia * ia + ib * ib)), vL (1000 * ((va * ia) + (vb * ib))), vL (1000 * ((vb * ia) - (va * ib))), vL ((ia * ia) + (ib * ib))])), (g, .inr (4, [vI va, vI vb, vI ia, vI ib]))]) (congrArg (fun z_ : Int => ([(h, .inr (1, [vI z_, vL (1000 * ((va * ia) + (vb * ib))), vL (1000 * ((vb * ia) - (va * ib))), vL ((ia * ia) + (ib * ib))])), (g, .inr (4, [vI va, vI vb, vI ia, vI ib]))] : va_W)) (show (bP (0 < ia * ia + ib * ib ∧ m * m ≤ ia * ia + ib * ib)) = 0 by first | exact bP_t (by first | assumption | omega) | exact bP_f (by first | assumption | omega))) ?_
    exact g_vret C hr (Nat.le_of_ble_eq_true rfl) (Nat.le_of_ble_eq_true rfl) dX0_become_109 ⟨rfl, rfl⟩
  refine g_iconst C dX0_become_101 rfl ?_
  refine g_goto C (pc' := 106) dX0_become_102 (by decide) ?_
  refine g_put C tyX0 tyX0_ok nmX0 0 fd_X0_become_13 rfl rfl rfl rfl (by decide) (by decide) (Nat.le_of_ble_eq_true rfl) (ws' := [(h, .inr (1, [vI 1, vL (1000 * ((va * ia) + (vb * ib))), vL (1000 * ((vb * ia) - (va * ib))), vL ((ia * ia) + (ib * ib))])), (g, .inr (4, [vI va, vI vb, vI ia, vI ib]))]) rfl dX0_become_106 rfl ?_
  refine g_ws (ws' := [(h, .inr (1, [vI (bP (0 < ia * ia + ib * ib ∧ m * m ≤ ia * ia + ib * ib)), vL (1000 * ((va * ia) + (vb * ib))), vL (1000 * ((vb * ia) - (va * ib))), vL ((ia * ia) + (ib * ib))])), (g, .inr (4, [vI va, vI vb, vI ia, vI ib]))]) (congrArg (fun z_ : Int => ([(h, .inr (1, [vI z_, vL (1000 * ((va * ia) + (vb * ib))), vL (1000 * ((vb * ia) - (va * ib))), vL ((ia * ia) + (ib * ib))])), (g, .inr (4, [vI va, vI vb, vI ia, vI ib]))] : va_W)) (show (bP (0 < ia * ia + ib * ib ∧ m * m ≤ ia * ia + ib * ib)) = 1 by first | exact bP_t (by first | assumption | omega) | exact bP_f (by first | assumption | omega))) ?_
  exact g_vret C hr (Nat.le_of_ble_eq_true rfl) (Nat.le_of_ble_eq_true rfl) dX0_become_109 ⟨rfl, rfl⟩

theorem in_X0_truncated_X0 : ∀ w ∈ u_ws RX0 TX0 4, w ∈ wsX0_truncated := by decide +kernel
theorem fd_X0_truncated_7 : fdk wsX0_truncated RX0 7 "ZoneRelay$Impedance" RX0 TX0 4 3 := ⟨in_X0_truncated_X0, by decide +kernel, by decide, rfl⟩
abbrev rm_K_imp_trunc : Room := { frames := 0, cells := 0, slots := 0, locals := 0 }
set_option maxHeartbeats 8000000 in
set_option maxRecDepth 100000 in
theorem K_imp_trunc (l : Launch) (E : Ev) (h : Nat) (z x y d q : Int) (hd : 0 ≤ d ∧ d ≤ 5210000000) (hq : -5300000000000 ≤ q ∧ q ≤ 5300000000000) : Mc l yX0_truncated wsX0_truncated rm_K_imp_trunc E [vR h, vL q] [(h, .inr (1, [vI z, vL x, vL y, vL d]))] 0 0 (fun v9 w9 => v9 = some (vL (trc q d)) ∧ w9 = [(h, .inr (1, [vI z, vL x, vL y, vL d]))]) := by
  refine Mc.intro (cc := cX0_truncated) (maxL := 3) (ret := (some .long)) (lv0 := [(0, vR h), (1, vL q)]) (by decide +kernel) rfl rfl (Nat.le_of_ble_eq_true rfl) ?_
  intro p9 e9 s9 m9 args9 below9 meth9 c9 A9 C hr hmn
  have C : Cx p9 s9 m9 args9 meth9 c9 E A9 3 cX0_truncated wsX0_truncated RX0 := C
  refine g_aload_n C 0 rfl dX0_truncated_0 rfl ?_
  refine g_get C 0 fd_X0_truncated_7 rfl rfl rfl dX0_truncated_1 rfl ?_
  refine g_lconst0 C dX0_truncated_4 rfl ?_
  refine g_lcmp_ne C ⟨by omega, by omega⟩ ⟨by decide, by decide⟩ dX0_truncated_5 rfl (tgt := 13) dX0_truncated_6 (by decide) rfl (fun c_1 => ?_) (fun c_1 => ?_)
  · refine g_lload_n C 1 rfl dX0_truncated_13 rfl ?_
    refine g_aload_n C 0 rfl dX0_truncated_14 rfl ?_
    refine g_get C 0 fd_X0_truncated_7 rfl rfl rfl dX0_truncated_15 rfl ?_
    refine g_ldiv C ⟨by omega, by omega⟩ ⟨by omega, by omega⟩ (by assumption) rfl dX0_truncated_18 rfl ?_
    refine g_top (v' := vL (trc q d)) (congrArg (fun z_ : Int => vL z_) (show (trc q d) = (Int.tdiv q d) by unfold trc; first | rw [if_pos (by omega)] | rw [if_neg (by omega)])) ?_
    exact g_lret C hr (Nat.le_of_ble_eq_true rfl) (Nat.le_of_ble_eq_true rfl) dX0_truncated_19 ⟨rfl, rfl⟩
  refine g_lconst0 C dX0_truncated_9 rfl ?_
  refine g_goto C (pc' := 19) dX0_truncated_10 (by decide) ?_
  refine g_top (v' := vL (trc q d)) (congrArg (fun z_ : Int => vL z_) (show (trc q d) = 0 by unfold trc; first | rw [if_pos (by omega)] | rw [if_neg (by omega)])) ?_
  exact g_lret C hr (Nat.le_of_ble_eq_true rfl) (Nat.le_of_ble_eq_true rfl) dX0_truncated_19 ⟨rfl, rfl⟩

theorem in_X0_isIn_X0 : ∀ w ∈ u_ws RX0 TX0 4, w ∈ wsX0_isIn := by decide +kernel
theorem fd_X0_isIn_13 : fdk wsX0_isIn RX0 13 "ZoneRelay$Impedance" RX0 TX0 4 0 := ⟨in_X0_isIn_X0, by decide +kernel, by decide, rfl⟩
theorem fd_X0_isIn_17 : fdk wsX0_isIn RX0 17 "ZoneRelay$Impedance" RX0 TX0 4 1 := ⟨in_X0_isIn_X0, by decide +kernel, by decide, rfl⟩
theorem fd_X0_isIn_20 : fdk wsX0_isIn RX0 20 "ZoneRelay$Impedance" RX0 TX0 4 2 := ⟨in_X0_isIn_X0, by decide +kernel, by decide, rfl⟩
theorem fd_X0_isIn_7 : fdk wsX0_isIn RX0 7 "ZoneRelay$Impedance" RX0 TX0 4 3 := ⟨in_X0_isIn_X0, by decide +kernel, by decide, rfl⟩
theorem hyd_X4_holds : yX4_holds.cls ≠ "java/lang/invoke/MethodHandle" ∧ yX4_holds.cls ≠ "java/lang/invoke/VarHandle" ∧ (parseMethodDescriptor yX4_holds.desc).map (fun d => d.parameters.length) = some 3 := by decide +kernel
abbrev rm_K_imp_isIn : Room := { frames := 2, cells := 0, slots := 0, locals := 53 }
set_option maxHeartbeats 8000000 in
set_option maxRecDepth 100000 in
theorem K_imp_isIn (l : Launch) (E : Ev) (h g xs ys : Nat) (X Y : Int → Int) (n df z x y d : Int) (hn : 0 ≤ n ∧ n ≤ 8) (hX : cbA X) (hY : cbA Y) (hdf : df = snd X Y n) (hz : z = 0 ∨ z = 1) (hx : -5300000000000 ≤ x ∧ x ≤ 5300000000000) (hy : -5300000000000 ≤ y ∧ y ≤ 5300000000000) (hd : 0 ≤ d ∧ d ≤ 5210000000) : Mc l yX0_isIn wsX0_isIn rm_K_imp_isIn E [vR h, vR g] [(h, .inr (1, [vI z, vL x, vL y, vL d])), (g, .inr (5, [vR xs, vR ys, vI n, vI df])), (xs, cI E 8 X), (ys, cI E 8 Y)] 0 0 (fun v9 w9 => v9 = some (vI (bP (z = 1 ∧ hld X Y n x y d = true))) ∧ w9 = [(h, .inr (1, [vI z, vL x, vL y, vL d])), (g, .inr (5, [vR xs, vR ys, vI n, vI df])), (xs, cI E 8 X), (ys, cI E 8 Y)]) := by
  refine Mc.intro (cc := cX0_isIn) (maxL := 2) (ret := (some .boolean)) (lv0 := [(0, vR h), (1, vR g)]) (by decide +kernel) rfl rfl (Nat.le_of_ble_eq_true rfl) ?_
  intro p9 e9 s9 m9 args9 below9 meth9 c9 A9 C hr hmn
  have C : Cx p9 s9 m9 args9 meth9 c9 E A9 2 cX0_isIn wsX0_isIn RX0 := C
  refine g_aload_n C 0 rfl dX0_isIn_0 rfl ?_
  refine g_get C 0 fd_X0_isIn_13 rfl rfl rfl dX0_isIn_1 rfl ?_
  refine g_if_eq C (tgt := 30) ⟨by omega, by omega⟩ dX0_isIn_4 (by decide) rfl (fun c_1 => ?_) (fun c_1 => ?_)
  · refine g_iconst C dX0_isIn_30 rfl ?_
    refine g_top (v' := vI (bP (z = 1 ∧ hld X Y n x y d = true))) (congrArg (fun z_ : Int => vI z_) (show (bP (z = 1 ∧ hld X Y n x y d = true)) = 0 by first | exact bP_t (by first | assumption | omega | (refine ⟨by omega, ?_⟩; assumption)) | exact bP_f (by first | assumption | omega | (intro q; exact absurd q.1 (by omega)) | (intro q; exact absurd q.2 (by assumption))))) ?_
    exact g_iret C hr (nrZ _) (Nat.le_of_ble_eq_true rfl) (Nat.le_of_ble_eq_true rfl) dX0_isIn_31 ⟨rfl, rfl⟩
  refine g_aload_n C 1 rfl dX0_isIn_7 rfl ?_
  refine g_aload_n C 0 rfl dX0_isIn_8 rfl ?_
  refine g_get C 0 fd_X0_isIn_17 rfl rfl rfl dX0_isIn_9 rfl ?_
  refine g_aload_n C 0 rfl dX0_isIn_12 rfl ?_
  refine g_get C 0 fd_X0_isIn_20 rfl rfl rfl dX0_isIn_13 rfl ?_
  refine g_aload_n C 0 rfl dX0_isIn_16 rfl ?_
  refine g_get C 0 fd_X0_isIn_7 rfl rfl rfl dX0_isIn_17 rfl ?_
  refine g_callV C (b := g) (As := [vL x, vL y, vL d]) (wc := [(g, .inr (5, [vR xs, vR ys, vI n, vI df])), (xs, cI E 8 X), (ys, cI E 8 Y)]) (wr := [(h, .inr (1, [vI z, vL x, vL y, vL d]))]) (st := []) gX0_isIn_X4_holds (q9 := 0) (ci := 5) rfl rfl rfl (K_holds l E g xs ys X Y n df x y d hn hX hY hdf hx hy hd) hyd_X4_holds rfl [1, 2, 3] [0] rfl rfl rfl rfl rfl (by decide) ⟨rfl, rfl⟩ ⟨Nat.le_of_ble_eq_true rfl, Nat.le_of_ble_eq_true rfl, Nat.le_of_ble_eq_true rfl, Nat.le_of_ble_eq_true rfl⟩ (Nat.le_of_ble_eq_true rfl) dX0_isIn_20 (rfl : _ = 0) (rfl : _ = 0) rfl ?_
  rintro _ _ ⟨rfl, rfl⟩
  refine g_is (ws' := [(h, .inr (1, [vI z, vL x, vL y, vL d])), (g, .inr (5, [vR xs, vR ys, vI n, vI df])), (xs, cI E 8 X), (ys, cI E 8 Y)]) (st' := [vI (bP (hld X Y n x y d = true))]) rfl rfl ?_
  refine g_ifb_eq C (tgt := 30) dX0_isIn_23 (by decide) rfl (fun c_2 => ?_) (fun c_2 => ?_)
  · refine g_iconst C dX0_isIn_30 rfl ?_
    refine g_top (v' := vI (bP (z = 1 ∧ hld X Y n x y d = true))) (congrArg (fun z_ : Int => vI z_) (show (bP (z = 1 ∧ hld X Y n x y d = true)) = 0 by first | exact bP_t (by first | assumption | omega | (refine ⟨by omega, ?_⟩; assumption)) | exact bP_f (by first | assumption | omega | (intro q; exact absurd q.1 (by omega)) | (intro q; exact absurd q.2 (by assumption))))) ?_
    exact g_iret C hr (nrZ _) (Nat.le_of_ble_eq_true rfl) (Nat.le_of_ble_eq_true rfl) dX0_isIn_31 ⟨rfl, rfl⟩
  refine g_iconst C dX0_isIn_26 rfl ?_
  refine g_goto C (pc' := 31) dX0_isIn_27 (by decide) ?_
  refine g_top (v' := vI (bP (z = 1 ∧ hld X Y n x y d = true))) (congrArg (fun z_ : Int => vI z_) (show (bP (z = 1 ∧ hld X Y n x y d = true)) = 1 by first | exact bP_t (by first | assumption | omega | (refine ⟨by omega, ?_⟩; assumption)) | exact bP_f (by first | assumption | omega | (intro q; exact absurd q.1 (by omega)) | (intro q; exact absurd q.2 (by assumption))))) ?_
  exact g_iret C hr (nrZ _) (Nat.le_of_ble_eq_true rfl) (Nat.le_of_ble_eq_true rfl) dX0_isIn_31 ⟨rfl, rfl⟩

theorem in_X0_isInLoad_X0 : ∀ w ∈ u_ws RX0 TX0 4, w ∈ wsX0_isInLoad := by decide +kernel
theorem fd_X0_isInLoad_13 : fdk wsX0_isInLoad RX0 13 "ZoneRelay$Impedance" RX0 TX0 4 0 := ⟨in_X0_isInLoad_X0, by decide +kernel, by decide, rfl⟩
theorem fd_X0_isInLoad_17 : fdk wsX0_isInLoad RX0 17 "ZoneRelay$Impedance" RX0 TX0 4 1 := ⟨in_X0_isInLoad_X0, by decide +kernel, by decide, rfl⟩
theorem w_X0_isInLoad_m46 : Cond.methodLink RX0 46 Lib.MathLoose.abs_long.x ∈ wsX0_isInLoad ∧ Cond.static Lib.MathLoose.abs_long.x ∈ wsX0_isInLoad ∧ Cond.initialized "java/lang/Math" ∈ wsX0_isInLoad ∧ Cond.code Lib.MathLoose.abs_long.x Lib.MathLoose.abs_long.code 2 (some .long) ∈ wsX0_isInLoad := ⟨by decide +kernel, by decide +kernel, by decide +kernel, by decide +kernel⟩
theorem fd_X0_isInLoad_7 : fdk wsX0_isInLoad RX0 7 "ZoneRelay$Impedance" RX0 TX0 4 3 := ⟨in_X0_isInLoad_X0, by decide +kernel, by decide, rfl⟩
theorem fd_X0_isInLoad_20 : fdk wsX0_isInLoad RX0 20 "ZoneRelay$Impedance" RX0 TX0 4 2 := ⟨in_X0_isInLoad_X0, by decide +kernel, by decide, rfl⟩
theorem w_X0_isInLoad_k38 : Cond.constantLong RX0 38 (1000) ∈ wsX0_isInLoad := by decide +kernel
abbrev rm_K_imp_load : Room := { frames := 1, cells := 0, slots := 0, locals := 19 }
set_option maxHeartbeats 8000000 in
set_option maxRecDepth 100000 in
theorem K_imp_load (l : Launch) (E : Ev) (h : Nat) (z x y d fr sl : Int) (hz : z = 0 ∨ z = 1) (hx : -5300000000000 ≤ x ∧ x ≤ 5300000000000) (hy : -5300000000000 ≤ y ∧ y ≤ 5300000000000) (hd : 0 ≤ d ∧ d ≤ 5210000000) (hf : 0 ≤ fr ∧ fr ≤ 20000) (hs : 0 ≤ sl ∧ sl ≤ 10000) : Mc l yX0_isInLoad wsX0_isInLoad rm_K_imp_load E [vR h, vI fr, vI sl] [(h, .inr (1, [vI z, vL x, vL y, vL d]))] 0 0 (fun v9 w9 => v9 = some (vI (bP (z = 1 ∧ fr * d ≤ absI x ∧ absI y * 1000 ≤ sl * absI x))) ∧ w9 = [(h, .inr (1, [vI z, vL x, vL y, vL d]))]) := by
  refine Mc.intro (cc := cX0_isInLoad) (maxL := 3) (ret := (some .boolean)) (lv0 := [(0, vR h), (1, vI fr), (2, vI sl)]) (by decide +kernel) rfl rfl (Nat.le_of_ble_eq_true rfl) ?_
  intro p9 e9 s9 m9 args9 below9 meth9 c9 A9 C hr hmn
  have C : Cx p9 s9 m9 args9 meth9 c9 E A9 3 cX0_isInLoad wsX0_isInLoad RX0 := C
  have m1 := mul_b (x := fr) (y := d) (A := 20000) (B := 5210000000) (by omega) (by omega)
  have x1 := absI_r (x := x) (A := 5300000000000) hx
  have y1 := absI_r (x := y) (A := 5300000000000) hy
  have m2 := mul_b (x := sl) (y := absI x) (A := 10000) (B := 5300000000000) (by omega) (by omega)
  refine g_aload_n C 0 rfl dX0_isInLoad_0 rfl ?_
  refine g_get C 0 fd_X0_isInLoad_13 rfl rfl rfl dX0_isInLoad_1 rfl ?_
  refine g_if_eq C (tgt := 54) ⟨by omega, by omega⟩ dX0_isInLoad_4 (by decide) rfl (fun c_1 => ?_) (fun c_1 => ?_)
  · refine g_iconst C dX0_isInLoad_54 rfl ?_
    refine g_top (v' := vI (bP (z = 1 ∧ fr * d ≤ absI x ∧ absI y * 1000 ≤ sl * absI x))) (congrArg (fun z_ : Int => vI z_) (show (bP (z = 1 ∧ fr * d ≤ absI x ∧ absI y * 1000 ≤ sl * absI x)) = 0 by first | exact bP_t (by first | assumption | omega) | exact bP_f (by first | assumption | omega))) ?_
    exact g_iret C hr (nrZ _) (Nat.le_of_ble_eq_true rfl) (Nat.le_of_ble_eq_true rfl) dX0_isInLoad_55 ⟨rfl, rfl⟩
  refine g_aload_n C 0 rfl dX0_isInLoad_7 rfl ?_
  refine g_get C 0 fd_X0_isInLoad_17 rfl rfl rfl dX0_isInLoad_8 rfl ?_
  refine g_mabsl C ⟨by omega, by omega⟩ (r := (absI x)) rfl w_X0_isInLoad_m46 ⟨Nat.le_of_ble_eq_true rfl, Nat.le_of_ble_eq_true rfl, Nat.le_of_ble_eq_true rfl, Nat.le_of_ble_eq_true rfl⟩ dX0_isInLoad_11 rfl ?_
  refine g_iload_n C 1 rfl dX0_isInLoad_14 rfl ?_
  refine g_i2l C ⟨by omega, by omega⟩ rfl dX0_isInLoad_15 rfl ?_
  refine g_aload_n C 0 rfl dX0_isInLoad_16 rfl ?_
  refine g_get C 0 fd_X0_isInLoad_7 rfl rfl rfl dX0_isInLoad_17 rfl ?_
  refine g_lmul C rfl dX0_isInLoad_20 rfl ?_
  refine g_lcmp_lt C ⟨by omega, by omega⟩ ⟨by omega, by omega⟩ dX0_isInLoad_21 rfl (tgt := 54) dX0_isInLoad_22 (by decide) rfl (fun c_2 => ?_) (fun c_2 => ?_)
  · refine g_iconst C dX0_isInLoad_54 rfl ?_
    refine g_top (v' := vI (bP (z = 1 ∧ fr * d ≤ absI x ∧ absI y * 1000 ≤ sl * absI x))) (congrArg (fun z_ : Int => vI z_) (show (bP (z = 1 ∧ fr * d ≤ absI x ∧ absI y * 1000 ≤ sl * absI x)) = 0 by first | exact bP_t (by first | assumption | omega) | exact bP_f (by first | assumption | omega))) ?_
    exact g_iret C hr (nrZ _) (Nat.le_of_ble_eq_true rfl) (Nat.le_of_ble_eq_true rfl) dX0_isInLoad_55 ⟨rfl, rfl⟩
  refine g_aload_n C 0 rfl dX0_isInLoad_25 rfl ?_
  refine g_get C 0 fd_X0_isInLoad_20 rfl rfl rfl dX0_isInLoad_26 rfl ?_
  refine g_mabsl C ⟨by omega, by omega⟩ (r := (absI y)) rfl w_X0_isInLoad_m46 ⟨Nat.le_of_ble_eq_true rfl, Nat.le_of_ble_eq_true rfl, Nat.le_of_ble_eq_true rfl, Nat.le_of_ble_eq_true rfl⟩ dX0_isInLoad_29 rfl ?_
  refine g_ldc2 C (x := 1000) w_X0_isInLoad_k38 (by decide) dX0_isInLoad_32 rfl ?_
  refine g_lmul C rfl dX0_isInLoad_35 rfl ?_
  refine g_iload_n C 2 rfl dX0_isInLoad_36 rfl ?_
  refine g_i2l C ⟨by omega, by omega⟩ rfl dX0_isInLoad_37 rfl ?_
  refine g_aload_n C 0 rfl dX0_isInLoad_38 rfl ?_
  refine g_get C 0 fd_X0_isInLoad_17 rfl rfl rfl dX0_isInLoad_39 rfl ?_
  refine g_mabsl C ⟨by omega, by omega⟩ (r := (absI x)) rfl w_X0_isInLoad_m46 ⟨Nat.le_of_ble_eq_true rfl, Nat.le_of_ble_eq_true rfl, Nat.le_of_ble_eq_true rfl, Nat.le_of_ble_eq_true rfl⟩ dX0_isInLoad_42 rfl ?_
  refine g_lmul C rfl dX0_isInLoad_45 rfl ?_
  refine g_lcmp_gt C ⟨by omega, by omega⟩ ⟨by omega, by omega⟩ dX0_isInLoad_46 rfl (tgt := 54) dX0_isInLoad_47 (by decide) rfl (fun c_3 => ?_) (fun c_3 => ?_)
  · refine g_iconst C dX0_isInLoad_54 rfl ?_
    refine g_top (v' := vI (bP (z = 1 ∧ fr * d ≤ absI x ∧ absI y * 1000 ≤ sl * absI x))) (congrArg (fun z_ : Int => vI z_) (show (bP (z = 1 ∧ fr * d ≤ absI x ∧ absI y * 1000 ≤ sl * absI x)) = 0 by first | exact bP_t (by first | assumption | omega) | exact bP_f (by first | assumption | omega))) ?_
    exact g_iret C hr (nrZ _) (Nat.le_of_ble_eq_true rfl) (Nat.le_of_ble_eq_true rfl) dX0_isInLoad_55 ⟨rfl, rfl⟩
  refine g_iconst C dX0_isInLoad_50 rfl ?_
  refine g_goto C (pc' := 55) dX0_isInLoad_51 (by decide) ?_
  refine g_top (v' := vI (bP (z = 1 ∧ fr * d ≤ absI x ∧ absI y * 1000 ≤ sl * absI x))) (congrArg (fun z_ : Int => vI z_) (show (bP (z = 1 ∧ fr * d ≤ absI x ∧ absI y * 1000 ≤ sl * absI x)) = 1 by first | exact bP_t (by first | assumption | omega) | exact bP_f (by first | assumption | omega))) ?_
  exact g_iret C hr (nrZ _) (Nat.le_of_ble_eq_true rfl) (Nat.le_of_ble_eq_true rfl) dX0_isInLoad_55 ⟨rfl, rfl⟩

theorem w_X1_init_oi : Cond.methodLink RX1 3 Lib.objectInit ∈ wsX1_init ∧ Cond.instanceMethod Lib.objectInit ∈ wsX1_init ∧ Cond.code Lib.objectInit ⟨#[0xb1]⟩ 1 none ∈ wsX1_init := ⟨by decide +kernel, by decide +kernel, by decide +kernel⟩
theorem w_X1_init_aci : Cond.arrayClass .int ∈ wsX1_init := by decide +kernel
theorem in_X1_init_X1 : ∀ w ∈ u_ws RX1 TX1 3, w ∈ wsX1_init := by decide +kernel
theorem fd_X1_init_9 : fdk wsX1_init RX1 9 "ZoneRelay$Log" RX1 TX1 3 0 := ⟨in_X1_init_X1, by decide +kernel, by decide, rfl⟩
theorem fd_X1_init_15 : fdk wsX1_init RX1 15 "ZoneRelay$Log" RX1 TX1 3 1 := ⟨in_X1_init_X1, by decide +kernel, by decide, rfl⟩
abbrev rm_K_log_init : Room := { frames := 1, cells := 2, slots := 120, locals := 12 }
set_option maxHeartbeats 8000000 in
set_option maxRecDepth 100000 in
theorem K_log_init (l : Launch) (E : Ev) (h : Nat) (n : Int)  : Mc l yX1_init wsX1_init rm_K_log_init E [vR h] [(h, .inr (2, [.null, .null, vI n]))] 2 120 (fun v9 w9 => ∃ (t : Nat) (k : Nat), v9 = none ∧ w9 = [(h, .inr (2, [vR t, vR k, vI n])), (t, cI E 60 (fun _ => 0)), (k, cI E 60 (fun _ => 0))]) := by
  refine Mc.intro (cc := cX1_init) (maxL := 1) (ret := none) (lv0 := [(0, vR h)]) (by decide +kernel) rfl rfl (Nat.le_of_ble_eq_true rfl) ?_
  intro p9 e9 s9 m9 args9 below9 meth9 c9 A9 C hr hmn
  have C : Cx p9 s9 m9 args9 meth9 c9 E A9 1 cX1_init wsX1_init RX1 := C
  refine g_aload_n C 0 rfl dX1_init_0 rfl ?_
  refine g_objInit C w_X1_init_oi ⟨Nat.le_of_ble_eq_true rfl, Nat.le_of_ble_eq_true rfl⟩ dX1_init_1 rfl ?_
  refine g_aload_n C 0 rfl dX1_init_4 rfl ?_
  refine g_bipush C (by decide) dX1_init_5 rfl ?_
  refine g_newai C (N := 60) (by decide) rfl (by decide) (rfl : _ = 1) (rfl : _ = 60) ⟨by decide, Nat.le_of_ble_eq_true rfl⟩ w_X1_init_aci dX1_init_7 rfl (fun q_1 => ?_)
  refine g_is (ws' := [(h, .inr (2, [.null, .null, vI n])), (q_1, cI E 60 (fun _ => 0))]) (st' := [vR q_1, vR h]) rfl rfl ?_
  refine g_putF C hmn tyX1 tyX1_ok nmX1 0 fd_X1_init_9 rfl rfl rfl rfl rfl rfl rfl (Nat.le_of_ble_eq_true rfl) (ws' := [(h, .inr (2, [vR q_1, .null, vI n])), (q_1, cI E 60 (fun _ => 0))]) rfl dX1_init_9 rfl ?_
  refine g_aload_n C 0 rfl dX1_init_12 rfl ?_
  refine g_bipush C (by decide) dX1_init_13 rfl ?_
  refine g_newai C (N := 60) (by decide) rfl (by decide) (rfl : _ = 2) (rfl : _ = 120) ⟨by decide, Nat.le_of_ble_eq_true rfl⟩ w_X1_init_aci dX1_init_15 rfl (fun q_2 => ?_)
  refine g_is (ws' := [(h, .inr (2, [vR q_1, .null, vI n])), (q_1, cI E 60 (fun _ => 0)), (q_2, cI E 60 (fun _ => 0))]) (st' := [vR q_2, vR h]) rfl rfl ?_
  refine g_putF C hmn tyX1 tyX1_ok nmX1 0 fd_X1_init_15 rfl rfl rfl rfl rfl rfl rfl (Nat.le_of_ble_eq_true rfl) (ws' := [(h, .inr (2, [vR q_1, vR q_2, vI n])), (q_1, cI E 60 (fun _ => 0)), (q_2, cI E 60 (fun _ => 0))]) rfl dX1_init_17 rfl ?_
  exact g_vret C hr (Nat.le_of_ble_eq_true rfl) (Nat.le_of_ble_eq_true rfl) dX1_init_20 ⟨q_1, q_2, rfl, rfl⟩

theorem in_X1_becomeLike_X1 : ∀ w ∈ u_ws RX1 TX1 3, w ∈ wsX1_becomeLike := by decide +kernel
theorem fd_X1_becomeLike_9 : fdk wsX1_becomeLike RX1 9 "ZoneRelay$Log" RX1 TX1 3 0 := ⟨in_X1_becomeLike_X1, by decide +kernel, by decide, rfl⟩
theorem w_X1_becomeLike_ac18 : Cond.methodLink RX1 18 arraycopyName ∈ wsX1_becomeLike ∧ Cond.native arraycopyName ∈ wsX1_becomeLike ∧ Cond.static arraycopyName ∈ wsX1_becomeLike ∧ Cond.initialized "java/lang/System" ∈ wsX1_becomeLike := ⟨by decide +kernel, by decide +kernel, by decide +kernel, by decide +kernel⟩
theorem fd_X1_becomeLike_15 : fdk wsX1_becomeLike RX1 15 "ZoneRelay$Log" RX1 TX1 3 1 := ⟨in_X1_becomeLike_X1, by decide +kernel, by decide, rfl⟩
theorem fd_X1_becomeLike_24 : fdk wsX1_becomeLike RX1 24 "ZoneRelay$Log" RX1 TX1 3 2 := ⟨in_X1_becomeLike_X1, by decide +kernel, by decide, rfl⟩
abbrev rm_K_log_like : Room := { frames := 1, cells := 0, slots := 0, locals := 60 }
set_option maxHeartbeats 8000000 in
set_option maxRecDepth 100000 in
theorem K_log_like (l : Launch) (E : Ev) (h t k g t2 k2 : Nat) (T K T2 K2 : Int → Int) (n n2 : Int)  : Mc l yX1_becomeLike wsX1_becomeLike rm_K_log_like E [vR h, vR g] [(h, .inr (2, [vR t, vR k, vI n])), (t, cI E 60 T), (k, cI E 60 K), (g, .inr (2, [vR t2, vR k2, vI n2])), (t2, cI E 60 T2), (k2, cI E 60 K2)] 0 0 (fun v9 w9 => v9 = none ∧ w9 = [(h, .inr (2, [vR t, vR k, vI n2])), (t, cI E 60 T2), (k, cI E 60 K2), (g, .inr (2, [vR t2, vR k2, vI n2])), (t2, cI E 60 T2), (k2, cI E 60 K2)]) := by
  refine Mc.intro (cc := cX1_becomeLike) (maxL := 2) (ret := none) (lv0 := [(0, vR h), (1, vR g)]) (by decide +kernel) rfl rfl (Nat.le_of_ble_eq_true rfl) ?_
  intro p9 e9 s9 m9 args9 below9 meth9 c9 A9 C hr hmn
  have C : Cx p9 s9 m9 args9 meth9 c9 E A9 2 cX1_becomeLike wsX1_becomeLike RX1 := C
  refine g_aload_n C 1 rfl dX1_becomeLike_0 rfl ?_
  refine g_get C 3 fd_X1_becomeLike_9 rfl rfl rfl dX1_becomeLike_1 rfl ?_
  refine g_iconst C dX1_becomeLike_4 rfl ?_
  refine g_aload_n C 0 rfl dX1_becomeLike_5 rfl ?_
  refine g_get C 0 fd_X1_becomeLike_9 rfl rfl rfl dX1_becomeLike_6 rfl ?_
  refine g_iconst C dX1_becomeLike_9 rfl ?_
  refine g_bipush C (by decide) dX1_becomeLike_10 rfl ?_
  refine g_copy C 4 1 0 rfl rfl rfl rfl (by decide) (by decide) (by decide) (by decide) (by decide) (by decide) (fun _ _ => rfl) w_X1_becomeLike_ac18 ⟨Nat.le_of_ble_eq_true rfl, Nat.le_of_ble_eq_true rfl⟩ (ws' := [(h, .inr (2, [vR t, vR k, vI n])), (t, cI E 60 (cpyT T2 T 0 0 60)), (k, cI E 60 K), (g, .inr (2, [vR t2, vR k2, vI n2])), (t2, cI E 60 T2), (k2, cI E 60 K2)]) rfl dX1_becomeLike_12 rfl ?_
  refine g_aload_n C 1 rfl dX1_becomeLike_15 rfl ?_
  refine g_get C 3 fd_X1_becomeLike_15 rfl rfl rfl dX1_becomeLike_16 rfl ?_
  refine g_iconst C dX1_becomeLike_19 rfl ?_
  refine g_aload_n C 0 rfl dX1_becomeLike_20 rfl ?_
  refine g_get C 0 fd_X1_becomeLike_15 rfl rfl rfl dX1_becomeLike_21 rfl ?_
  refine g_iconst C dX1_becomeLike_24 rfl ?_
  refine g_bipush C (by decide) dX1_becomeLike_25 rfl ?_
  refine g_copy C 5 2 0 rfl rfl rfl rfl (by decide) (by decide) (by decide) (by decide) (by decide) (by decide) (fun _ _ => rfl) w_X1_becomeLike_ac18 ⟨Nat.le_of_ble_eq_true rfl, Nat.le_of_ble_eq_true rfl⟩ (ws' := [(h, .inr (2, [vR t, vR k, vI n])), (t, cI E 60 (cpyT T2 T 0 0 60)), (k, cI E 60 (cpyT K2 K 0 0 60)), (g, .inr (2, [vR t2, vR k2, vI n2])), (t2, cI E 60 T2), (k2, cI E 60 K2)]) rfl dX1_becomeLike_27 rfl ?_
  refine g_aload_n C 0 rfl dX1_becomeLike_30 rfl ?_
  refine g_aload_n C 1 rfl dX1_becomeLike_31 rfl ?_
  refine g_get C 3 fd_X1_becomeLike_24 rfl rfl rfl dX1_becomeLike_32 rfl ?_
  refine g_put C tyX1 tyX1_ok nmX1 0 fd_X1_becomeLike_24 rfl rfl rfl rfl rfl rfl (Nat.le_of_ble_eq_true rfl) (ws' := [(h, .inr (2, [vR t, vR k, vI n2])), (t, cI E 60 (cpyT T2 T 0 0 60)), (k, cI E 60 (cpyT K2 K 0 0 60)), (g, .inr (2, [vR t2, vR k2, vI n2])), (t2, cI E 60 T2), (k2, cI E 60 K2)]) rfl dX1_becomeLike_35 rfl ?_
  have z_1 : cI E 60 T2 = cI E 60 (cpyT T2 T 0 0 60) := cI_c (fun k_ k0_ k1_ => by exact cpyT_f k0_ k1_)
  have z_2 : cI E 60 K2 = cI E 60 (cpyT K2 K 0 0 60) := cI_c (fun k_ k0_ k1_ => by exact cpyT_f k0_ k1_)
  have zz_3 := congr (congrArg (fun (y9_0 : va_E) (y9_1 : va_E) => ([(h, .inr (2, [vR t, vR k, vI n2])), (t, y9_0), (k, y9_1), (g, .inr (2, [vR t2, vR k2, vI n2])), (t2, cI E 60 T2), (k2, cI E 60 K2)] : va_W)) z_1) z_2
  refine g_ws (ws' := [(h, .inr (2, [vR t, vR k, vI n2])), (t, cI E 60 T2), (k, cI E 60 K2), (g, .inr (2, [vR t2, vR k2, vI n2])), (t2, cI E 60 T2), (k2, cI E 60 K2)]) zz_3 ?_
  exact g_vret C hr (Nat.le_of_ble_eq_true rfl) (Nat.le_of_ble_eq_true rfl) dX1_becomeLike_38 ⟨rfl, rfl⟩

theorem in_X1_note_X1 : ∀ w ∈ u_ws RX1 TX1 3, w ∈ wsX1_note := by decide +kernel
theorem fd_X1_note_24 : fdk wsX1_note RX1 24 "ZoneRelay$Log" RX1 TX1 3 2 := ⟨in_X1_note_X1, by decide +kernel, by decide, rfl⟩
theorem hyd_J9_floorMod_7cf53 : yJ9_floorMod_7cf53.cls ≠ "java/lang/invoke/MethodHandle" ∧ yJ9_floorMod_7cf53.cls ≠ "java/lang/invoke/VarHandle" ∧ (parseMethodDescriptor yJ9_floorMod_7cf53.desc).map (fun d => d.parameters.length) = some 2 := by decide +kernel
theorem fd_X1_note_9 : fdk wsX1_note RX1 9 "ZoneRelay$Log" RX1 TX1 3 0 := ⟨in_X1_note_X1, by decide +kernel, by decide, rfl⟩
theorem fd_X1_note_15 : fdk wsX1_note RX1 15 "ZoneRelay$Log" RX1 TX1 3 1 := ⟨in_X1_note_X1, by decide +kernel, by decide, rfl⟩
abbrev rm_K_log_note : Room := { frames := 1, cells := 0, slots := 0, locals := 22 }
set_option maxHeartbeats 8000000 in
set_option maxRecDepth 100000 in
theorem K_log_note (l : Launch) (E : Ev) (h t k : Nat) (T K : Int → Int) (n w z : Int) (hn : 0 ≤ n ∧ n < 2000000000) : Mc l yX1_note wsX1_note rm_K_log_note E [vR h, vI w, vI z] [(h, .inr (2, [vR t, vR k, vI n])), (t, cI E 60 T), (k, cI E 60 K)] 0 0 (fun v9 w9 => v9 = none ∧ w9 = [(h, .inr (2, [vR t, vR k, vI (n + 1)])), (t, cI E 60 (ua T (Int.tmod n 60) w)), (k, cI E 60 (ua K (Int.tmod n 60) z))]) := by
  refine Mc.intro (cc := cX1_note) (maxL := 4) (ret := none) (lv0 := [(0, vR h), (1, vI w), (2, vI z)]) (by decide +kernel) rfl rfl (Nat.le_of_ble_eq_true rfl) ?_
  intro p9 e9 s9 m9 args9 below9 meth9 c9 A9 C hr hmn
  have C : Cx p9 s9 m9 args9 meth9 c9 E A9 4 cX1_note wsX1_note RX1 := C
  refine g_aload_n C 0 rfl dX1_note_0 rfl ?_
  refine g_get C 0 fd_X1_note_24 rfl rfl rfl dX1_note_1 rfl ?_
  refine g_bipush C (by decide) dX1_note_4 rfl ?_
  refine g_callS C (As := [vI n, vI 60]) (wc := []) (wr := [(h, .inr (2, [vR t, vR k, vI n])), (t, cI E 60 T), (k, cI E 60 K)]) (st := []) gX1_note_J9_floorMod_7cf53 rfl (K_floorMod l E n 60 (by first | assumption | omega) (by first | assumption | omega)) hyd_J9_floorMod_7cf53 rfl [] [0, 1, 2] rfl rfl rfl rfl rfl (by decide) ⟨rfl, rfl⟩ ⟨Nat.le_of_ble_eq_true rfl, Nat.le_of_ble_eq_true rfl, Nat.le_of_ble_eq_true rfl, Nat.le_of_ble_eq_true rfl⟩ (Nat.le_of_ble_eq_true rfl) dX1_note_6 (rfl : _ = 0) (rfl : _ = 0) rfl ?_
  rintro _ _ ⟨rfl, rfl⟩
  refine g_is (ws' := [(h, .inr (2, [vR t, vR k, vI n])), (t, cI E 60 T), (k, cI E 60 K)]) (st' := [vI (Int.tmod n 60)]) rfl rfl ?_
  have htr := tmod_r (a := n) (b := 60) (by omega) (by decide)
  refine g_istore_n C (lv' := [(0, vR h), (1, vI w), (2, vI z), (3, vI (Int.tmod n 60))]) [1, 2, 3, 0] (by decide) rfl rfl dX1_note_9 rfl ?_
  refine g_aload_n C 0 rfl dX1_note_10 rfl ?_
  refine g_get C 0 fd_X1_note_9 rfl rfl rfl dX1_note_11 rfl ?_
  refine g_iload_n C 3 rfl dX1_note_14 rfl ?_
  refine g_iload_n C 1 rfl dX1_note_15 rfl ?_
  refine g_iast C 1 rfl (by omega) (by omega) (by decide) (ws' := [(h, .inr (2, [vR t, vR k, vI n])), (t, cI E 60 (ua T (Int.tmod n 60) w)), (k, cI E 60 K)]) rfl dX1_note_16 rfl ?_
  refine g_aload_n C 0 rfl dX1_note_17 rfl ?_
  refine g_get C 0 fd_X1_note_15 rfl rfl rfl dX1_note_18 rfl ?_
  refine g_iload_n C 3 rfl dX1_note_21 rfl ?_
  refine g_iload_n C 2 rfl dX1_note_22 rfl ?_
  refine g_iast C 2 rfl (by omega) (by omega) (by decide) (ws' := [(h, .inr (2, [vR t, vR k, vI n])), (t, cI E 60 (ua T (Int.tmod n 60) w)), (k, cI E 60 (ua K (Int.tmod n 60) z))]) rfl dX1_note_23 rfl ?_
  refine g_aload_n C 0 rfl dX1_note_24 rfl ?_
  refine g_dup C rfl dX1_note_25 rfl ?_
  refine g_get C 0 fd_X1_note_24 rfl rfl rfl dX1_note_26 rfl ?_
  refine g_iconst C dX1_note_29 rfl ?_
  refine g_iadd C rfl dX1_note_30 rfl ?_
  refine g_put C tyX1 tyX1_ok nmX1 0 fd_X1_note_24 rfl rfl rfl rfl rfl rfl (Nat.le_of_ble_eq_true rfl) (ws' := [(h, .inr (2, [vR t, vR k, vI (n + 1)])), (t, cI E 60 (ua T (Int.tmod n 60) w)), (k, cI E 60 (ua K (Int.tmod n 60) z))]) rfl dX1_note_31 rfl ?_
  exact g_vret C hr (Nat.le_of_ble_eq_true rfl) (Nat.le_of_ble_eq_true rfl) dX1_note_34 ⟨rfl, rfl⟩

theorem in_X1_keeps_X1 : ∀ w ∈ u_ws RX1 TX1 3, w ∈ wsX1_keeps := by decide +kernel
theorem fd_X1_keeps_24 : fdk wsX1_keeps RX1 24 "ZoneRelay$Log" RX1 TX1 3 2 := ⟨in_X1_keeps_X1, by decide +kernel, by decide, rfl⟩
abbrev rm_K_log_keeps : Room := { frames := 0, cells := 0, slots := 0, locals := 0 }
set_option maxHeartbeats 8000000 in
set_option maxRecDepth 100000 in
theorem K_log_keeps (l : Launch) (E : Ev) (h t k : Nat) (n v : Int) (hn : 0 ≤ n ∧ n < 2000000000) (hv : bi v) : Mc l yX1_keeps wsX1_keeps rm_K_log_keeps E [vR h, vI v] [(h, .inr (2, [vR t, vR k, vI n]))] 0 0 (fun v9 w9 => v9 = some (vI (bP (0 ≤ v ∧ v < n ∧ n - 60 ≤ v))) ∧ w9 = [(h, .inr (2, [vR t, vR k, vI n]))]) := by
  refine Mc.intro (cc := cX1_keeps) (maxL := 2) (ret := (some .boolean)) (lv0 := [(0, vR h), (1, vI v)]) (by decide +kernel) rfl rfl (Nat.le_of_ble_eq_true rfl) ?_
  intro p9 e9 s9 m9 args9 below9 meth9 c9 A9 C hr hmn
  have C : Cx p9 s9 m9 args9 meth9 c9 E A9 2 cX1_keeps wsX1_keeps RX1 := C
  refine g_iload_n C 1 rfl dX1_keeps_0 rfl ?_
  refine g_if_lt C (tgt := 27) ⟨by omega, by omega⟩ dX1_keeps_1 (by decide) rfl (fun c_1 => ?_) (fun c_1 => ?_)
  · refine g_iconst C dX1_keeps_27 rfl ?_
    refine g_top (v' := vI (bP (0 ≤ v ∧ v < n ∧ n - 60 ≤ v))) (congrArg (fun z_ : Int => vI z_) (show (bP (0 ≤ v ∧ v < n ∧ n - 60 ≤ v)) = 0 by first | exact bP_t (by first | assumption | omega) | exact bP_f (by first | assumption | omega))) ?_
    exact g_iret C hr (nrZ _) (Nat.le_of_ble_eq_true rfl) (Nat.le_of_ble_eq_true rfl) dX1_keeps_28 ⟨rfl, rfl⟩
  refine g_iload_n C 1 rfl dX1_keeps_4 rfl ?_
  refine g_aload_n C 0 rfl dX1_keeps_5 rfl ?_
  refine g_get C 0 fd_X1_keeps_24 rfl rfl rfl dX1_keeps_6 rfl ?_
  refine g_icmp_ge C (tgt := 27) ⟨by omega, by omega⟩ ⟨by omega, by omega⟩ dX1_keeps_9 (by decide) rfl (fun c_2 => ?_) (fun c_2 => ?_)
  · refine g_iconst C dX1_keeps_27 rfl ?_
    refine g_top (v' := vI (bP (0 ≤ v ∧ v < n ∧ n - 60 ≤ v))) (congrArg (fun z_ : Int => vI z_) (show (bP (0 ≤ v ∧ v < n ∧ n - 60 ≤ v)) = 0 by first | exact bP_t (by first | assumption | omega) | exact bP_f (by first | assumption | omega))) ?_
    exact g_iret C hr (nrZ _) (Nat.le_of_ble_eq_true rfl) (Nat.le_of_ble_eq_true rfl) dX1_keeps_28 ⟨rfl, rfl⟩
  refine g_iload_n C 1 rfl dX1_keeps_12 rfl ?_
  refine g_aload_n C 0 rfl dX1_keeps_13 rfl ?_
  refine g_get C 0 fd_X1_keeps_24 rfl rfl rfl dX1_keeps_14 rfl ?_
  refine g_bipush C (by decide) dX1_keeps_17 rfl ?_
  refine g_isub C rfl dX1_keeps_19 rfl ?_
  refine g_icmp_lt C (tgt := 27) ⟨by omega, by omega⟩ ⟨by omega, by omega⟩ dX1_keeps_20 (by decide) rfl (fun c_3 => ?_) (fun c_3 => ?_)
  · refine g_iconst C dX1_keeps_27 rfl ?_
    refine g_top (v' := vI (bP (0 ≤ v ∧ v < n ∧ n - 60 ≤ v))) (congrArg (fun z_ : Int => vI z_) (show (bP (0 ≤ v ∧ v < n ∧ n - 60 ≤ v)) = 0 by first | exact bP_t (by first | assumption | omega) | exact bP_f (by first | assumption | omega))) ?_
    exact g_iret C hr (nrZ _) (Nat.le_of_ble_eq_true rfl) (Nat.le_of_ble_eq_true rfl) dX1_keeps_28 ⟨rfl, rfl⟩
  refine g_iconst C dX1_keeps_23 rfl ?_
  refine g_goto C (pc' := 28) dX1_keeps_24 (by decide) ?_
  refine g_top (v' := vI (bP (0 ≤ v ∧ v < n ∧ n - 60 ≤ v))) (congrArg (fun z_ : Int => vI z_) (show (bP (0 ≤ v ∧ v < n ∧ n - 60 ≤ v)) = 1 by first | exact bP_t (by first | assumption | omega) | exact bP_f (by first | assumption | omega))) ?_
  exact g_iret C hr (nrZ _) (Nat.le_of_ble_eq_true rfl) (Nat.le_of_ble_eq_true rfl) dX1_keeps_28 ⟨rfl, rfl⟩

theorem w_X2_init_oi : Cond.methodLink RX2 3 Lib.objectInit ∈ wsX2_init ∧ Cond.instanceMethod Lib.objectInit ∈ wsX2_init ∧ Cond.code Lib.objectInit ⟨#[0xb1]⟩ 1 none ∈ wsX2_init := ⟨by decide +kernel, by decide +kernel, by decide +kernel⟩
theorem w_X2_init_aci : Cond.arrayClass .int ∈ wsX2_init := by decide +kernel
theorem in_X2_init_X2 : ∀ w ∈ u_ws RX2 TX2 2, w ∈ wsX2_init := by decide +kernel
theorem fd_X2_init_9 : fdk wsX2_init RX2 9 "ZoneRelay$Network" RX2 TX2 2 0 := ⟨in_X2_init_X2, by decide +kernel, by decide, rfl⟩
theorem fd_X2_init_15 : fdk wsX2_init RX2 15 "ZoneRelay$Network" RX2 TX2 2 1 := ⟨in_X2_init_X2, by decide +kernel, by decide, rfl⟩
abbrev rm_K_net_init : Room := { frames := 1, cells := 2, slots := 8, locals := 12 }
set_option maxHeartbeats 8000000 in
set_option maxRecDepth 100000 in
theorem K_net_init (l : Launch) (E : Ev) (h : Nat)  : Mc l yX2_init wsX2_init rm_K_net_init E [vR h] [(h, .inr (3, [.null, .null]))] 2 8 (fun v9 w9 => ∃ (t : Nat) (k : Nat), v9 = none ∧ w9 = [(h, .inr (3, [vR t, vR k])), (t, cI E 4 (ua (ua (ua (ua (fun _ => 0) 0 10000) 1 100) 2 500) 3 20000)), (k, cI E 4 (ua (ua (ua (ua (fun _ => 0) 0 0) 1 1000) 2 3000) 3 5000))]) := by
  refine Mc.intro (cc := cX2_init) (maxL := 1) (ret := none) (lv0 := [(0, vR h)]) (by decide +kernel) rfl rfl (Nat.le_of_ble_eq_true rfl) ?_
  intro p9 e9 s9 m9 args9 below9 meth9 c9 A9 C hr hmn
  have C : Cx p9 s9 m9 args9 meth9 c9 E A9 1 cX2_init wsX2_init RX2 := C
  refine g_aload_n C 0 rfl dX2_init_0 rfl ?_
  refine g_objInit C w_X2_init_oi ⟨Nat.le_of_ble_eq_true rfl, Nat.le_of_ble_eq_true rfl⟩ dX2_init_1 rfl ?_
  refine g_aload_n C 0 rfl dX2_init_4 rfl ?_
  refine g_iconst C dX2_init_5 rfl ?_
  refine g_newai C (N := 4) (by decide) rfl (by decide) (rfl : _ = 1) (rfl : _ = 4) ⟨by decide, Nat.le_of_ble_eq_true rfl⟩ w_X2_init_aci dX2_init_6 rfl (fun q_1 => ?_)
  refine g_is (ws' := [(h, .inr (3, [.null, .null])), (q_1, cI E 4 (fun _ => 0))]) (st' := [vR q_1, vR h]) rfl rfl ?_
  refine g_dup C rfl dX2_init_8 rfl ?_
  refine g_iconst C dX2_init_9 rfl ?_
  refine g_sipush C (by decide) dX2_init_10 rfl ?_
  refine g_iast C 1 rfl (by decide) (by decide) (by decide) (ws' := [(h, .inr (3, [.null, .null])), (q_1, cI E 4 (ua (fun _ => 0) 0 10000))]) rfl dX2_init_13 rfl ?_
  refine g_dup C rfl dX2_init_14 rfl ?_
  refine g_iconst C dX2_init_15 rfl ?_
  refine g_bipush C (by decide) dX2_init_16 rfl ?_
  refine g_iast C 1 rfl (by decide) (by decide) (by decide) (ws' := [(h, .inr (3, [.null, .null])), (q_1, cI E 4 (ua (ua (fun _ => 0) 0 10000) 1 100))]) rfl dX2_init_18 rfl ?_
  refine g_dup C rfl dX2_init_19 rfl ?_
  refine g_iconst C dX2_init_20 rfl ?_
  refine g_sipush C (by decide) dX2_init_21 rfl ?_
  refine g_iast C 1 rfl (by decide) (by decide) (by decide) (ws' := [(h, .inr (3, [.null, .null])), (q_1, cI E 4 (ua (ua (ua (fun _ => 0) 0 10000) 1 100) 2 500))]) rfl dX2_init_24 rfl ?_
  refine g_dup C rfl dX2_init_25 rfl ?_
  refine g_iconst C dX2_init_26 rfl ?_
  refine g_sipush C (by decide) dX2_init_27 rfl ?_
  refine g_iast C 1 rfl (by decide) (by decide) (by decide) (ws' := [(h, .inr (3, [.null, .null])), (q_1, cI E 4 (ua (ua (ua (ua (fun _ => 0) 0 10000) 1 100) 2 500) 3 20000))]) rfl dX2_init_30 rfl ?_
  refine g_putF C hmn tyX2 tyX2_ok nmX2 0 fd_X2_init_9 rfl rfl rfl rfl rfl rfl rfl (Nat.le_of_ble_eq_true rfl) (ws' := [(h, .inr (3, [vR q_1, .null])), (q_1, cI E 4 (ua (ua (ua (ua (fun _ => 0) 0 10000) 1 100) 2 500) 3 20000))]) rfl dX2_init_31 rfl ?_
  refine g_aload_n C 0 rfl dX2_init_34 rfl ?_
  refine g_iconst C dX2_init_35 rfl ?_
  refine g_newai C (N := 4) (by decide) rfl (by decide) (rfl : _ = 2) (rfl : _ = 8) ⟨by decide, Nat.le_of_ble_eq_true rfl⟩ w_X2_init_aci dX2_init_36 rfl (fun q_2 => ?_)
  refine g_is (ws' := [(h, .inr (3, [vR q_1, .null])), (q_1, cI E 4 (ua (ua (ua (ua (fun _ => 0) 0 10000) 1 100) 2 500) 3 20000)), (q_2, cI E 4 (fun _ => 0))]) (st' := [vR q_2, vR h]) rfl rfl ?_
  refine g_dup C rfl dX2_init_38 rfl ?_
  refine g_iconst C dX2_init_39 rfl ?_
  refine g_iconst C dX2_init_40 rfl ?_
  refine g_iast C 2 rfl (by decide) (by decide) (by decide) (ws' := [(h, .inr (3, [vR q_1, .null])), (q_1, cI E 4 (ua (ua (ua (ua (fun _ => 0) 0 10000) 1 100) 2 500) 3 20000)), (q_2, cI E 4 (ua (fun _ => 0) 0 0))]) rfl dX2_init_41 rfl ?_
  refine g_dup C rfl dX2_init_42 rfl ?_
  refine g_iconst C dX2_init_43 rfl ?_
  refine g_sipush C (by decide) dX2_init_44 rfl ?_
  refine g_iast C 2 rfl (by decide) (by decide) (by decide) (ws' := [(h, .inr (3, [vR q_1, .null])), (q_1, cI E 4 (ua (ua (ua (ua (fun _ => 0) 0 10000) 1 100) 2 500) 3 20000)), (q_2, cI E 4 (ua (ua (fun _ => 0) 0 0) 1 1000))]) rfl dX2_init_47 rfl ?_
  refine g_dup C rfl dX2_init_48 rfl ?_
  refine g_iconst C dX2_init_49 rfl ?_
  refine g_sipush C (by decide) dX2_init_50 rfl ?_
  refine g_iast C 2 rfl (by decide) (by decide) (by decide) (ws' := [(h, .inr (3, [vR q_1, .null])), (q_1, cI E 4 (ua (ua (ua (ua (fun _ => 0) 0 10000) 1 100) 2 500) 3 20000)), (q_2, cI E 4 (ua (ua (ua (fun _ => 0) 0 0) 1 1000) 2 3000))]) rfl dX2_init_53 rfl ?_
  refine g_dup C rfl dX2_init_54 rfl ?_
  refine g_iconst C dX2_init_55 rfl ?_
  refine g_sipush C (by decide) dX2_init_56 rfl ?_
  refine g_iast C 2 rfl (by decide) (by decide) (by decide) (ws' := [(h, .inr (3, [vR q_1, .null])), (q_1, cI E 4 (ua (ua (ua (ua (fun _ => 0) 0 10000) 1 100) 2 500) 3 20000)), (q_2, cI E 4 (ua (ua (ua (ua (fun _ => 0) 0 0) 1 1000) 2 3000) 3 5000))]) rfl dX2_init_59 rfl ?_
  refine g_putF C hmn tyX2 tyX2_ok nmX2 0 fd_X2_init_15 rfl rfl rfl rfl rfl rfl rfl (Nat.le_of_ble_eq_true rfl) (ws' := [(h, .inr (3, [vR q_1, vR q_2])), (q_1, cI E 4 (ua (ua (ua (ua (fun _ => 0) 0 10000) 1 100) 2 500) 3 20000)), (q_2, cI E 4 (ua (ua (ua (ua (fun _ => 0) 0 0) 1 1000) 2 3000) 3 5000))]) rfl dX2_init_60 rfl ?_
  exact g_vret C hr (Nat.le_of_ble_eq_true rfl) (Nat.le_of_ble_eq_true rfl) dX2_init_63 ⟨q_1, q_2, rfl, rfl⟩

theorem in_X2_becomeLike_X2 : ∀ w ∈ u_ws RX2 TX2 2, w ∈ wsX2_becomeLike := by decide +kernel
theorem fd_X2_becomeLike_9 : fdk wsX2_becomeLike RX2 9 "ZoneRelay$Network" RX2 TX2 2 0 := ⟨in_X2_becomeLike_X2, by decide +kernel, by decide, rfl⟩
theorem w_X2_becomeLike_ac18 : Cond.methodLink RX2 18 arraycopyName ∈ wsX2_becomeLike ∧ Cond.native arraycopyName ∈ wsX2_becomeLike ∧ Cond.static arraycopyName ∈ wsX2_becomeLike ∧ Cond.initialized "java/lang/System" ∈ wsX2_becomeLike := ⟨by decide +kernel, by decide +kernel, by decide +kernel, by decide +kernel⟩
theorem fd_X2_becomeLike_15 : fdk wsX2_becomeLike RX2 15 "ZoneRelay$Network" RX2 TX2 2 1 := ⟨in_X2_becomeLike_X2, by decide +kernel, by decide, rfl⟩
abbrev rm_K_net_like : Room := { frames := 1, cells := 0, slots := 0, locals := 60 }
set_option maxHeartbeats 8000000 in
set_option maxRecDepth 100000 in
theorem K_net_like (l : Launch) (E : Ev) (h t k g t2 k2 : Nat) (T K T2 K2 : Int → Int)  : Mc l yX2_becomeLike wsX2_becomeLike rm_K_net_like E [vR h, vR g] [(h, .inr (3, [vR t, vR k])), (t, cI E 4 T), (k, cI E 4 K), (g, .inr (3, [vR t2, vR k2])), (t2, cI E 4 T2), (k2, cI E 4 K2)] 0 0 (fun v9 w9 => v9 = none ∧ w9 = [(h, .inr (3, [vR t, vR k])), (t, cI E 4 T2), (k, cI E 4 K2), (g, .inr (3, [vR t2, vR k2])), (t2, cI E 4 T2), (k2, cI E 4 K2)]) := by
  refine Mc.intro (cc := cX2_becomeLike) (maxL := 2) (ret := none) (lv0 := [(0, vR h), (1, vR g)]) (by decide +kernel) rfl rfl (Nat.le_of_ble_eq_true rfl) ?_
  intro p9 e9 s9 m9 args9 below9 meth9 c9 A9 C hr hmn
  have C : Cx p9 s9 m9 args9 meth9 c9 E A9 2 cX2_becomeLike wsX2_becomeLike RX2 := C
  refine g_aload_n C 1 rfl dX2_becomeLike_0 rfl ?_
  refine g_get C 3 fd_X2_becomeLike_9 rfl rfl rfl dX2_becomeLike_1 rfl ?_
  refine g_iconst C dX2_becomeLike_4 rfl ?_
  refine g_aload_n C 0 rfl dX2_becomeLike_5 rfl ?_
  refine g_get C 0 fd_X2_becomeLike_9 rfl rfl rfl dX2_becomeLike_6 rfl ?_
  refine g_iconst C dX2_becomeLike_9 rfl ?_
  refine g_iconst C dX2_becomeLike_10 rfl ?_
  refine g_copy C 4 1 0 rfl rfl rfl rfl (by decide) (by decide) (by decide) (by decide) (by decide) (by decide) (fun _ _ => rfl) w_X2_becomeLike_ac18 ⟨Nat.le_of_ble_eq_true rfl, Nat.le_of_ble_eq_true rfl⟩ (ws' := [(h, .inr (3, [vR t, vR k])), (t, cI E 4 (cpyT T2 T 0 0 4)), (k, cI E 4 K), (g, .inr (3, [vR t2, vR k2])), (t2, cI E 4 T2), (k2, cI E 4 K2)]) rfl dX2_becomeLike_11 rfl ?_
  refine g_aload_n C 1 rfl dX2_becomeLike_14 rfl ?_
  refine g_get C 3 fd_X2_becomeLike_15 rfl rfl rfl dX2_becomeLike_15 rfl ?_
  refine g_iconst C dX2_becomeLike_18 rfl ?_
  refine g_aload_n C 0 rfl dX2_becomeLike_19 rfl ?_
  refine g_get C 0 fd_X2_becomeLike_15 rfl rfl rfl dX2_becomeLike_20 rfl ?_
  refine g_iconst C dX2_becomeLike_23 rfl ?_
  refine g_iconst C dX2_becomeLike_24 rfl ?_
  refine g_copy C 5 2 0 rfl rfl rfl rfl (by decide) (by decide) (by decide) (by decide) (by decide) (by decide) (fun _ _ => rfl) w_X2_becomeLike_ac18 ⟨Nat.le_of_ble_eq_true rfl, Nat.le_of_ble_eq_true rfl⟩ (ws' := [(h, .inr (3, [vR t, vR k])), (t, cI E 4 (cpyT T2 T 0 0 4)), (k, cI E 4 (cpyT K2 K 0 0 4)), (g, .inr (3, [vR t2, vR k2])), (t2, cI E 4 T2), (k2, cI E 4 K2)]) rfl dX2_becomeLike_25 rfl ?_
  have z_1 : cI E 4 T2 = cI E 4 (cpyT T2 T 0 0 4) := cI_c (fun k_ k0_ k1_ => by exact cpyT_f k0_ k1_)
  have z_2 : cI E 4 K2 = cI E 4 (cpyT K2 K 0 0 4) := cI_c (fun k_ k0_ k1_ => by exact cpyT_f k0_ k1_)
  have zz_3 := congr (congrArg (fun (y9_0 : va_E) (y9_1 : va_E) => ([(h, .inr (3, [vR t, vR k])), (t, y9_0), (k, y9_1), (g, .inr (3, [vR t2, vR k2])), (t2, cI E 4 T2), (k2, cI E 4 K2)] : va_W)) z_1) z_2
  refine g_ws (ws' := [(h, .inr (3, [vR t, vR k])), (t, cI E 4 T2), (k, cI E 4 K2), (g, .inr (3, [vR t2, vR k2])), (t2, cI E 4 T2), (k2, cI E 4 K2)]) zz_3 ?_
  exact g_vret C hr (Nat.le_of_ble_eq_true rfl) (Nat.le_of_ble_eq_true rfl) dX2_becomeLike_28 ⟨rfl, rfl⟩

theorem w_X2_limited_k42 : Cond.constantLong RX2 42 (-20000) ∈ wsX2_limited := by decide +kernel
theorem w_X2_limited_k44 : Cond.constantLong RX2 44 (20000) ∈ wsX2_limited := by decide +kernel
theorem w_X2_limited_m46 : Cond.methodLink RX2 46 Lib.MathLoose.min_long.x ∈ wsX2_limited ∧ Cond.static Lib.MathLoose.min_long.x ∈ wsX2_limited ∧ Cond.initialized "java/lang/Math" ∈ wsX2_limited ∧ Cond.code Lib.MathLoose.min_long.x Lib.MathLoose.min_long.code 4 (some .long) ∈ wsX2_limited := ⟨by decide +kernel, by decide +kernel, by decide +kernel, by decide +kernel⟩
theorem w_X2_limited_m52 : Cond.methodLink RX2 52 Lib.MathLoose.max_long.x ∈ wsX2_limited ∧ Cond.static Lib.MathLoose.max_long.x ∈ wsX2_limited ∧ Cond.initialized "java/lang/Math" ∈ wsX2_limited ∧ Cond.code Lib.MathLoose.max_long.x Lib.MathLoose.max_long.code 4 (some .long) ∈ wsX2_limited := ⟨by decide +kernel, by decide +kernel, by decide +kernel, by decide +kernel⟩
abbrev rm_K_lim : Room := { frames := 1, cells := 0, slots := 0, locals := 17 }
set_option maxHeartbeats 8000000 in
set_option maxRecDepth 100000 in
theorem K_lim (l : Launch) (E : Ev) (x : Int) (hx : bl x) : Mc l yX2_limited wsX2_limited rm_K_lim E [vL x] [] 0 0 (fun v9 w9 => v9 = some (vI (lim x)) ∧ w9 = []) := by
  refine Mc.intro (cc := cX2_limited) (maxL := 2) (ret := (some .int)) (lv0 := [(0, vL x)]) (by decide +kernel) rfl rfl (Nat.le_of_ble_eq_true rfl) ?_
  intro p9 e9 s9 m9 args9 below9 meth9 c9 A9 C hr hmn
  have C : Cx p9 s9 m9 args9 meth9 c9 E A9 2 cX2_limited wsX2_limited RX2 := C
  refine g_ldc2 C (x := (-20000)) w_X2_limited_k42 (by decide) dX2_limited_0 rfl ?_
  refine g_ldc2 C (x := 20000) w_X2_limited_k44 (by decide) dX2_limited_3 rfl ?_
  refine g_lload_n C 0 rfl dX2_limited_6 rfl ?_
  refine g_mminl C ⟨by decide, by decide⟩ (hx) (r := (minI 20000 x)) rfl w_X2_limited_m46 ⟨Nat.le_of_ble_eq_true rfl, Nat.le_of_ble_eq_true rfl, Nat.le_of_ble_eq_true rfl, Nat.le_of_ble_eq_true rfl⟩ dX2_limited_7 rfl ?_
  refine g_mmaxl C ⟨by decide, by decide⟩ (by unfold minI; split <;> first | exact hx | exact ⟨by decide, by decide⟩) (r := (maxI (-20000) (minI 20000 x))) rfl w_X2_limited_m52 ⟨Nat.le_of_ble_eq_true rfl, Nat.le_of_ble_eq_true rfl, Nat.le_of_ble_eq_true rfl, Nat.le_of_ble_eq_true rfl⟩ dX2_limited_10 rfl ?_
  refine g_l2i C rfl dX2_limited_13 rfl ?_
  refine g_top (v' := vI (lim x)) (congrArg (fun z_ : Int => vI z_) (show (lim x) = (maxI (-20000) (minI 20000 x)) by unfold lim maxI minI; (repeat' split) <;> omega)) ?_
  exact g_iret C hr rfl (Nat.le_of_ble_eq_true rfl) (Nat.le_of_ble_eq_true rfl) dX2_limited_14 ⟨rfl, rfl⟩

theorem in_X2_solve_X2 : ∀ w ∈ u_ws RX2 TX2 2, w ∈ wsX2_solve := by decide +kernel
theorem fd_X2_solve_9 : fdk wsX2_solve RX2 9 "ZoneRelay$Network" RX2 TX2 2 0 := ⟨in_X2_solve_X2, by decide +kernel, by decide, rfl⟩
theorem fd_X2_solve_15 : fdk wsX2_solve RX2 15 "ZoneRelay$Network" RX2 TX2 2 1 := ⟨in_X2_solve_X2, by decide +kernel, by decide, rfl⟩
abbrev rm_K_solve0 : Room := { frames := 0, cells := 0, slots := 0, locals := 0 }
set_option maxHeartbeats 8000000 in
set_option maxRecDepth 100000 in
theorem K_solve0 (l : Launch) (E : Ev) (h f s g : Nat) (F S : Int → Int) (a b c d sr sx : Int) (he : 0 ≤ F 0 ∧ F 0 ≤ 20000) (h1 : 0 ≤ F 1 ∧ F 1 ≤ 20000) (h2 : 0 ≤ S 1 ∧ S 1 ≤ 20000) (h3 : 0 ≤ sr ∧ sr ≤ 40000) (h4 : 0 ≤ sx ∧ sx ≤ 40000) (hD : slD (F 1) (S 1) sr sx = 0) : Mc l yX2_solve wsX2_solve rm_K_solve0 E [vR h, vI sr, vI sx, vR g] [(h, .inr (3, [vR f, vR s])), (f, cI E 4 F), (s, cI E 4 S), (g, .inr (4, [vI a, vI b, vI c, vI d]))] 0 0 (fun v9 w9 => v9 = some (vI 0) ∧ w9 = [(h, .inr (3, [vR f, vR s])), (f, cI E 4 F), (s, cI E 4 S), (g, .inr (4, [vI a, vI b, vI c, vI d]))]) := by
  refine Mc.intro (cc := cX2_solve) (maxL := 24) (ret := (some .boolean)) (lv0 := [(0, vR h), (1, vI sr), (2, vI sx), (3, vR g)]) (by decide +kernel) rfl rfl (Nat.le_of_ble_eq_true rfl) ?_
  intro p9 e9 s9 m9 args9 below9 meth9 c9 A9 C hr hmn
  have C : Cx p9 s9 m9 args9 meth9 c9 E A9 24 cX2_solve wsX2_solve RX2 := C
  refine g_aload_n C 0 rfl dX2_solve_0 rfl ?_
  refine g_get C 0 fd_X2_solve_9 rfl rfl rfl dX2_solve_1 rfl ?_
  refine g_iconst C dX2_solve_4 rfl ?_
  refine g_iald C 1 rfl (by decide) (by decide) (by decide) rfl dX2_solve_5 rfl ?_
  refine g_i2l C ⟨by omega, by omega⟩ rfl dX2_solve_6 rfl ?_
  refine g_lstore C (lv' := [(0, vR h), (1, vI sr), (2, vI sx), (3, vR g), (4, vL (F 0))]) [1, 2, 3, 4, 0] (by decide) rfl rfl dX2_solve_7 rfl ?_
  refine g_aload_n C 0 rfl dX2_solve_9 rfl ?_
  refine g_get C 0 fd_X2_solve_9 rfl rfl rfl dX2_solve_10 rfl ?_
  refine g_iconst C dX2_solve_13 rfl ?_
  refine g_iald C 1 rfl (by decide) (by decide) (by decide) rfl dX2_solve_14 rfl ?_
  refine g_i2l C ⟨by omega, by omega⟩ rfl dX2_solve_15 rfl ?_
  refine g_lstore C (lv' := [(0, vR h), (1, vI sr), (2, vI sx), (3, vR g), (4, vL (F 0)), (6, vL (F 1))]) [1, 2, 3, 4, 5, 0] (by decide) rfl rfl dX2_solve_16 rfl ?_
  refine g_aload_n C 0 rfl dX2_solve_18 rfl ?_
  refine g_get C 0 fd_X2_solve_15 rfl rfl rfl dX2_solve_19 rfl ?_
  refine g_iconst C dX2_solve_22 rfl ?_
  refine g_iald C 2 rfl (by decide) (by decide) (by decide) rfl dX2_solve_23 rfl ?_
  refine g_i2l C ⟨by omega, by omega⟩ rfl dX2_solve_24 rfl ?_
  refine g_lstore C (lv' := [(0, vR h), (1, vI sr), (2, vI sx), (3, vR g), (4, vL (F 0)), (6, vL (F 1)), (8, vL (S 1))]) [1, 2, 3, 4, 5, 6, 0] (by decide) rfl rfl dX2_solve_25 rfl ?_
  refine g_iload_n C 1 rfl dX2_solve_27 rfl ?_
  refine g_i2l C ⟨by omega, by omega⟩ rfl dX2_solve_28 rfl ?_
  refine g_lload C 5 rfl dX2_solve_29 rfl ?_
  refine g_ladd C rfl dX2_solve_31 rfl ?_
  refine g_lstore C (lv' := [(0, vR h), (1, vI sr), (2, vI sx), (3, vR g), (4, vL (F 0)), (6, vL (F 1)), (8, vL (S 1)), (10, vL (sr + (F 1)))]) [1, 2, 3, 4, 5, 6, 7, 0] (by decide) rfl rfl dX2_solve_32 rfl ?_
  refine g_iload_n C 2 rfl dX2_solve_34 rfl ?_
  refine g_i2l C ⟨by omega, by omega⟩ rfl dX2_solve_35 rfl ?_
  refine g_lload C 6 rfl dX2_solve_36 rfl ?_
  refine g_ladd C rfl dX2_solve_38 rfl ?_
  refine g_lstore C (lv' := [(0, vR h), (1, vI sr), (2, vI sx), (3, vR g), (4, vL (F 0)), (6, vL (F 1)), (8, vL (S 1)), (10, vL (sr + (F 1))), (12, vL (sx + (S 1)))]) [1, 2, 3, 4, 5, 6, 7, 8, 0] (by decide) rfl rfl dX2_solve_39 rfl ?_
  have sb := sl_b he h1 h2 h3 h4
  refine g_lload C 7 rfl dX2_solve_41 rfl ?_
  refine g_lload C 7 rfl dX2_solve_43 rfl ?_
  refine g_lmul C rfl dX2_solve_45 rfl ?_
  refine g_lload C 8 rfl dX2_solve_46 rfl ?_
  refine g_lload C 8 rfl dX2_solve_48 rfl ?_
  refine g_lmul C rfl dX2_solve_50 rfl ?_
  refine g_ladd C rfl dX2_solve_51 rfl ?_
  refine g_top (v' := vL (slD (F 1) (S 1) sr sx)) rfl ?_
  refine g_lstore C (lv' := [(0, vR h), (1, vI sr), (2, vI sx), (3, vR g), (4, vL (F 0)), (6, vL (F 1)), (8, vL (S 1)), (10, vL (sr + (F 1))), (12, vL (sx + (S 1))), (14, vL (slD (F 1) (S 1) sr sx))]) [1, 2, 3, 4, 5, 6, 7, 8, 9, 0] (by decide) rfl rfl dX2_solve_52 rfl ?_
  refine g_lload C 9 rfl dX2_solve_54 rfl ?_
  refine g_lconst0 C dX2_solve_56 rfl ?_
  refine g_lcmp_ne C (by omega) ⟨by decide, by decide⟩ dX2_solve_57 rfl (tgt := 63) dX2_solve_58 (by decide) rfl (fun c_1 => ?_) (fun c_1 => ?_)
  · exfalso; exact absurd hD (by assumption)
  refine g_iconst C dX2_solve_61 rfl ?_
  exact g_iret C hr (by decide) (Nat.le_of_ble_eq_true rfl) (Nat.le_of_ble_eq_true rfl) dX2_solve_62 ⟨rfl, rfl⟩

theorem w_X2_solve_k28 : Cond.constantLong RX2 28 (1000) ∈ wsX2_solve := by decide +kernel
theorem w_X2_solve_k30 : Cond.constantLong RX2 30 (-1000) ∈ wsX2_solve := by decide +kernel
theorem hyd_X2_limited : yX2_limited.cls ≠ "java/lang/invoke/MethodHandle" ∧ yX2_limited.cls ≠ "java/lang/invoke/VarHandle" ∧ (parseMethodDescriptor yX2_limited.desc).map (fun d => d.parameters.length) = some 1 := by decide +kernel
abbrev rm_K_solve1 : Room := { frames := 2, cells := 0, slots := 0, locals := 38 }
set_option maxHeartbeats 8000000 in
set_option maxRecDepth 100000 in
theorem K_solve1 (l : Launch) (E : Ev) (h f s g : Nat) (F S : Int → Int) (a b c d sr sx : Int) (he : 0 ≤ F 0 ∧ F 0 ≤ 20000) (h1 : 0 ≤ F 1 ∧ F 1 ≤ 20000) (h2 : 0 ≤ S 1 ∧ S 1 ≤ 20000) (h3 : 0 ≤ sr ∧ sr ≤ 40000) (h4 : 0 ≤ sx ∧ sx ≤ 40000) (hD : ¬ slD (F 1) (S 1) sr sx = 0) : Mc l yX2_solve wsX2_solve rm_K_solve1 E [vR h, vI sr, vI sx, vR g] [(h, .inr (3, [vR f, vR s])), (f, cI E 4 F), (s, cI E 4 S), (g, .inr (4, [vI a, vI b, vI c, vI d]))] 0 0 (fun v9 w9 => v9 = some (vI 1) ∧ w9 = [(h, .inr (3, [vR f, vR s])), (f, cI E 4 F), (s, cI E 4 S), (g, .inr (4, [vI (lim (slVa (F 0) (F 1) (S 1) sr sx)), vI (lim (slVb (F 0) (F 1) (S 1) sr sx)), vI (lim (slIa (F 0) (F 1) (S 1) sr sx)), vI (lim (slIb (F 0) (F 1) (S 1) sr sx))]))]) := by
  refine Mc.intro (cc := cX2_solve) (maxL := 24) (ret := (some .boolean)) (lv0 := [(0, vR h), (1, vI sr), (2, vI sx), (3, vR g)]) (by decide +kernel) rfl rfl (Nat.le_of_ble_eq_true rfl) ?_
  intro p9 e9 s9 m9 args9 below9 meth9 c9 A9 C hr hmn
  have C : Cx p9 s9 m9 args9 meth9 c9 E A9 24 cX2_solve wsX2_solve RX2 := C
  refine g_aload_n C 0 rfl dX2_solve_0 rfl ?_
  refine g_get C 0 fd_X2_solve_9 rfl rfl rfl dX2_solve_1 rfl ?_
  refine g_iconst C dX2_solve_4 rfl ?_
  refine g_iald C 1 rfl (by decide) (by decide) (by decide) rfl dX2_solve_5 rfl ?_
  refine g_i2l C ⟨by omega, by omega⟩ rfl dX2_solve_6 rfl ?_
  refine g_lstore C (lv' := [(0, vR h), (1, vI sr), (2, vI sx), (3, vR g), (4, vL (F 0))]) [1, 2, 3, 4, 0] (by decide) rfl rfl dX2_solve_7 rfl ?_
  refine g_aload_n C 0 rfl dX2_solve_9 rfl ?_
  refine g_get C 0 fd_X2_solve_9 rfl rfl rfl dX2_solve_10 rfl ?_
  refine g_iconst C dX2_solve_13 rfl ?_
  refine g_iald C 1 rfl (by decide) (by decide) (by decide) rfl dX2_solve_14 rfl ?_
  refine g_i2l C ⟨by omega, by omega⟩ rfl dX2_solve_15 rfl ?_
  refine g_lstore C (lv' := [(0, vR h), (1, vI sr), (2, vI sx), (3, vR g), (4, vL (F 0)), (6, vL (F 1))]) [1, 2, 3, 4, 5, 0] (by decide) rfl rfl dX2_solve_16 rfl ?_
  refine g_aload_n C 0 rfl dX2_solve_18 rfl ?_
  refine g_get C 0 fd_X2_solve_15 rfl rfl rfl dX2_solve_19 rfl ?_
  refine g_iconst C dX2_solve_22 rfl ?_
  refine g_iald C 2 rfl (by decide) (by decide) (by decide) rfl dX2_solve_23 rfl ?_
  refine g_i2l C ⟨by omega, by omega⟩ rfl dX2_solve_24 rfl ?_
  refine g_lstore C (lv' := [(0, vR h), (1, vI sr), (2, vI sx), (3, vR g), (4, vL (F 0)), (6, vL (F 1)), (8, vL (S 1))]) [1, 2, 3, 4, 5, 6, 0] (by decide) rfl rfl dX2_solve_25 rfl ?_
  refine g_iload_n C 1 rfl dX2_solve_27 rfl ?_
  refine g_i2l C ⟨by omega, by omega⟩ rfl dX2_solve_28 rfl ?_
  refine g_lload C 5 rfl dX2_solve_29 rfl ?_
  refine g_ladd C rfl dX2_solve_31 rfl ?_
  refine g_lstore C (lv' := [(0, vR h), (1, vI sr), (2, vI sx), (3, vR g), (4, vL (F 0)), (6, vL (F 1)), (8, vL (S 1)), (10, vL (sr + (F 1)))]) [1, 2, 3, 4, 5, 6, 7, 0] (by decide) rfl rfl dX2_solve_32 rfl ?_
  refine g_iload_n C 2 rfl dX2_solve_34 rfl ?_
  refine g_i2l C ⟨by omega, by omega⟩ rfl dX2_solve_35 rfl ?_
  refine g_lload C 6 rfl dX2_solve_36 rfl ?_
  refine g_ladd C rfl dX2_solve_38 rfl ?_
  refine g_lstore C (lv' := [(0, vR h), (1, vI sr), (2, vI sx), (3, vR g), (4, vL (F 0)), (6, vL (F 1)), (8, vL (S 1)), (10, vL (sr + (F 1))), (12, vL (sx + (S 1)))]) [1, 2, 3, 4, 5, 6, 7, 8, 0] (by decide) rfl rfl dX2_solve_39 rfl ?_
  have sb := sl_b he h1 h2 h3 h4
  refine g_lload C 7 rfl dX2_solve_41 rfl ?_
  refine g_lload C 7 rfl dX2_solve_43 rfl ?_
  refine g_lmul C rfl dX2_solve_45 rfl ?_
  refine g_lload C 8 rfl dX2_solve_46 rfl ?_
  refine g_lload C 8 rfl dX2_solve_48 rfl ?_
  refine g_lmul C rfl dX2_solve_50 rfl ?_
  refine g_ladd C rfl dX2_solve_51 rfl ?_
  refine g_top (v' := vL (slD (F 1) (S 1) sr sx)) rfl ?_
  refine g_lstore C (lv' := [(0, vR h), (1, vI sr), (2, vI sx), (3, vR g), (4, vL (F 0)), (6, vL (F 1)), (8, vL (S 1)), (10, vL (sr + (F 1))), (12, vL (sx + (S 1))), (14, vL (slD (F 1) (S 1) sr sx))]) [1, 2, 3, 4, 5, 6, 7, 8, 9, 0] (by decide) rfl rfl dX2_solve_52 rfl ?_
  refine g_lload C 9 rfl dX2_solve_54 rfl ?_
  refine g_lconst0 C dX2_solve_56 rfl ?_
  refine g_lcmp_ne C ⟨by omega, by omega⟩ ⟨by decide, by decide⟩ dX2_solve_57 rfl (tgt := 63) dX2_solve_58 (by decide) rfl (fun c_1 => ?_) (fun c_1 => ?_)
  · refine g_ldc2 C (x := 1000) w_X2_solve_k28 (by decide) dX2_solve_63 rfl ?_
    refine g_lload C 4 rfl dX2_solve_66 rfl ?_
    refine g_lmul C rfl dX2_solve_68 rfl ?_
    refine g_lload C 7 rfl dX2_solve_69 rfl ?_
    refine g_lmul C rfl dX2_solve_71 rfl ?_
    refine g_lload C 9 rfl dX2_solve_72 rfl ?_
    refine g_ldiv C ⟨by omega, by omega⟩ ⟨by omega, by omega⟩ (by assumption) rfl dX2_solve_74 rfl ?_
    refine g_top (v' := vL (slIa (F 0) (F 1) (S 1) sr sx)) rfl ?_
    refine g_lstore C (lv' := [(0, vR h), (1, vI sr), (2, vI sx), (3, vR g), (4, vL (F 0)), (6, vL (F 1)), (8, vL (S 1)), (10, vL (sr + (F 1))), (12, vL (sx + (S 1))), (14, vL (slD (F 1) (S 1) sr sx)), (16, vL (slIa (F 0) (F 1) (S 1) sr sx))]) [1, 2, 3, 4, 5, 6, 7, 8, 9, 10, 0] (by decide) rfl rfl dX2_solve_75 rfl ?_
    refine g_ldc2 C (x := (-1000)) w_X2_solve_k30 (by decide) dX2_solve_77 rfl ?_
    refine g_lload C 4 rfl dX2_solve_80 rfl ?_
    refine g_lmul C rfl dX2_solve_82 rfl ?_
    refine g_lload C 8 rfl dX2_solve_83 rfl ?_
    refine g_lmul C rfl dX2_solve_85 rfl ?_
    refine g_lload C 9 rfl dX2_solve_86 rfl ?_
    refine g_ldiv C ⟨by omega, by omega⟩ ⟨by omega, by omega⟩ (by assumption) rfl dX2_solve_88 rfl ?_
    refine g_top (v' := vL (slIb (F 0) (F 1) (S 1) sr sx)) rfl ?_
    refine g_lstore C (lv' := [(0, vR h), (1, vI sr), (2, vI sx), (3, vR g), (4, vL (F 0)), (6, vL (F 1)), (8, vL (S 1)), (10, vL (sr + (F 1))), (12, vL (sx + (S 1))), (14, vL (slD (F 1) (S 1) sr sx)), (16, vL (slIa (F 0) (F 1) (S 1) sr sx)), (18, vL (slIb (F 0) (F 1) (S 1) sr sx))]) [1, 2, 3, 4, 5, 6, 7, 8, 9, 10, 11, 0] (by decide) rfl rfl dX2_solve_89 rfl ?_
    refine g_lload C 4 rfl dX2_solve_91 rfl ?_
    refine g_lload C 10 rfl dX2_solve_93 rfl ?_
    refine g_lload C 5 rfl dX2_solve_95 rfl ?_
    refine g_lmul C rfl dX2_solve_97 rfl ?_
    refine g_lload C 11 rfl dX2_solve_98 rfl ?_
    refine g_lload C 6 rfl dX2_solve_100 rfl ?_
    refine g_lmul C rfl dX2_solve_102 rfl ?_
    refine g_lsub C rfl dX2_solve_103 rfl ?_
    refine g_ldc2 C (x := 1000) w_X2_solve_k28 (by decide) dX2_solve_104 rfl ?_
    refine g_ldiv C ⟨by omega, by omega⟩ ⟨by decide, by decide⟩ (by decide) rfl dX2_solve_107 rfl ?_
    refine g_lsub C rfl dX2_solve_108 rfl ?_
    refine g_top (v' := vL (slVa (F 0) (F 1) (S 1) sr sx)) rfl ?_
    refine g_lstore C (lv' := [(0, vR h), (1, vI sr), (2, vI sx), (3, vR g), (4, vL (F 0)), (6, vL (F 1)), (8, vL (S 1)), (10, vL (sr + (F 1))), (12, vL (sx + (S 1))), (14, vL (slD (F 1) (S 1) sr sx)), (16, vL (slIa (F 0) (F 1) (S 1) sr sx)), (18, vL (slIb (F 0) (F 1) (S 1) sr sx)), (20, vL (slVa (F 0) (F 1) (S 1) sr sx))]) [1, 2, 3, 4, 5, 6, 7, 8, 9, 10, 11, 12, 0] (by decide) rfl rfl dX2_solve_109 rfl ?_
    refine g_lload C 10 rfl dX2_solve_111 rfl ?_
    refine g_lload C 6 rfl dX2_solve_113 rfl ?_
    refine g_lmul C rfl dX2_solve_115 rfl ?_
    refine g_lload C 11 rfl dX2_solve_116 rfl ?_
    refine g_lload C 5 rfl dX2_solve_118 rfl ?_
    refine g_lmul C rfl dX2_solve_120 rfl ?_
    refine g_ladd C rfl dX2_solve_121 rfl ?_
    refine g_lneg C rfl dX2_solve_122 rfl ?_
    refine g_ldc2 C (x := 1000) w_X2_solve_k28 (by decide) dX2_solve_123 rfl ?_
    refine g_ldiv C ⟨by omega, by omega⟩ ⟨by decide, by decide⟩ (by decide) rfl dX2_solve_126 rfl ?_
    refine g_top (v' := vL (slVb (F 0) (F 1) (S 1) sr sx)) rfl ?_
    refine g_lstore C (lv' := [(0, vR h), (1, vI sr), (2, vI sx), (3, vR g), (4, vL (F 0)), (6, vL (F 1)), (8, vL (S 1)), (10, vL (sr + (F 1))), (12, vL (sx + (S 1))), (14, vL (slD (F 1) (S 1) sr sx)), (16, vL (slIa (F 0) (F 1) (S 1) sr sx)), (18, vL (slIb (F 0) (F 1) (S 1) sr sx)), (20, vL (slVa (F 0) (F 1) (S 1) sr sx)), (22, vL (slVb (F 0) (F 1) (S 1) sr sx))]) [1, 2, 3, 4, 5, 6, 7, 8, 9, 10, 11, 12, 13, 0] (by decide) rfl rfl dX2_solve_127 rfl ?_
    refine g_aload_n C 3 rfl dX2_solve_129 rfl ?_
    refine g_lload C 12 rfl dX2_solve_130 rfl ?_
    refine g_callS C (As := [vL (slVa (F 0) (F 1) (S 1) sr sx)]) (wc := []) (wr := [(h, .inr (3, [vR f, vR s])), (f, cI E 4 F), (s, cI E 4 S), (g, .inr (4, [vI a, vI b, vI c, vI d]))]) (st := [vR g]) gX2_solve_X2_limited rfl (K_lim l E (slVa (F 0) (F 1) (S 1) sr sx) (by first | assumption | omega)) hyd_X2_limited rfl [] [0, 1, 2, 3] rfl rfl rfl rfl rfl (by decide) ⟨rfl, rfl⟩ ⟨Nat.le_of_ble_eq_true rfl, Nat.le_of_ble_eq_true rfl, Nat.le_of_ble_eq_true rfl, Nat.le_of_ble_eq_true rfl⟩ (Nat.le_of_ble_eq_true rfl) dX2_solve_132 (rfl : _ = 0) (rfl : _ = 0) rfl ?_
    rintro _ _ ⟨rfl, rfl⟩
    refine g_is (ws' := [(h, .inr (3, [vR f, vR s])), (f, cI E 4 F), (s, cI E 4 S), (g, .inr (4, [vI a, vI b, vI c, vI d]))]) (st' := [vI (lim (slVa (F 0) (F 1) (S 1) sr sx)), vR g]) rfl rfl ?_
    refine g_lload C 13 rfl dX2_solve_135 rfl ?_
    refine g_callS C (As := [vL (slVb (F 0) (F 1) (S 1) sr sx)]) (wc := []) (wr := [(h, .inr (3, [vR f, vR s])), (f, cI E 4 F), (s, cI E 4 S), (g, .inr (4, [vI a, vI b, vI c, vI d]))]) (st := [vI (lim (slVa (F 0) (F 1) (S 1) sr sx)), vR g]) gX2_solve_X2_limited rfl (K_lim l E (slVb (F 0) (F 1) (S 1) sr sx) (by first | assumption | omega)) hyd_X2_limited rfl [] [0, 1, 2, 3] rfl rfl rfl rfl rfl (by decide) ⟨rfl, rfl⟩ ⟨Nat.le_of_ble_eq_true rfl, Nat.le_of_ble_eq_true rfl, Nat.le_of_ble_eq_true rfl, Nat.le_of_ble_eq_true rfl⟩ (Nat.le_of_ble_eq_true rfl) dX2_solve_137 (rfl : _ = 0) (rfl : _ = 0) rfl ?_
    rintro _ _ ⟨rfl, rfl⟩
    refine g_is (ws' := [(h, .inr (3, [vR f, vR s])), (f, cI E 4 F), (s, cI E 4 S), (g, .inr (4, [vI a, vI b, vI c, vI d]))]) (st' := [vI (lim (slVb (F 0) (F 1) (S 1) sr sx)), vI (lim (slVa (F 0) (F 1) (S 1) sr sx)), vR g]) rfl rfl ?_
    refine g_lload C 10 rfl dX2_solve_140 rfl ?_
    refine g_callS C (As := [vL (slIa (F 0) (F 1) (S 1) sr sx)]) (wc := []) (wr := [(h, .inr (3, [vR f, vR s])), (f, cI E 4 F), (s, cI E 4 S), (g, .inr (4, [vI a, vI b, vI c, vI d]))]) (st := [vI (lim (slVb (F 0) (F 1) (S 1) sr sx)), vI (lim (slVa (F 0) (F 1) (S 1) sr sx)), vR g]) gX2_solve_X2_limited rfl (K_lim l E (slIa (F 0) (F 1) (S 1) sr sx) (by first | assumption | omega)) hyd_X2_limited rfl [] [0, 1, 2, 3] rfl rfl rfl rfl rfl (by decide) ⟨rfl, rfl⟩ ⟨Nat.le_of_ble_eq_true rfl, Nat.le_of_ble_eq_true rfl, Nat.le_of_ble_eq_true rfl, Nat.le_of_ble_eq_true rfl⟩ (Nat.le_of_ble_eq_true rfl) dX2_solve_142 (rfl : _ = 0) (rfl : _ = 0) rfl ?_
    rintro _ _ ⟨rfl, rfl⟩
    refine g_is (ws' := [(h, .inr (3, [vR f, vR s])), (f, cI E 4 F), (s, cI E 4 S), (g, .inr (4, [vI a, vI b, vI c, vI d]))]) (st' := [vI (lim (slIa (F 0) (F 1) (S 1) sr sx)), vI (lim (slVb (F 0) (F 1) (S 1) sr sx)), vI (lim (slVa (F 0) (F 1) (S 1) sr sx)), vR g]) rfl rfl ?_
    refine g_lload C 11 rfl dX2_solve_145 rfl ?_
    refine g_callS C (As := [vL (slIb (F 0) (F 1) (S 1) sr sx)]) (wc := []) (wr := [(h, .inr (3, [vR f, vR s])), (f, cI E 4 F), (s, cI E 4 S), (g, .inr (4, [vI a, vI b, vI c, vI d]))]) (st := [vI (lim (slIa (F 0) (F 1) (S 1) sr sx)), vI (lim (slVb (F 0) (F 1) (S 1) sr sx)), vI (lim (slVa (F 0) (F 1) (S 1) sr sx)), vR g]) gX2_solve_X2_limited rfl (K_lim l E (slIb (F 0) (F 1) (S 1) sr sx) (by first | assumption | omega)) hyd_X2_limited rfl [] [0, 1, 2, 3] rfl rfl rfl rfl rfl (by decide) ⟨rfl, rfl⟩ ⟨Nat.le_of_ble_eq_true rfl, Nat.le_of_ble_eq_true rfl, Nat.le_of_ble_eq_true rfl, Nat.le_of_ble_eq_true rfl⟩ (Nat.le_of_ble_eq_true rfl) dX2_solve_147 (rfl : _ = 0) (rfl : _ = 0) rfl ?_
    rintro _ _ ⟨rfl, rfl⟩
    refine g_is (ws' := [(h, .inr (3, [vR f, vR s])), (f, cI E 4 F), (s, cI E 4 S), (g, .inr (4, [vI a, vI b, vI c, vI d]))]) (st' := [vI (lim (slIb (F 0) (F 1) (S 1) sr sx)), vI (lim (slIa (F 0) (F 1) (S 1) sr sx)), vI (lim (slVb (F 0) (F 1) (S 1) sr sx)), vI (lim (slVa (F 0) (F 1) (S 1) sr sx)), vR g]) rfl rfl ?_
    refine g_callV C (b := g) (As := [vI (lim (slVa (F 0) (F 1) (S 1) sr sx)), vI (lim (slVb (F 0) (F 1) (S 1) sr sx)), vI (lim (slIa (F 0) (F 1) (S 1) sr sx)), vI (lim (slIb (F 0) (F 1) (S 1) sr sx))]) (wc := [(g, .inr (4, [vI a, vI b, vI c, vI d]))]) (wr := [(h, .inr (3, [vR f, vR s])), (f, cI E 4 F), (s, cI E 4 S)]) (st := []) gX2_solve_X3_put (q9 := 0) (ci := 4) rfl rfl rfl (K_ph_put l E g a b c d (lim (slVa (F 0) (F 1) (S 1) sr sx)) (lim (slVb (F 0) (F 1) (S 1) sr sx)) (lim (slIa (F 0) (F 1) (S 1) sr sx)) (lim (slIb (F 0) (F 1) (S 1) sr sx)) ) hyd_X3_put rfl [3] [0, 1, 2] rfl rfl rfl rfl rfl (by decide) ⟨rfl, rfl⟩ ⟨Nat.le_of_ble_eq_true rfl, Nat.le_of_ble_eq_true rfl, Nat.le_of_ble_eq_true rfl, Nat.le_of_ble_eq_true rfl⟩ (Nat.le_of_ble_eq_true rfl) dX2_solve_150 (rfl : _ = 0) (rfl : _ = 0) rfl ?_
    rintro _ _ ⟨rfl, rfl⟩
    refine g_is (ws' := [(h, .inr (3, [vR f, vR s])), (f, cI E 4 F), (s, cI E 4 S), (g, .inr (4, [vI (lim (slVa (F 0) (F 1) (S 1) sr sx)), vI (lim (slVb (F 0) (F 1) (S 1) sr sx)), vI (lim (slIa (F 0) (F 1) (S 1) sr sx)), vI (lim (slIb (F 0) (F 1) (S 1) sr sx))]))]) (st' := []) rfl rfl ?_
    refine g_iconst C dX2_solve_153 rfl ?_
    exact g_iret C hr (by decide) (Nat.le_of_ble_eq_true rfl) (Nat.le_of_ble_eq_true rfl) dX2_solve_154 ⟨rfl, rfl⟩
  exfalso; exact absurd (by assumption) hD

theorem in_X2_findFaulted_X2 : ∀ w ∈ u_ws RX2 TX2 2, w ∈ wsX2_findFaulted := by decide +kernel
theorem fd_X2_findFaulted_9 : fdk wsX2_findFaulted RX2 9 "ZoneRelay$Network" RX2 TX2 2 0 := ⟨in_X2_findFaulted_X2, by decide +kernel, by decide, rfl⟩
theorem fd_X2_findFaulted_15 : fdk wsX2_findFaulted RX2 15 "ZoneRelay$Network" RX2 TX2 2 1 := ⟨in_X2_findFaulted_X2, by decide +kernel, by decide, rfl⟩
theorem hyd_X2_solve : yX2_solve.cls ≠ "java/lang/invoke/MethodHandle" ∧ yX2_solve.cls ≠ "java/lang/invoke/VarHandle" ∧ (parseMethodDescriptor yX2_solve.desc).map (fun d => d.parameters.length) = some 3 := by decide +kernel
abbrev rm_K_faulted0 : Room := { frames := 1, cells := 0, slots := 0, locals := 43 }
set_option maxHeartbeats 8000000 in
set_option maxRecDepth 100000 in
theorem K_faulted0 (l : Launch) (E : Ev) (h f s g : Nat) (F S : Int → Int) (a b c d p q : Int) (he : 0 ≤ F 0 ∧ F 0 ≤ 20000) (h1 : 0 ≤ F 1 ∧ F 1 ≤ 20000) (h2 : 0 ≤ S 1 ∧ S 1 ≤ 20000) (h5 : 0 ≤ F 2 ∧ F 2 ≤ 20000) (h6 : 0 ≤ S 2 ∧ S 2 ≤ 20000) (hp : 0 ≤ p ∧ p ≤ 1000) (hq : 0 ≤ q ∧ q ≤ 20000) (hD : slD (F 1) (S 1) (Int.tdiv (F 2 * p) 1000 + q) (Int.tdiv (S 2 * p) 1000) = 0) : Mc l yX2_findFaulted wsX2_findFaulted rm_K_faulted0 E [vR h, vI p, vI q, vR g] [(h, .inr (3, [vR f, vR s])), (f, cI E 4 F), (s, cI E 4 S), (g, .inr (4, [vI a, vI b, vI c, vI d]))] 0 0 (fun v9 w9 => v9 = some (vI 0) ∧ w9 = [(h, .inr (3, [vR f, vR s])), (f, cI E 4 F), (s, cI E 4 S), (g, .inr (4, [vI a, vI b, vI c, vI d]))]) := by
  refine Mc.intro (cc := cX2_findFaulted) (maxL := 4) (ret := (some .boolean)) (lv0 := [(0, vR h), (1, vI p), (2, vI q), (3, vR g)]) (by decide +kernel) rfl rfl (Nat.le_of_ble_eq_true rfl) ?_
  intro p9 e9 s9 m9 args9 below9 meth9 c9 A9 C hr hmn
  have C : Cx p9 s9 m9 args9 meth9 c9 E A9 4 cX2_findFaulted wsX2_findFaulted RX2 := C
  have fa := mul_b (x := F 2) (y := p) (A := 20000) (B := 1000) (by omega) (by omega)
  have fb := mul_b (x := S 2) (y := p) (A := 20000) (B := 1000) (by omega) (by omega)
  have fc := fz_b h5 hp
  have fd := fz_b h6 hp
  refine g_aload_n C 0 rfl dX2_findFaulted_0 rfl ?_
  refine g_aload_n C 0 rfl dX2_findFaulted_1 rfl ?_
  refine g_get C 0 fd_X2_findFaulted_9 rfl rfl rfl dX2_findFaulted_2 rfl ?_
  refine g_iconst C dX2_findFaulted_5 rfl ?_
  refine g_iald C 1 rfl (by decide) (by decide) (by decide) rfl dX2_findFaulted_6 rfl ?_
  refine g_iload_n C 1 rfl dX2_findFaulted_7 rfl ?_
  refine g_imul C rfl dX2_findFaulted_8 rfl ?_
  refine g_sipush C (by decide) dX2_findFaulted_9 rfl ?_
  refine g_idiv C ⟨by omega, by omega⟩ ⟨by decide, by decide⟩ (by decide) (by decide) rfl dX2_findFaulted_12 rfl ?_
  refine g_iload_n C 2 rfl dX2_findFaulted_13 rfl ?_
  refine g_iadd C rfl dX2_findFaulted_14 rfl ?_
  refine g_aload_n C 0 rfl dX2_findFaulted_15 rfl ?_
  refine g_get C 0 fd_X2_findFaulted_15 rfl rfl rfl dX2_findFaulted_16 rfl ?_
  refine g_iconst C dX2_findFaulted_19 rfl ?_
  refine g_iald C 2 rfl (by decide) (by decide) (by decide) rfl dX2_findFaulted_20 rfl ?_
  refine g_iload_n C 1 rfl dX2_findFaulted_21 rfl ?_
  refine g_imul C rfl dX2_findFaulted_22 rfl ?_
  refine g_sipush C (by decide) dX2_findFaulted_23 rfl ?_
  refine g_idiv C ⟨by omega, by omega⟩ ⟨by decide, by decide⟩ (by decide) (by decide) rfl dX2_findFaulted_26 rfl ?_
  refine g_aload_n C 3 rfl dX2_findFaulted_27 rfl ?_
  refine g_callV C (b := h) (As := [vI ((Int.tdiv ((F 2) * p) 1000) + q), vI (Int.tdiv ((S 2) * p) 1000), vR g]) (wc := [(h, .inr (3, [vR f, vR s])), (f, cI E 4 F), (s, cI E 4 S), (g, .inr (4, [vI a, vI b, vI c, vI d]))]) (wr := []) (st := []) gX2_findFaulted_X2_solve (q9 := 0) (ci := 3) rfl rfl rfl (K_solve0 l E h f s g F S a b c d ((Int.tdiv ((F 2) * p) 1000) + q) (Int.tdiv ((S 2) * p) 1000) he h1 h2 (by omega) (by omega) hD) hyd_X2_solve rfl [0, 1, 2, 3] [] rfl rfl rfl rfl rfl (by decide) ⟨rfl, rfl⟩ ⟨Nat.le_of_ble_eq_true rfl, Nat.le_of_ble_eq_true rfl, Nat.le_of_ble_eq_true rfl, Nat.le_of_ble_eq_true rfl⟩ (Nat.le_of_ble_eq_true rfl) dX2_findFaulted_28 (rfl : _ = 0) (rfl : _ = 0) rfl ?_
  rintro _ _ ⟨rfl, rfl⟩
  refine g_is (ws' := [(h, .inr (3, [vR f, vR s])), (f, cI E 4 F), (s, cI E 4 S), (g, .inr (4, [vI a, vI b, vI c, vI d]))]) (st' := [vI 0]) rfl rfl ?_
  exact g_iret C hr (by decide) (Nat.le_of_ble_eq_true rfl) (Nat.le_of_ble_eq_true rfl) dX2_findFaulted_31 ⟨rfl, rfl⟩

theorem in_X2_findUnfaulted_X2 : ∀ w ∈ u_ws RX2 TX2 2, w ∈ wsX2_findUnfaulted := by decide +kernel
theorem fd_X2_findUnfaulted_9 : fdk wsX2_findUnfaulted RX2 9 "ZoneRelay$Network" RX2 TX2 2 0 := ⟨in_X2_findUnfaulted_X2, by decide +kernel, by decide, rfl⟩
theorem fd_X2_findUnfaulted_15 : fdk wsX2_findUnfaulted RX2 15 "ZoneRelay$Network" RX2 TX2 2 1 := ⟨in_X2_findUnfaulted_X2, by decide +kernel, by decide, rfl⟩
abbrev rm_K_unfaulted0 : Room := { frames := 1, cells := 0, slots := 0, locals := 43 }
set_option maxHeartbeats 8000000 in
set_option maxRecDepth 100000 in
theorem K_unfaulted0 (l : Launch) (E : Ev) (h f s g : Nat) (F S : Int → Int) (a b c d : Int) (he : 0 ≤ F 0 ∧ F 0 ≤ 20000) (h1 : 0 ≤ F 1 ∧ F 1 ≤ 20000) (h2 : 0 ≤ S 1 ∧ S 1 ≤ 20000) (h5 : 0 ≤ F 2 ∧ F 2 ≤ 20000) (h6 : 0 ≤ S 2 ∧ S 2 ≤ 20000) (h7 : 0 ≤ F 3 ∧ F 3 ≤ 20000) (h8 : 0 ≤ S 3 ∧ S 3 ≤ 20000) (hD : slD (F 1) (S 1) (F 2 + F 3) (S 2 + S 3) = 0) : Mc l yX2_findUnfaulted wsX2_findUnfaulted rm_K_unfaulted0 E [vR h, vR g] [(h, .inr (3, [vR f, vR s])), (f, cI E 4 F), (s, cI E 4 S), (g, .inr (4, [vI a, vI b, vI c, vI d]))] 0 0 (fun v9 w9 => v9 = some (vI 0) ∧ w9 = [(h, .inr (3, [vR f, vR s])), (f, cI E 4 F), (s, cI E 4 S), (g, .inr (4, [vI a, vI b, vI c, vI d]))]) := by
  refine Mc.intro (cc := cX2_findUnfaulted) (maxL := 2) (ret := (some .boolean)) (lv0 := [(0, vR h), (1, vR g)]) (by decide +kernel) rfl rfl (Nat.le_of_ble_eq_true rfl) ?_
  intro p9 e9 s9 m9 args9 below9 meth9 c9 A9 C hr hmn
  have C : Cx p9 s9 m9 args9 meth9 c9 E A9 2 cX2_findUnfaulted wsX2_findUnfaulted RX2 := C
  refine g_aload_n C 0 rfl dX2_findUnfaulted_0 rfl ?_
  refine g_aload_n C 0 rfl dX2_findUnfaulted_1 rfl ?_
  refine g_get C 0 fd_X2_findUnfaulted_9 rfl rfl rfl dX2_findUnfaulted_2 rfl ?_
  refine g_iconst C dX2_findUnfaulted_5 rfl ?_
  refine g_iald C 1 rfl (by decide) (by decide) (by decide) rfl dX2_findUnfaulted_6 rfl ?_
  refine g_aload_n C 0 rfl dX2_findUnfaulted_7 rfl ?_
  refine g_get C 0 fd_X2_findUnfaulted_9 rfl rfl rfl dX2_findUnfaulted_8 rfl ?_
  refine g_iconst C dX2_findUnfaulted_11 rfl ?_
  refine g_iald C 1 rfl (by decide) (by decide) (by decide) rfl dX2_findUnfaulted_12 rfl ?_
  refine g_iadd C rfl dX2_findUnfaulted_13 rfl ?_
  refine g_aload_n C 0 rfl dX2_findUnfaulted_14 rfl ?_
  refine g_get C 0 fd_X2_findUnfaulted_15 rfl rfl rfl dX2_findUnfaulted_15 rfl ?_
  refine g_iconst C dX2_findUnfaulted_18 rfl ?_
  refine g_iald C 2 rfl (by decide) (by decide) (by decide) rfl dX2_findUnfaulted_19 rfl ?_
  refine g_aload_n C 0 rfl dX2_findUnfaulted_20 rfl ?_
  refine g_get C 0 fd_X2_findUnfaulted_15 rfl rfl rfl dX2_findUnfaulted_21 rfl ?_
  refine g_iconst C dX2_findUnfaulted_24 rfl ?_
  refine g_iald C 2 rfl (by decide) (by decide) (by decide) rfl dX2_findUnfaulted_25 rfl ?_
  refine g_iadd C rfl dX2_findUnfaulted_26 rfl ?_
  refine g_aload_n C 1 rfl dX2_findUnfaulted_27 rfl ?_
  refine g_callV C (b := h) (As := [vI ((F 2) + (F 3)), vI ((S 2) + (S 3)), vR g]) (wc := [(h, .inr (3, [vR f, vR s])), (f, cI E 4 F), (s, cI E 4 S), (g, .inr (4, [vI a, vI b, vI c, vI d]))]) (wr := []) (st := []) gX2_findUnfaulted_X2_solve (q9 := 0) (ci := 3) rfl rfl rfl (K_solve0 l E h f s g F S a b c d ((F 2) + (F 3)) ((S 2) + (S 3)) he h1 h2 (by omega) (by omega) hD) hyd_X2_solve rfl [0, 1, 2, 3] [] rfl rfl rfl rfl rfl (by decide) ⟨rfl, rfl⟩ ⟨Nat.le_of_ble_eq_true rfl, Nat.le_of_ble_eq_true rfl, Nat.le_of_ble_eq_true rfl, Nat.le_of_ble_eq_true rfl⟩ (Nat.le_of_ble_eq_true rfl) dX2_findUnfaulted_28 (rfl : _ = 0) (rfl : _ = 0) rfl ?_
  rintro _ _ ⟨rfl, rfl⟩
  refine g_is (ws' := [(h, .inr (3, [vR f, vR s])), (f, cI E 4 F), (s, cI E 4 S), (g, .inr (4, [vI a, vI b, vI c, vI d]))]) (st' := [vI 0]) rfl rfl ?_
  exact g_iret C hr (by decide) (Nat.le_of_ble_eq_true rfl) (Nat.le_of_ble_eq_true rfl) dX2_findUnfaulted_31 ⟨rfl, rfl⟩

abbrev rm_K_faulted1 : Room := { frames := 3, cells := 0, slots := 0, locals := 81 }
set_option maxHeartbeats 8000000 in
set_option maxRecDepth 100000 in
theorem K_faulted1 (l : Launch) (E : Ev) (h f s g : Nat) (F S : Int → Int) (a b c d p q : Int) (he : 0 ≤ F 0 ∧ F 0 ≤ 20000) (h1 : 0 ≤ F 1 ∧ F 1 ≤ 20000) (h2 : 0 ≤ S 1 ∧ S 1 ≤ 20000) (h5 : 0 ≤ F 2 ∧ F 2 ≤ 20000) (h6 : 0 ≤ S 2 ∧ S 2 ≤ 20000) (hp : 0 ≤ p ∧ p ≤ 1000) (hq : 0 ≤ q ∧ q ≤ 20000) (hD : ¬ slD (F 1) (S 1) (Int.tdiv (F 2 * p) 1000 + q) (Int.tdiv (S 2 * p) 1000) = 0) : Mc l yX2_findFaulted wsX2_findFaulted rm_K_faulted1 E [vR h, vI p, vI q, vR g] [(h, .inr (3, [vR f, vR s])), (f, cI E 4 F), (s, cI E 4 S), (g, .inr (4, [vI a, vI b, vI c, vI d]))] 0 0 (fun v9 w9 => v9 = some (vI 1) ∧ w9 = [(h, .inr (3, [vR f, vR s])), (f, cI E 4 F), (s, cI E 4 S), (g, .inr (4, [vI (lim (slVa (F 0) (F 1) (S 1) ((Int.tdiv ((F 2) * p) 1000) + q) (Int.tdiv ((S 2) * p) 1000))), vI (lim (slVb (F 0) (F 1) (S 1) ((Int.tdiv ((F 2) * p) 1000) + q) (Int.tdiv ((S 2) * p) 1000))), vI (lim (slIa (F 0) (F 1) (S 1) ((Int.tdiv ((F 2) * p) 1000) + q) (Int.tdiv ((S 2) * p) 1000))), vI (lim (slIb (F 0) (F 1) (S 1) ((Int.tdiv ((F 2) * p) 1000) + q) (Int.tdiv ((S 2) * p) 1000)))]))]) := by
  refine Mc.intro (cc := cX2_findFaulted) (maxL := 4) (ret := (some .boolean)) (lv0 := [(0, vR h), (1, vI p), (2, vI q), (3, vR g)]) (by decide +kernel) rfl rfl (Nat.le_of_ble_eq_true rfl) ?_
  intro p9 e9 s9 m9 args9 below9 meth9 c9 A9 C hr hmn
  have C : Cx p9 s9 m9 args9 meth9 c9 E A9 4 cX2_findFaulted wsX2_findFaulted RX2 := C
  have fa := mul_b (x := F 2) (y := p) (A := 20000) (B := 1000) (by omega) (by omega)
  have fb := mul_b (x := S 2) (y := p) (A := 20000) (B := 1000) (by omega) (by omega)
  have fc := fz_b h5 hp
  have fd := fz_b h6 hp
  refine g_aload_n C 0 rfl dX2_findFaulted_0 rfl ?_
  refine g_aload_n C 0 rfl dX2_findFaulted_1 rfl ?_
  refine g_get C 0 fd_X2_findFaulted_9 rfl rfl rfl dX2_findFaulted_2 rfl ?_
  refine g_iconst C dX2_findFaulted_5 rfl ?_
  refine g_iald C 1 rfl (by decide) (by decide) (by decide) rfl dX2_findFaulted_6 rfl ?_
  refine g_iload_n C 1 rfl dX2_findFaulted_7 rfl ?_
  refine g_imul C rfl dX2_findFaulted_8 rfl ?_
  refine g_sipush C (by decide) dX2_findFaulted_9 rfl ?_
  refine g_idiv C ⟨by omega, by omega⟩ ⟨by decide, by decide⟩ (by decide) (by decide) rfl dX2_findFaulted_12 rfl ?_
  refine g_iload_n C 2 rfl dX2_findFaulted_13 rfl ?_
  refine g_iadd C rfl dX2_findFaulted_14 rfl ?_
  refine g_aload_n C 0 rfl dX2_findFaulted_15 rfl ?_
  refine g_get C 0 fd_X2_findFaulted_15 rfl rfl rfl dX2_findFaulted_16 rfl ?_
  refine g_iconst C dX2_findFaulted_19 rfl ?_
  refine g_iald C 2 rfl (by decide) (by decide) (by decide) rfl dX2_findFaulted_20 rfl ?_
  refine g_iload_n C 1 rfl dX2_findFaulted_21 rfl ?_
  refine g_imul C rfl dX2_findFaulted_22 rfl ?_
  refine g_sipush C (by decide) dX2_findFaulted_23 rfl ?_
  refine g_idiv C ⟨by omega, by omega⟩ ⟨by decide, by decide⟩ (by decide) (by decide) rfl dX2_findFaulted_26 rfl ?_
  refine g_aload_n C 3 rfl dX2_findFaulted_27 rfl ?_
  refine g_callV C (b := h) (As := [vI ((Int.tdiv ((F 2) * p) 1000) + q), vI (Int.tdiv ((S 2) * p) 1000), vR g]) (wc := [(h, .inr (3, [vR f, vR s])), (f, cI E 4 F), (s, cI E 4 S), (g, .inr (4, [vI a, vI b, vI c, vI d]))]) (wr := []) (st := []) gX2_findFaulted_X2_solve (q9 := 0) (ci := 3) rfl rfl rfl (K_solve1 l E h f s g F S a b c d ((Int.tdiv ((F 2) * p) 1000) + q) (Int.tdiv ((S 2) * p) 1000) he h1 h2 (by omega) (by omega) hD) hyd_X2_solve rfl [0, 1, 2, 3] [] rfl rfl rfl rfl rfl (by decide) ⟨rfl, rfl⟩ ⟨Nat.le_of_ble_eq_true rfl, Nat.le_of_ble_eq_true rfl, Nat.le_of_ble_eq_true rfl, Nat.le_of_ble_eq_true rfl⟩ (Nat.le_of_ble_eq_true rfl) dX2_findFaulted_28 (rfl : _ = 0) (rfl : _ = 0) rfl ?_
  rintro _ _ ⟨rfl, rfl⟩
  refine g_is (ws' := [(h, .inr (3, [vR f, vR s])), (f, cI E 4 F), (s, cI E 4 S), (g, .inr (4, [vI (lim (slVa (F 0) (F 1) (S 1) ((Int.tdiv ((F 2) * p) 1000) + q) (Int.tdiv ((S 2) * p) 1000))), vI (lim (slVb (F 0) (F 1) (S 1) ((Int.tdiv ((F 2) * p) 1000) + q) (Int.tdiv ((S 2) * p) 1000))), vI (lim (slIa (F 0) (F 1) (S 1) ((Int.tdiv ((F 2) * p) 1000) + q) (Int.tdiv ((S 2) * p) 1000))), vI (lim (slIb (F 0) (F 1) (S 1) ((Int.tdiv ((F 2) * p) 1000) + q) (Int.tdiv ((S 2) * p) 1000)))]))]) (st' := [vI 1]) rfl rfl ?_
  exact g_iret C hr (by decide) (Nat.le_of_ble_eq_true rfl) (Nat.le_of_ble_eq_true rfl) dX2_findFaulted_31 ⟨rfl, rfl⟩

abbrev rm_K_unfaulted1 : Room := { frames := 3, cells := 0, slots := 0, locals := 81 }
set_option maxHeartbeats 8000000 in
set_option maxRecDepth 100000 in
theorem K_unfaulted1 (l : Launch) (E : Ev) (h f s g : Nat) (F S : Int → Int) (a b c d : Int) (he : 0 ≤ F 0 ∧ F 0 ≤ 20000) (h1 : 0 ≤ F 1 ∧ F 1 ≤ 20000) (h2 : 0 ≤ S 1 ∧ S 1 ≤ 20000) (h5 : 0 ≤ F 2 ∧ F 2 ≤ 20000) (h6 : 0 ≤ S 2 ∧ S 2 ≤ 20000) (h7 : 0 ≤ F 3 ∧ F 3 ≤ 20000) (h8 : 0 ≤ S 3 ∧ S 3 ≤ 20000) (hD : ¬ slD (F 1) (S 1) (F 2 + F 3) (S 2 + S 3) = 0) : Mc l yX2_findUnfaulted wsX2_findUnfaulted rm_K_unfaulted1 E [vR h, vR g] [(h, .inr (3, [vR f, vR s])), (f, cI E 4 F), (s, cI E 4 S), (g, .inr (4, [vI a, vI b, vI c, vI d]))] 0 0 (fun v9 w9 => v9 = some (vI 1) ∧ w9 = [(h, .inr (3, [vR f, vR s])), (f, cI E 4 F), (s, cI E 4 S), (g, .inr (4, [vI (lim (slVa (F 0) (F 1) (S 1) ((F 2) + (F 3)) ((S 2) + (S 3)))), vI (lim (slVb (F 0) (F 1) (S 1) ((F 2) + (F 3)) ((S 2) + (S 3)))), vI (lim (slIa (F 0) (F 1) (S 1) ((F 2) + (F 3)) ((S 2) + (S 3)))), vI (lim (slIb (F 0) (F 1) (S 1) ((F 2) + (F 3)) ((S 2) + (S 3))))]))]) := by
  refine Mc.intro (cc := cX2_findUnfaulted) (maxL := 2) (ret := (some .boolean)) (lv0 := [(0, vR h), (1, vR g)]) (by decide +kernel) rfl rfl (Nat.le_of_ble_eq_true rfl) ?_
  intro p9 e9 s9 m9 args9 below9 meth9 c9 A9 C hr hmn
  have C : Cx p9 s9 m9 args9 meth9 c9 E A9 2 cX2_findUnfaulted wsX2_findUnfaulted RX2 := C
  refine g_aload_n C 0 rfl dX2_findUnfaulted_0 rfl ?_
  refine g_aload_n C 0 rfl dX2_findUnfaulted_1 rfl ?_
  refine g_get C 0 fd_X2_findUnfaulted_9 rfl rfl rfl dX2_findUnfaulted_2 rfl ?_
  refine g_iconst C dX2_findUnfaulted_5 rfl ?_
  refine g_iald C 1 rfl (by decide) (by decide) (by decide) rfl dX2_findUnfaulted_6 rfl ?_
  refine g_aload_n C 0 rfl dX2_findUnfaulted_7 rfl ?_
  refine g_get C 0 fd_X2_findUnfaulted_9 rfl rfl rfl dX2_findUnfaulted_8 rfl ?_
  refine g_iconst C dX2_findUnfaulted_11 rfl ?_
  refine g_iald C 1 rfl (by decide) (by decide) (by decide) rfl dX2_findUnfaulted_12 rfl ?_
  refine g_iadd C rfl dX2_findUnfaulted_13 rfl ?_
  refine g_aload_n C 0 rfl dX2_findUnfaulted_14 rfl ?_
  refine g_get C 0 fd_X2_findUnfaulted_15 rfl rfl rfl dX2_findUnfaulted_15 rfl ?_
  refine g_iconst C dX2_findUnfaulted_18 rfl ?_
  refine g_iald C 2 rfl (by decide) (by decide) (by decide) rfl dX2_findUnfaulted_19 rfl ?_
  refine g_aload_n C 0 rfl dX2_findUnfaulted_20 rfl ?_
  refine g_get C 0 fd_X2_findUnfaulted_15 rfl rfl rfl dX2_findUnfaulted_21 rfl ?_
  refine g_iconst C dX2_findUnfaulted_24 rfl ?_
  refine g_iald C 2 rfl (by decide) (by decide) (by decide) rfl dX2_findUnfaulted_25 rfl ?_
  refine g_iadd C rfl dX2_findUnfaulted_26 rfl ?_
  refine g_aload_n C 1 rfl dX2_findUnfaulted_27 rfl ?_
  refine g_callV C (b := h) (As := [vI ((F 2) + (F 3)), vI ((S 2) + (S 3)), vR g]) (wc := [(h, .inr (3, [vR f, vR s])), (f, cI E 4 F), (s, cI E 4 S), (g, .inr (4, [vI a, vI b, vI c, vI d]))]) (wr := []) (st := []) gX2_findUnfaulted_X2_solve (q9 := 0) (ci := 3) rfl rfl rfl (K_solve1 l E h f s g F S a b c d ((F 2) + (F 3)) ((S 2) + (S 3)) he h1 h2 (by omega) (by omega) hD) hyd_X2_solve rfl [0, 1, 2, 3] [] rfl rfl rfl rfl rfl (by decide) ⟨rfl, rfl⟩ ⟨Nat.le_of_ble_eq_true rfl, Nat.le_of_ble_eq_true rfl, Nat.le_of_ble_eq_true rfl, Nat.le_of_ble_eq_true rfl⟩ (Nat.le_of_ble_eq_true rfl) dX2_findUnfaulted_28 (rfl : _ = 0) (rfl : _ = 0) rfl ?_
  rintro _ _ ⟨rfl, rfl⟩
  refine g_is (ws' := [(h, .inr (3, [vR f, vR s])), (f, cI E 4 F), (s, cI E 4 S), (g, .inr (4, [vI (lim (slVa (F 0) (F 1) (S 1) ((F 2) + (F 3)) ((S 2) + (S 3)))), vI (lim (slVb (F 0) (F 1) (S 1) ((F 2) + (F 3)) ((S 2) + (S 3)))), vI (lim (slIa (F 0) (F 1) (S 1) ((F 2) + (F 3)) ((S 2) + (S 3)))), vI (lim (slIb (F 0) (F 1) (S 1) ((F 2) + (F 3)) ((S 2) + (S 3))))]))]) (st' := [vI 1]) rfl rfl ?_
  exact g_iret C hr (by decide) (Nat.le_of_ble_eq_true rfl) (Nat.le_of_ble_eq_true rfl) dX2_findUnfaulted_31 ⟨rfl, rfl⟩

theorem w_X7_init_oi : Cond.methodLink RX7 1 Lib.objectInit ∈ wsX7_init ∧ Cond.instanceMethod Lib.objectInit ∈ wsX7_init ∧ Cond.code Lib.objectInit ⟨#[0xb1]⟩ 1 none ∈ wsX7_init := ⟨by decide +kernel, by decide +kernel, by decide +kernel⟩
theorem w_X7_init_new7 : Cond.classLink RX7 7 RX3 ∈ wsX7_init ∧ Cond.instantiable RX3 4 ∈ wsX7_init ∧ Cond.initialized RX3 ∈ wsX7_init := ⟨by decide +kernel, by decide +kernel, by decide +kernel⟩
theorem in_X7_init_X3 : ∀ w ∈ u_ws RX3 TX3 4, w ∈ wsX7_init := by decide +kernel
theorem hyd_X3_init : yX3_init.cls ≠ "java/lang/invoke/MethodHandle" ∧ yX3_init.cls ≠ "java/lang/invoke/VarHandle" ∧ (parseMethodDescriptor yX3_init.desc).map (fun d => d.parameters.length) = some 0 := by decide +kernel
theorem w_X7_init_ni9 : Cond.initialized yX3_init.cls ∈ wsX7_init ∧ Cond.instanceMethod yX3_init ∈ wsX7_init := ⟨by decide +kernel, by decide +kernel⟩
theorem nw_X7_9 : Cond.methodLinkNest RX7 9 yX3_init RX10 ∈ nwl := by decide +kernel
theorem in_X7_init_X7 : ∀ w ∈ u_ws RX7 TX7 5, w ∈ wsX7_init := by decide +kernel
theorem fd_X7_init_10 : fdk wsX7_init RX7 10 "ZoneRelay$Signal" RX7 TX7 5 0 := ⟨in_X7_init_X7, by decide +kernel, by decide, rfl⟩
theorem fd_X7_init_16 : fdk wsX7_init RX7 16 "ZoneRelay$Signal" RX7 TX7 5 1 := ⟨in_X7_init_X7, by decide +kernel, by decide, rfl⟩
theorem fd_X7_init_19 : fdk wsX7_init RX7 19 "ZoneRelay$Signal" RX7 TX7 5 2 := ⟨in_X7_init_X7, by decide +kernel, by decide, rfl⟩
abbrev rm_K_sig_init : Room := { frames := 2, cells := 3, slots := 12, locals := 32 }
set_option maxHeartbeats 8000000 in
set_option maxRecDepth 100000 in
theorem K_sig_init (l : Launch) (E : Ev) (h : Nat) (ln lf : Int)  : Mc l yX7_init wsX7_init rm_K_sig_init E [vR h] [(h, .inr (8, [.null, .null, .null, vI ln, vI lf]))] 3 12 (fun v9 w9 => ∃ (w : Nat) (f : Nat) (t : Nat), v9 = none ∧ w9 = [(h, .inr (8, [vR w, vR f, vR t, vI ln, vI lf])), (w, .inr (4, [vI 0, vI 0, vI 0, vI 0])), (f, .inr (4, [vI 0, vI 0, vI 0, vI 0])), (t, .inr (4, [vI 0, vI 0, vI 0, vI 0]))]) := by
  refine Mc.intro (cc := cX7_init) (maxL := 1) (ret := none) (lv0 := [(0, vR h)]) (by decide +kernel) rfl rfl (Nat.le_of_ble_eq_true rfl) ?_
  intro p9 e9 s9 m9 args9 below9 meth9 c9 A9 C hr hmn
  have C : Cx p9 s9 m9 args9 meth9 c9 E A9 1 cX7_init wsX7_init RX7 := C
  refine g_aload_n C 0 rfl dX7_init_0 rfl ?_
  refine g_objInit C w_X7_init_oi ⟨Nat.le_of_ble_eq_true rfl, Nat.le_of_ble_eq_true rfl⟩ dX7_init_1 rfl ?_
  refine g_aload_n C 0 rfl dX7_init_4 rfl ?_
  refine g_new C (fs := [vI 0, vI 0, vI 0, vI 0]) tyX3 tyX3_ok in_X7_init_X3 w_X7_init_new7 (ci := 4) rfl (fun j hj => by rcases (show j = 0 ∨ j = 1 ∨ j = 2 ∨ j = 3 by omega) with rfl | rfl | rfl | rfl <;> rfl) (rfl : _ = 1) (rfl : _ = 4) ⟨by decide, Nat.le_of_ble_eq_true rfl⟩ dX7_init_5 rfl (fun q_1 => ?_)
  refine g_is (ws' := [(h, .inr (8, [.null, .null, .null, vI ln, vI lf])), (q_1, .inr (4, [vI 0, vI 0, vI 0, vI 0]))]) (st' := [vR q_1, vR h]) rfl rfl ?_
  refine g_dup C rfl dX7_init_8 rfl ?_
  refine g_callIN C (b := q_1) (As := []) (wc := [(q_1, .inr (4, [vI 0, vI 0, vI 0, vI 0]))]) (wr := [(h, .inr (8, [.null, .null, .null, vI ln, vI lf]))]) (st := [vR q_1, vR h]) gX7_init_X3_init_n9 nw_X7_9 w_X7_init_ni9 rfl rfl (K_ph_init l E q_1 0 0 0 0 ) hyd_X3_init rfl [1] [0] rfl rfl rfl rfl rfl (by decide) ⟨rfl, rfl⟩ ⟨Nat.le_of_ble_eq_true rfl, Nat.le_of_ble_eq_true rfl, Nat.le_of_ble_eq_true rfl, Nat.le_of_ble_eq_true rfl⟩ (Nat.le_of_ble_eq_true rfl) dX7_init_9 (rfl : _ = 1) (rfl : _ = 4) rfl ?_
  rintro _ _ ⟨rfl, rfl⟩
  refine g_is (ws' := [(h, .inr (8, [.null, .null, .null, vI ln, vI lf])), (q_1, .inr (4, [vI 0, vI 0, vI 0, vI 0]))]) (st' := [vR q_1, vR h]) rfl rfl ?_
  refine g_putF C hmn tyX7 tyX7_ok nmX7 0 fd_X7_init_10 rfl rfl rfl rfl rfl rfl rfl (Nat.le_of_ble_eq_true rfl) (ws' := [(h, .inr (8, [vR q_1, .null, .null, vI ln, vI lf])), (q_1, .inr (4, [vI 0, vI 0, vI 0, vI 0]))]) rfl dX7_init_12 rfl ?_
  refine g_aload_n C 0 rfl dX7_init_15 rfl ?_
  refine g_new C (fs := [vI 0, vI 0, vI 0, vI 0]) tyX3 tyX3_ok in_X7_init_X3 w_X7_init_new7 (ci := 4) rfl (fun j hj => by rcases (show j = 0 ∨ j = 1 ∨ j = 2 ∨ j = 3 by omega) with rfl | rfl | rfl | rfl <;> rfl) (rfl : _ = 2) (rfl : _ = 8) ⟨by decide, Nat.le_of_ble_eq_true rfl⟩ dX7_init_16 rfl (fun q_2 => ?_)
  refine g_is (ws' := [(h, .inr (8, [vR q_1, .null, .null, vI ln, vI lf])), (q_1, .inr (4, [vI 0, vI 0, vI 0, vI 0])), (q_2, .inr (4, [vI 0, vI 0, vI 0, vI 0]))]) (st' := [vR q_2, vR h]) rfl rfl ?_
  refine g_dup C rfl dX7_init_19 rfl ?_
  refine g_callIN C (b := q_2) (As := []) (wc := [(q_2, .inr (4, [vI 0, vI 0, vI 0, vI 0]))]) (wr := [(h, .inr (8, [vR q_1, .null, .null, vI ln, vI lf])), (q_1, .inr (4, [vI 0, vI 0, vI 0, vI 0]))]) (st := [vR q_2, vR h]) gX7_init_X3_init_n9 nw_X7_9 w_X7_init_ni9 rfl rfl (K_ph_init l E q_2 0 0 0 0 ) hyd_X3_init rfl [2] [0, 1] rfl rfl rfl rfl rfl (by decide) ⟨rfl, rfl⟩ ⟨Nat.le_of_ble_eq_true rfl, Nat.le_of_ble_eq_true rfl, Nat.le_of_ble_eq_true rfl, Nat.le_of_ble_eq_true rfl⟩ (Nat.le_of_ble_eq_true rfl) dX7_init_20 (rfl : _ = 2) (rfl : _ = 8) rfl ?_
  rintro _ _ ⟨rfl, rfl⟩
  refine g_is (ws' := [(h, .inr (8, [vR q_1, .null, .null, vI ln, vI lf])), (q_1, .inr (4, [vI 0, vI 0, vI 0, vI 0])), (q_2, .inr (4, [vI 0, vI 0, vI 0, vI 0]))]) (st' := [vR q_2, vR h]) rfl rfl ?_
  refine g_putF C hmn tyX7 tyX7_ok nmX7 0 fd_X7_init_16 rfl rfl rfl rfl rfl rfl rfl (Nat.le_of_ble_eq_true rfl) (ws' := [(h, .inr (8, [vR q_1, vR q_2, .null, vI ln, vI lf])), (q_1, .inr (4, [vI 0, vI 0, vI 0, vI 0])), (q_2, .inr (4, [vI 0, vI 0, vI 0, vI 0]))]) rfl dX7_init_23 rfl ?_
  refine g_aload_n C 0 rfl dX7_init_26 rfl ?_
  refine g_new C (fs := [vI 0, vI 0, vI 0, vI 0]) tyX3 tyX3_ok in_X7_init_X3 w_X7_init_new7 (ci := 4) rfl (fun j hj => by rcases (show j = 0 ∨ j = 1 ∨ j = 2 ∨ j = 3 by omega) with rfl | rfl | rfl | rfl <;> rfl) (rfl : _ = 3) (rfl : _ = 12) ⟨by decide, Nat.le_of_ble_eq_true rfl⟩ dX7_init_27 rfl (fun q_3 => ?_)
  refine g_is (ws' := [(h, .inr (8, [vR q_1, vR q_2, .null, vI ln, vI lf])), (q_1, .inr (4, [vI 0, vI 0, vI 0, vI 0])), (q_2, .inr (4, [vI 0, vI 0, vI 0, vI 0])), (q_3, .inr (4, [vI 0, vI 0, vI 0, vI 0]))]) (st' := [vR q_3, vR h]) rfl rfl ?_
  refine g_dup C rfl dX7_init_30 rfl ?_
  refine g_callIN C (b := q_3) (As := []) (wc := [(q_3, .inr (4, [vI 0, vI 0, vI 0, vI 0]))]) (wr := [(h, .inr (8, [vR q_1, vR q_2, .null, vI ln, vI lf])), (q_1, .inr (4, [vI 0, vI 0, vI 0, vI 0])), (q_2, .inr (4, [vI 0, vI 0, vI 0, vI 0]))]) (st := [vR q_3, vR h]) gX7_init_X3_init_n9 nw_X7_9 w_X7_init_ni9 rfl rfl (K_ph_init l E q_3 0 0 0 0 ) hyd_X3_init rfl [3] [0, 1, 2] rfl rfl rfl rfl rfl (by decide) ⟨rfl, rfl⟩ ⟨Nat.le_of_ble_eq_true rfl, Nat.le_of_ble_eq_true rfl, Nat.le_of_ble_eq_true rfl, Nat.le_of_ble_eq_true rfl⟩ (Nat.le_of_ble_eq_true rfl) dX7_init_31 (rfl : _ = 3) (rfl : _ = 12) rfl ?_
  rintro _ _ ⟨rfl, rfl⟩
  refine g_is (ws' := [(h, .inr (8, [vR q_1, vR q_2, .null, vI ln, vI lf])), (q_1, .inr (4, [vI 0, vI 0, vI 0, vI 0])), (q_2, .inr (4, [vI 0, vI 0, vI 0, vI 0])), (q_3, .inr (4, [vI 0, vI 0, vI 0, vI 0]))]) (st' := [vR q_3, vR h]) rfl rfl ?_
  refine g_putF C hmn tyX7 tyX7_ok nmX7 0 fd_X7_init_19 rfl rfl rfl rfl rfl rfl rfl (Nat.le_of_ble_eq_true rfl) (ws' := [(h, .inr (8, [vR q_1, vR q_2, vR q_3, vI ln, vI lf])), (q_1, .inr (4, [vI 0, vI 0, vI 0, vI 0])), (q_2, .inr (4, [vI 0, vI 0, vI 0, vI 0])), (q_3, .inr (4, [vI 0, vI 0, vI 0, vI 0]))]) rfl dX7_init_34 rfl ?_
  exact g_vret C hr (Nat.le_of_ble_eq_true rfl) (Nat.le_of_ble_eq_true rfl) dX7_init_37 ⟨q_1, q_2, q_3, rfl, rfl⟩

theorem in_X7_becomeLike_X7 : ∀ w ∈ u_ws RX7 TX7 5, w ∈ wsX7_becomeLike := by decide +kernel
theorem fd_X7_becomeLike_10 : fdk wsX7_becomeLike RX7 10 "ZoneRelay$Signal" RX7 TX7 5 0 := ⟨in_X7_becomeLike_X7, by decide +kernel, by decide, rfl⟩
theorem hyd_X3_becomeLike : yX3_becomeLike.cls ≠ "java/lang/invoke/MethodHandle" ∧ yX3_becomeLike.cls ≠ "java/lang/invoke/VarHandle" ∧ (parseMethodDescriptor yX3_becomeLike.desc).map (fun d => d.parameters.length) = some 1 := by decide +kernel
theorem fd_X7_becomeLike_16 : fdk wsX7_becomeLike RX7 16 "ZoneRelay$Signal" RX7 TX7 5 1 := ⟨in_X7_becomeLike_X7, by decide +kernel, by decide, rfl⟩
theorem fd_X7_becomeLike_19 : fdk wsX7_becomeLike RX7 19 "ZoneRelay$Signal" RX7 TX7 5 2 := ⟨in_X7_becomeLike_X7, by decide +kernel, by decide, rfl⟩
theorem fd_X7_becomeLike_26 : fdk wsX7_becomeLike RX7 26 "ZoneRelay$Signal" RX7 TX7 5 3 := ⟨in_X7_becomeLike_X7, by decide +kernel, by decide, rfl⟩
theorem fd_X7_becomeLike_30 : fdk wsX7_becomeLike RX7 30 "ZoneRelay$Signal" RX7 TX7 5 4 := ⟨in_X7_becomeLike_X7, by decide +kernel, by decide, rfl⟩
abbrev rm_K_sig_like : Room := { frames := 2, cells := 0, slots := 0, locals := 45 }
set_option maxHeartbeats 8000000 in
set_option maxRecDepth 100000 in
theorem K_sig_like (l : Launch) (E : Ev) (h w f t : Nat) (w0 w1 w2 w3 f0 f1 f2 f3 t0 t1 t2 t3 ln lf : Int) (h2 w2_ f2_ t2_ : Nat) (u0 u1 u2 u3 g0 g1 g2 g3 s0 s1 s2 s3 ln2 lf2 : Int)  : Mc l yX7_becomeLike wsX7_becomeLike rm_K_sig_like E [vR h, vR h2] [(h, .inr (8, [vR w, vR f, vR t, vI ln, vI lf])), (w, .inr (4, [vI w0, vI w1, vI w2, vI w3])), (f, .inr (4, [vI f0, vI f1, vI f2, vI f3])), (t, .inr (4, [vI t0, vI t1, vI t2, vI t3])), (h2, .inr (8, [vR w2_, vR f2_, vR t2_, vI ln2, vI lf2])), (w2_, .inr (4, [vI u0, vI u1, vI u2, vI u3])), (f2_, .inr (4, [vI g0, vI g1, vI g2, vI g3])), (t2_, .inr (4, [vI s0, vI s1, vI s2, vI s3]))] 0 0 (fun v9 w9 => v9 = none ∧ w9 = [(h, .inr (8, [vR w, vR f, vR t, vI ln2, vI lf2])), (w, .inr (4, [vI u0, vI u1, vI u2, vI u3])), (f, .inr (4, [vI g0, vI g1, vI g2, vI g3])), (t, .inr (4, [vI s0, vI s1, vI s2, vI s3])), (h2, .inr (8, [vR w2_, vR f2_, vR t2_, vI ln2, vI lf2])), (w2_, .inr (4, [vI u0, vI u1, vI u2, vI u3])), (f2_, .inr (4, [vI g0, vI g1, vI g2, vI g3])), (t2_, .inr (4, [vI s0, vI s1, vI s2, vI s3]))]) := by
  refine Mc.intro (cc := cX7_becomeLike) (maxL := 2) (ret := none) (lv0 := [(0, vR h), (1, vR h2)]) (by decide +kernel) rfl rfl (Nat.le_of_ble_eq_true rfl) ?_
  intro p9 e9 s9 m9 args9 below9 meth9 c9 A9 C hr hmn
  have C : Cx p9 s9 m9 args9 meth9 c9 E A9 2 cX7_becomeLike wsX7_becomeLike RX7 := C
  refine g_aload_n C 0 rfl dX7_becomeLike_0 rfl ?_
  refine g_get C 0 fd_X7_becomeLike_10 rfl rfl rfl dX7_becomeLike_1 rfl ?_
  refine g_aload_n C 1 rfl dX7_becomeLike_4 rfl ?_
  refine g_get C 4 fd_X7_becomeLike_10 rfl rfl rfl dX7_becomeLike_5 rfl ?_
  refine g_callV C (b := w) (As := [vR w2_]) (wc := [(w, .inr (4, [vI w0, vI w1, vI w2, vI w3])), (w2_, .inr (4, [vI u0, vI u1, vI u2, vI u3]))]) (wr := [(h, .inr (8, [vR w, vR f, vR t, vI ln, vI lf])), (f, .inr (4, [vI f0, vI f1, vI f2, vI f3])), (t, .inr (4, [vI t0, vI t1, vI t2, vI t3])), (h2, .inr (8, [vR w2_, vR f2_, vR t2_, vI ln2, vI lf2])), (f2_, .inr (4, [vI g0, vI g1, vI g2, vI g3])), (t2_, .inr (4, [vI s0, vI s1, vI s2, vI s3]))]) (st := []) gX7_becomeLike_X3_becomeLike (q9 := 0) (ci := 4) rfl rfl rfl (K_ph_like l E w w2_ w0 w1 w2 w3 u0 u1 u2 u3 ) hyd_X3_becomeLike rfl [1, 5] [0, 2, 3, 4, 6, 7] rfl rfl rfl rfl rfl (by decide) ⟨rfl, rfl⟩ ⟨Nat.le_of_ble_eq_true rfl, Nat.le_of_ble_eq_true rfl, Nat.le_of_ble_eq_true rfl, Nat.le_of_ble_eq_true rfl⟩ (Nat.le_of_ble_eq_true rfl) dX7_becomeLike_8 (rfl : _ = 0) (rfl : _ = 0) rfl ?_
  rintro _ _ ⟨rfl, rfl⟩
  refine g_is (ws' := [(h, .inr (8, [vR w, vR f, vR t, vI ln, vI lf])), (f, .inr (4, [vI f0, vI f1, vI f2, vI f3])), (t, .inr (4, [vI t0, vI t1, vI t2, vI t3])), (h2, .inr (8, [vR w2_, vR f2_, vR t2_, vI ln2, vI lf2])), (f2_, .inr (4, [vI g0, vI g1, vI g2, vI g3])), (t2_, .inr (4, [vI s0, vI s1, vI s2, vI s3])), (w, .inr (4, [vI u0, vI u1, vI u2, vI u3])), (w2_, .inr (4, [vI u0, vI u1, vI u2, vI u3]))]) (st' := []) rfl rfl ?_
  refine g_sub (ws' := [(h, .inr (8, [vR w, vR f, vR t, vI ln, vI lf])), (w, .inr (4, [vI u0, vI u1, vI u2, vI u3])), (f, .inr (4, [vI f0, vI f1, vI f2, vI f3])), (t, .inr (4, [vI t0, vI t1, vI t2, vI t3])), (h2, .inr (8, [vR w2_, vR f2_, vR t2_, vI ln2, vI lf2])), (w2_, .inr (4, [vI u0, vI u1, vI u2, vI u3])), (f2_, .inr (4, [vI g0, vI g1, vI g2, vI g3])), (t2_, .inr (4, [vI s0, vI s1, vI s2, vI s3]))]) [0, 6, 1, 2, 3, 7, 4, 5] rfl rfl rfl ?_
  refine g_aload_n C 0 rfl dX7_becomeLike_11 rfl ?_
  refine g_get C 0 fd_X7_becomeLike_16 rfl rfl rfl dX7_becomeLike_12 rfl ?_
  refine g_aload_n C 1 rfl dX7_becomeLike_15 rfl ?_
  refine g_get C 4 fd_X7_becomeLike_16 rfl rfl rfl dX7_becomeLike_16 rfl ?_
  refine g_callV C (b := f) (As := [vR f2_]) (wc := [(f, .inr (4, [vI f0, vI f1, vI f2, vI f3])), (f2_, .inr (4, [vI g0, vI g1, vI g2, vI g3]))]) (wr := [(h, .inr (8, [vR w, vR f, vR t, vI ln, vI lf])), (w, .inr (4, [vI u0, vI u1, vI u2, vI u3])), (t, .inr (4, [vI t0, vI t1, vI t2, vI t3])), (h2, .inr (8, [vR w2_, vR f2_, vR t2_, vI ln2, vI lf2])), (w2_, .inr (4, [vI u0, vI u1, vI u2, vI u3])), (t2_, .inr (4, [vI s0, vI s1, vI s2, vI s3]))]) (st := []) gX7_becomeLike_X3_becomeLike (q9 := 0) (ci := 4) rfl rfl rfl (K_ph_like l E f f2_ f0 f1 f2 f3 g0 g1 g2 g3 ) hyd_X3_becomeLike rfl [2, 6] [0, 1, 3, 4, 5, 7] rfl rfl rfl rfl rfl (by decide) ⟨rfl, rfl⟩ ⟨Nat.le_of_ble_eq_true rfl, Nat.le_of_ble_eq_true rfl, Nat.le_of_ble_eq_true rfl, Nat.le_of_ble_eq_true rfl⟩ (Nat.le_of_ble_eq_true rfl) dX7_becomeLike_19 (rfl : _ = 0) (rfl : _ = 0) rfl ?_
  rintro _ _ ⟨rfl, rfl⟩
  refine g_is (ws' := [(h, .inr (8, [vR w, vR f, vR t, vI ln, vI lf])), (w, .inr (4, [vI u0, vI u1, vI u2, vI u3])), (t, .inr (4, [vI t0, vI t1, vI t2, vI t3])), (h2, .inr (8, [vR w2_, vR f2_, vR t2_, vI ln2, vI lf2])), (w2_, .inr (4, [vI u0, vI u1, vI u2, vI u3])), (t2_, .inr (4, [vI s0, vI s1, vI s2, vI s3])), (f, .inr (4, [vI g0, vI g1, vI g2, vI g3])), (f2_, .inr (4, [vI g0, vI g1, vI g2, vI g3]))]) (st' := []) rfl rfl ?_
  refine g_sub (ws' := [(h, .inr (8, [vR w, vR f, vR t, vI ln, vI lf])), (w, .inr (4, [vI u0, vI u1, vI u2, vI u3])), (f, .inr (4, [vI g0, vI g1, vI g2, vI g3])), (t, .inr (4, [vI t0, vI t1, vI t2, vI t3])), (h2, .inr (8, [vR w2_, vR f2_, vR t2_, vI ln2, vI lf2])), (w2_, .inr (4, [vI u0, vI u1, vI u2, vI u3])), (f2_, .inr (4, [vI g0, vI g1, vI g2, vI g3])), (t2_, .inr (4, [vI s0, vI s1, vI s2, vI s3]))]) [0, 1, 6, 2, 3, 4, 7, 5] rfl rfl rfl ?_
  refine g_aload_n C 0 rfl dX7_becomeLike_22 rfl ?_
  refine g_get C 0 fd_X7_becomeLike_19 rfl rfl rfl dX7_becomeLike_23 rfl ?_
  refine g_aload_n C 1 rfl dX7_becomeLike_26 rfl ?_
  refine g_get C 4 fd_X7_becomeLike_19 rfl rfl rfl dX7_becomeLike_27 rfl ?_
  refine g_callV C (b := t) (As := [vR t2_]) (wc := [(t, .inr (4, [vI t0, vI t1, vI t2, vI t3])), (t2_, .inr (4, [vI s0, vI s1, vI s2, vI s3]))]) (wr := [(h, .inr (8, [vR w, vR f, vR t, vI ln, vI lf])), (w, .inr (4, [vI u0, vI u1, vI u2, vI u3])), (f, .inr (4, [vI g0, vI g1, vI g2, vI g3])), (h2, .inr (8, [vR w2_, vR f2_, vR t2_, vI ln2, vI lf2])), (w2_, .inr (4, [vI u0, vI u1, vI u2, vI u3])), (f2_, .inr (4, [vI g0, vI g1, vI g2, vI g3]))]) (st := []) gX7_becomeLike_X3_becomeLike (q9 := 0) (ci := 4) rfl rfl rfl (K_ph_like l E t t2_ t0 t1 t2 t3 s0 s1 s2 s3 ) hyd_X3_becomeLike rfl [3, 7] [0, 1, 2, 4, 5, 6] rfl rfl rfl rfl rfl (by decide) ⟨rfl, rfl⟩ ⟨Nat.le_of_ble_eq_true rfl, Nat.le_of_ble_eq_true rfl, Nat.le_of_ble_eq_true rfl, Nat.le_of_ble_eq_true rfl⟩ (Nat.le_of_ble_eq_true rfl) dX7_becomeLike_30 (rfl : _ = 0) (rfl : _ = 0) rfl ?_
  rintro _ _ ⟨rfl, rfl⟩
  refine g_is (ws' := [(h, .inr (8, [vR w, vR f, vR t, vI ln, vI lf])), (w, .inr (4, [vI u0, vI u1, vI u2, vI u3])), (f, .inr (4, [vI g0, vI g1, vI g2, vI g3])), (h2, .inr (8, [vR w2_, vR f2_, vR t2_, vI ln2, vI lf2])), (w2_, .inr (4, [vI u0, vI u1, vI u2, vI u3])), (f2_, .inr (4, [vI g0, vI g1, vI g2, vI g3])), (t, .inr (4, [vI s0, vI s1, vI s2, vI s3])), (t2_, .inr (4, [vI s0, vI s1, vI s2, vI s3]))]) (st' := []) rfl rfl ?_
  refine g_sub (ws' := [(h, .inr (8, [vR w, vR f, vR t, vI ln, vI lf])), (w, .inr (4, [vI u0, vI u1, vI u2, vI u3])), (f, .inr (4, [vI g0, vI g1, vI g2, vI g3])), (t, .inr (4, [vI s0, vI s1, vI s2, vI s3])), (h2, .inr (8, [vR w2_, vR f2_, vR t2_, vI ln2, vI lf2])), (w2_, .inr (4, [vI u0, vI u1, vI u2, vI u3])), (f2_, .inr (4, [vI g0, vI g1, vI g2, vI g3])), (t2_, .inr (4, [vI s0, vI s1, vI s2, vI s3]))]) [0, 1, 2, 6, 3, 4, 5, 7] rfl rfl rfl ?_
  refine g_aload_n C 0 rfl dX7_becomeLike_33 rfl ?_
  refine g_aload_n C 1 rfl dX7_becomeLike_34 rfl ?_
  refine g_get C 4 fd_X7_becomeLike_26 rfl rfl rfl dX7_becomeLike_35 rfl ?_
  refine g_put C tyX7 tyX7_ok nmX7 0 fd_X7_becomeLike_26 rfl rfl rfl rfl rfl rfl (Nat.le_of_ble_eq_true rfl) (ws' := [(h, .inr (8, [vR w, vR f, vR t, vI ln2, vI lf])), (w, .inr (4, [vI u0, vI u1, vI u2, vI u3])), (f, .inr (4, [vI g0, vI g1, vI g2, vI g3])), (t, .inr (4, [vI s0, vI s1, vI s2, vI s3])), (h2, .inr (8, [vR w2_, vR f2_, vR t2_, vI ln2, vI lf2])), (w2_, .inr (4, [vI u0, vI u1, vI u2, vI u3])), (f2_, .inr (4, [vI g0, vI g1, vI g2, vI g3])), (t2_, .inr (4, [vI s0, vI s1, vI s2, vI s3]))]) rfl dX7_becomeLike_38 rfl ?_
  refine g_aload_n C 0 rfl dX7_becomeLike_41 rfl ?_
  refine g_aload_n C 1 rfl dX7_becomeLike_42 rfl ?_
  refine g_get C 4 fd_X7_becomeLike_30 rfl rfl rfl dX7_becomeLike_43 rfl ?_
  refine g_put C tyX7 tyX7_ok nmX7 0 fd_X7_becomeLike_30 rfl rfl rfl rfl rfl rfl (Nat.le_of_ble_eq_true rfl) (ws' := [(h, .inr (8, [vR w, vR f, vR t, vI ln2, vI lf2])), (w, .inr (4, [vI u0, vI u1, vI u2, vI u3])), (f, .inr (4, [vI g0, vI g1, vI g2, vI g3])), (t, .inr (4, [vI s0, vI s1, vI s2, vI s3])), (h2, .inr (8, [vR w2_, vR f2_, vR t2_, vI ln2, vI lf2])), (w2_, .inr (4, [vI u0, vI u1, vI u2, vI u3])), (f2_, .inr (4, [vI g0, vI g1, vI g2, vI g3])), (t2_, .inr (4, [vI s0, vI s1, vI s2, vI s3]))]) rfl dX7_becomeLike_46 rfl ?_
  exact g_vret C hr (Nat.le_of_ble_eq_true rfl) (Nat.le_of_ble_eq_true rfl) dX7_becomeLike_49 ⟨rfl, rfl⟩

theorem in_X7_endRamp_X7 : ∀ w ∈ u_ws RX7 TX7 5, w ∈ wsX7_endRamp := by decide +kernel
theorem fd_X7_endRamp_30 : fdk wsX7_endRamp RX7 30 "ZoneRelay$Signal" RX7 TX7 5 4 := ⟨in_X7_endRamp_X7, by decide +kernel, by decide, rfl⟩
abbrev rm_K_sig_end : Room := { frames := 0, cells := 0, slots := 0, locals := 0 }
set_option maxHeartbeats 8000000 in
set_option maxRecDepth 100000 in
theorem K_sig_end (l : Launch) (E : Ev) (h w f t : Nat) (ln lf : Int)  : Mc l yX7_endRamp wsX7_endRamp rm_K_sig_end E [vR h] [(h, .inr (8, [vR w, vR f, vR t, vI ln, vI lf]))] 0 0 (fun v9 w9 => v9 = none ∧ w9 = [(h, .inr (8, [vR w, vR f, vR t, vI ln, vI 0]))]) := by
  refine Mc.intro (cc := cX7_endRamp) (maxL := 1) (ret := none) (lv0 := [(0, vR h)]) (by decide +kernel) rfl rfl (Nat.le_of_ble_eq_true rfl) ?_
  intro p9 e9 s9 m9 args9 below9 meth9 c9 A9 C hr hmn
  have C : Cx p9 s9 m9 args9 meth9 c9 E A9 1 cX7_endRamp wsX7_endRamp RX7 := C
  refine g_aload_n C 0 rfl dX7_endRamp_0 rfl ?_
  refine g_iconst C dX7_endRamp_1 rfl ?_
  refine g_put C tyX7 tyX7_ok nmX7 0 fd_X7_endRamp_30 rfl rfl rfl rfl rfl rfl (Nat.le_of_ble_eq_true rfl) (ws' := [(h, .inr (8, [vR w, vR f, vR t, vI ln, vI 0]))]) rfl dX7_endRamp_2 rfl ?_
  exact g_vret C hr (Nat.le_of_ble_eq_true rfl) (Nat.le_of_ble_eq_true rfl) dX7_endRamp_5 ⟨rfl, rfl⟩

theorem in_X7_jumpTo_X7 : ∀ w ∈ u_ws RX7 TX7 5, w ∈ wsX7_jumpTo := by decide +kernel
theorem fd_X7_jumpTo_10 : fdk wsX7_jumpTo RX7 10 "ZoneRelay$Signal" RX7 TX7 5 0 := ⟨in_X7_jumpTo_X7, by decide +kernel, by decide, rfl⟩
theorem hyd_X7_endRamp : yX7_endRamp.cls ≠ "java/lang/invoke/MethodHandle" ∧ yX7_endRamp.cls ≠ "java/lang/invoke/VarHandle" ∧ (parseMethodDescriptor yX7_endRamp.desc).map (fun d => d.parameters.length) = some 0 := by decide +kernel
abbrev rm_K_sig_jump : Room := { frames := 2, cells := 0, slots := 0, locals := 45 }
set_option maxHeartbeats 8000000 in
set_option maxRecDepth 100000 in
theorem K_sig_jump (l : Launch) (E : Ev) (h w f t g : Nat) (w0 w1 w2 w3 g0 g1 g2 g3 ln lf : Int)  : Mc l yX7_jumpTo wsX7_jumpTo rm_K_sig_jump E [vR h, vR g] [(h, .inr (8, [vR w, vR f, vR t, vI ln, vI lf])), (w, .inr (4, [vI w0, vI w1, vI w2, vI w3])), (g, .inr (4, [vI g0, vI g1, vI g2, vI g3]))] 0 0 (fun v9 w9 => v9 = none ∧ w9 = [(h, .inr (8, [vR w, vR f, vR t, vI ln, vI 0])), (w, .inr (4, [vI g0, vI g1, vI g2, vI g3])), (g, .inr (4, [vI g0, vI g1, vI g2, vI g3]))]) := by
  refine Mc.intro (cc := cX7_jumpTo) (maxL := 2) (ret := none) (lv0 := [(0, vR h), (1, vR g)]) (by decide +kernel) rfl rfl (Nat.le_of_ble_eq_true rfl) ?_
  intro p9 e9 s9 m9 args9 below9 meth9 c9 A9 C hr hmn
  have C : Cx p9 s9 m9 args9 meth9 c9 E A9 2 cX7_jumpTo wsX7_jumpTo RX7 := C
  refine g_aload_n C 0 rfl dX7_jumpTo_0 rfl ?_
  refine g_get C 0 fd_X7_jumpTo_10 rfl rfl rfl dX7_jumpTo_1 rfl ?_
  refine g_aload_n C 1 rfl dX7_jumpTo_4 rfl ?_
  refine g_callV C (b := w) (As := [vR g]) (wc := [(w, .inr (4, [vI w0, vI w1, vI w2, vI w3])), (g, .inr (4, [vI g0, vI g1, vI g2, vI g3]))]) (wr := [(h, .inr (8, [vR w, vR f, vR t, vI ln, vI lf]))]) (st := []) gX7_jumpTo_X3_becomeLike (q9 := 0) (ci := 4) rfl rfl rfl (K_ph_like l E w g w0 w1 w2 w3 g0 g1 g2 g3 ) hyd_X3_becomeLike rfl [1, 2] [0] rfl rfl rfl rfl rfl (by decide) ⟨rfl, rfl⟩ ⟨Nat.le_of_ble_eq_true rfl, Nat.le_of_ble_eq_true rfl, Nat.le_of_ble_eq_true rfl, Nat.le_of_ble_eq_true rfl⟩ (Nat.le_of_ble_eq_true rfl) dX7_jumpTo_5 (rfl : _ = 0) (rfl : _ = 0) rfl ?_
  rintro _ _ ⟨rfl, rfl⟩
  refine g_is (ws' := [(h, .inr (8, [vR w, vR f, vR t, vI ln, vI lf])), (w, .inr (4, [vI g0, vI g1, vI g2, vI g3])), (g, .inr (4, [vI g0, vI g1, vI g2, vI g3]))]) (st' := []) rfl rfl ?_
  refine g_aload_n C 0 rfl dX7_jumpTo_8 rfl ?_
  refine g_callV C (b := h) (As := []) (wc := [(h, .inr (8, [vR w, vR f, vR t, vI ln, vI lf]))]) (wr := [(w, .inr (4, [vI g0, vI g1, vI g2, vI g3])), (g, .inr (4, [vI g0, vI g1, vI g2, vI g3]))]) (st := []) gX7_jumpTo_X7_endRamp (q9 := 0) (ci := 8) rfl rfl rfl (K_sig_end l E h w f t ln lf ) hyd_X7_endRamp rfl [0] [1, 2] rfl rfl rfl rfl rfl (by decide) ⟨rfl, rfl⟩ ⟨Nat.le_of_ble_eq_true rfl, Nat.le_of_ble_eq_true rfl, Nat.le_of_ble_eq_true rfl, Nat.le_of_ble_eq_true rfl⟩ (Nat.le_of_ble_eq_true rfl) dX7_jumpTo_9 (rfl : _ = 0) (rfl : _ = 0) rfl ?_
  rintro _ _ ⟨rfl, rfl⟩
  refine g_is (ws' := [(w, .inr (4, [vI g0, vI g1, vI g2, vI g3])), (g, .inr (4, [vI g0, vI g1, vI g2, vI g3])), (h, .inr (8, [vR w, vR f, vR t, vI ln, vI 0]))]) (st' := []) rfl rfl ?_
  refine g_sub (ws' := [(h, .inr (8, [vR w, vR f, vR t, vI ln, vI 0])), (w, .inr (4, [vI g0, vI g1, vI g2, vI g3])), (g, .inr (4, [vI g0, vI g1, vI g2, vI g3]))]) [2, 0, 1] rfl rfl rfl ?_
  exact g_vret C hr (Nat.le_of_ble_eq_true rfl) (Nat.le_of_ble_eq_true rfl) dX7_jumpTo_12 ⟨rfl, rfl⟩

theorem in_X7_beginRamp_X7 : ∀ w ∈ u_ws RX7 TX7 5, w ∈ wsX7_beginRamp := by decide +kernel
theorem fd_X7_beginRamp_16 : fdk wsX7_beginRamp RX7 16 "ZoneRelay$Signal" RX7 TX7 5 1 := ⟨in_X7_beginRamp_X7, by decide +kernel, by decide, rfl⟩
theorem fd_X7_beginRamp_10 : fdk wsX7_beginRamp RX7 10 "ZoneRelay$Signal" RX7 TX7 5 0 := ⟨in_X7_beginRamp_X7, by decide +kernel, by decide, rfl⟩
theorem fd_X7_beginRamp_26 : fdk wsX7_beginRamp RX7 26 "ZoneRelay$Signal" RX7 TX7 5 3 := ⟨in_X7_beginRamp_X7, by decide +kernel, by decide, rfl⟩
theorem fd_X7_beginRamp_30 : fdk wsX7_beginRamp RX7 30 "ZoneRelay$Signal" RX7 TX7 5 4 := ⟨in_X7_beginRamp_X7, by decide +kernel, by decide, rfl⟩
abbrev rm_K_sig_begin : Room := { frames := 2, cells := 0, slots := 0, locals := 45 }
set_option maxHeartbeats 8000000 in
set_option maxRecDepth 100000 in
theorem K_sig_begin (l : Launch) (E : Ev) (h w f t : Nat) (w0 w1 w2 w3 f0 f1 f2 f3 ln lf z : Int)  : Mc l yX7_beginRamp wsX7_beginRamp rm_K_sig_begin E [vR h, vI z] [(h, .inr (8, [vR w, vR f, vR t, vI ln, vI lf])), (w, .inr (4, [vI w0, vI w1, vI w2, vI w3])), (f, .inr (4, [vI f0, vI f1, vI f2, vI f3]))] 0 0 (fun v9 w9 => v9 = none ∧ w9 = [(h, .inr (8, [vR w, vR f, vR t, vI z, vI z])), (w, .inr (4, [vI w0, vI w1, vI w2, vI w3])), (f, .inr (4, [vI w0, vI w1, vI w2, vI w3]))]) := by
  refine Mc.intro (cc := cX7_beginRamp) (maxL := 2) (ret := none) (lv0 := [(0, vR h), (1, vI z)]) (by decide +kernel) rfl rfl (Nat.le_of_ble_eq_true rfl) ?_
  intro p9 e9 s9 m9 args9 below9 meth9 c9 A9 C hr hmn
  have C : Cx p9 s9 m9 args9 meth9 c9 E A9 2 cX7_beginRamp wsX7_beginRamp RX7 := C
  refine g_aload_n C 0 rfl dX7_beginRamp_0 rfl ?_
  refine g_get C 0 fd_X7_beginRamp_16 rfl rfl rfl dX7_beginRamp_1 rfl ?_
  refine g_aload_n C 0 rfl dX7_beginRamp_4 rfl ?_
  refine g_get C 0 fd_X7_beginRamp_10 rfl rfl rfl dX7_beginRamp_5 rfl ?_
  refine g_callV C (b := f) (As := [vR w]) (wc := [(f, .inr (4, [vI f0, vI f1, vI f2, vI f3])), (w, .inr (4, [vI w0, vI w1, vI w2, vI w3]))]) (wr := [(h, .inr (8, [vR w, vR f, vR t, vI ln, vI lf]))]) (st := []) gX7_beginRamp_X3_becomeLike (q9 := 0) (ci := 4) rfl rfl rfl (K_ph_like l E f w f0 f1 f2 f3 w0 w1 w2 w3 ) hyd_X3_becomeLike rfl [2, 1] [0] rfl rfl rfl rfl rfl (by decide) ⟨rfl, rfl⟩ ⟨Nat.le_of_ble_eq_true rfl, Nat.le_of_ble_eq_true rfl, Nat.le_of_ble_eq_true rfl, Nat.le_of_ble_eq_true rfl⟩ (Nat.le_of_ble_eq_true rfl) dX7_beginRamp_8 (rfl : _ = 0) (rfl : _ = 0) rfl ?_
  rintro _ _ ⟨rfl, rfl⟩
  refine g_is (ws' := [(h, .inr (8, [vR w, vR f, vR t, vI ln, vI lf])), (f, .inr (4, [vI w0, vI w1, vI w2, vI w3])), (w, .inr (4, [vI w0, vI w1, vI w2, vI w3]))]) (st' := []) rfl rfl ?_
  refine g_sub (ws' := [(h, .inr (8, [vR w, vR f, vR t, vI ln, vI lf])), (w, .inr (4, [vI w0, vI w1, vI w2, vI w3])), (f, .inr (4, [vI w0, vI w1, vI w2, vI w3]))]) [0, 2, 1] rfl rfl rfl ?_
  refine g_aload_n C 0 rfl dX7_beginRamp_11 rfl ?_
  refine g_iload_n C 1 rfl dX7_beginRamp_12 rfl ?_
  refine g_put C tyX7 tyX7_ok nmX7 0 fd_X7_beginRamp_26 rfl rfl rfl rfl rfl rfl (Nat.le_of_ble_eq_true rfl) (ws' := [(h, .inr (8, [vR w, vR f, vR t, vI z, vI lf])), (w, .inr (4, [vI w0, vI w1, vI w2, vI w3])), (f, .inr (4, [vI w0, vI w1, vI w2, vI w3]))]) rfl dX7_beginRamp_13 rfl ?_
  refine g_aload_n C 0 rfl dX7_beginRamp_16 rfl ?_
  refine g_iload_n C 1 rfl dX7_beginRamp_17 rfl ?_
  refine g_put C tyX7 tyX7_ok nmX7 0 fd_X7_beginRamp_30 rfl rfl rfl rfl rfl rfl (Nat.le_of_ble_eq_true rfl) (ws' := [(h, .inr (8, [vR w, vR f, vR t, vI z, vI z])), (w, .inr (4, [vI w0, vI w1, vI w2, vI w3])), (f, .inr (4, [vI w0, vI w1, vI w2, vI w3]))]) rfl dX7_beginRamp_18 rfl ?_
  exact g_vret C hr (Nat.le_of_ble_eq_true rfl) (Nat.le_of_ble_eq_true rfl) dX7_beginRamp_21 ⟨rfl, rfl⟩

theorem in_X7_onTheWay_X7 : ∀ w ∈ u_ws RX7 TX7 5, w ∈ wsX7_onTheWay := by decide +kernel
theorem fd_X7_onTheWay_26 : fdk wsX7_onTheWay RX7 26 "ZoneRelay$Signal" RX7 TX7 5 3 := ⟨in_X7_onTheWay_X7, by decide +kernel, by decide, rfl⟩
theorem fd_X7_onTheWay_30 : fdk wsX7_onTheWay RX7 30 "ZoneRelay$Signal" RX7 TX7 5 4 := ⟨in_X7_onTheWay_X7, by decide +kernel, by decide, rfl⟩
abbrev rm_K_way : Room := { frames := 0, cells := 0, slots := 0, locals := 0 }
set_option maxHeartbeats 8000000 in
set_option maxRecDepth 100000 in
theorem K_way (l : Launch) (E : Ev) (h w f t : Nat) (ln lf x y : Int) (hl : 1 ≤ ln ∧ ln ≤ 2400) (hf : 0 ≤ lf ∧ lf ≤ ln) (hx : cb x) (hy : cb y) : Mc l yX7_onTheWay wsX7_onTheWay rm_K_way E [vR h, vI x, vI y] [(h, .inr (8, [vR w, vR f, vR t, vI ln, vI lf]))] 0 0 (fun v9 w9 => v9 = some (vI (x + (Int.tdiv ((y - x) * (ln - lf)) ln))) ∧ w9 = [(h, .inr (8, [vR w, vR f, vR t, vI ln, vI lf]))]) := by
  refine Mc.intro (cc := cX7_onTheWay) (maxL := 3) (ret := (some .int)) (lv0 := [(0, vR h), (1, vI x), (2, vI y)]) (by decide +kernel) rfl rfl (Nat.le_of_ble_eq_true rfl) ?_
  intro p9 e9 s9 m9 args9 below9 meth9 c9 A9 C hr hmn
  have C : Cx p9 s9 m9 args9 meth9 c9 E A9 3 cX7_onTheWay wsX7_onTheWay RX7 := C
  refine g_aload_n C 0 rfl dX7_onTheWay_0 rfl ?_
  refine g_get C 0 fd_X7_onTheWay_26 rfl rfl rfl dX7_onTheWay_1 rfl ?_
  refine g_if_gt C (tgt := 11) ⟨by omega, by omega⟩ dX7_onTheWay_4 (by decide) rfl (fun c_1 => ?_) (fun c_1 => ?_)
  · have m1 := mul_b (x := y - x) (y := ln - lf) (A := 40000) (B := 2400) (by omega) (by omega)
    refine g_iload_n C 1 rfl dX7_onTheWay_11 rfl ?_
    refine g_iload_n C 2 rfl dX7_onTheWay_12 rfl ?_
    refine g_iload_n C 1 rfl dX7_onTheWay_13 rfl ?_
    refine g_isub C rfl dX7_onTheWay_14 rfl ?_
    refine g_aload_n C 0 rfl dX7_onTheWay_15 rfl ?_
    refine g_get C 0 fd_X7_onTheWay_26 rfl rfl rfl dX7_onTheWay_16 rfl ?_
    refine g_aload_n C 0 rfl dX7_onTheWay_19 rfl ?_
    refine g_get C 0 fd_X7_onTheWay_30 rfl rfl rfl dX7_onTheWay_20 rfl ?_
    refine g_isub C rfl dX7_onTheWay_23 rfl ?_
    refine g_imul C rfl dX7_onTheWay_24 rfl ?_
    refine g_aload_n C 0 rfl dX7_onTheWay_25 rfl ?_
    refine g_get C 0 fd_X7_onTheWay_26 rfl rfl rfl dX7_onTheWay_26 rfl ?_
    refine g_idiv C ⟨by omega, by omega⟩ ⟨by omega, by omega⟩ (by omega) (by omega) rfl dX7_onTheWay_29 rfl ?_
    refine g_iadd C rfl dX7_onTheWay_30 rfl ?_
    exact g_iret C hr rfl (Nat.le_of_ble_eq_true rfl) (Nat.le_of_ble_eq_true rfl) dX7_onTheWay_31 ⟨rfl, rfl⟩
  exfalso; omega

theorem in_X7_advance_X7 : ∀ w ∈ u_ws RX7 TX7 5, w ∈ wsX7_advance := by decide +kernel
theorem fd_X7_advance_30 : fdk wsX7_advance RX7 30 "ZoneRelay$Signal" RX7 TX7 5 4 := ⟨in_X7_advance_X7, by decide +kernel, by decide, rfl⟩
abbrev rm_K_adv0 : Room := { frames := 0, cells := 0, slots := 0, locals := 0 }
set_option maxHeartbeats 8000000 in
set_option maxRecDepth 100000 in
theorem K_adv0 (l : Launch) (E : Ev) (h w f t : Nat) (w0 w1 w2 w3 f0 f1 f2 f3 t0 t1 t2 t3 ln lf : Int) (hl : lf ≤ 0) (hb : bi lf) : Mc l yX7_advance wsX7_advance rm_K_adv0 E [vR h] [(h, .inr (8, [vR w, vR f, vR t, vI ln, vI lf])), (w, .inr (4, [vI w0, vI w1, vI w2, vI w3])), (f, .inr (4, [vI f0, vI f1, vI f2, vI f3])), (t, .inr (4, [vI t0, vI t1, vI t2, vI t3]))] 0 0 (fun v9 w9 => v9 = none ∧ w9 = [(h, .inr (8, [vR w, vR f, vR t, vI ln, vI lf])), (w, .inr (4, [vI w0, vI w1, vI w2, vI w3])), (f, .inr (4, [vI f0, vI f1, vI f2, vI f3])), (t, .inr (4, [vI t0, vI t1, vI t2, vI t3]))]) := by
  refine Mc.intro (cc := cX7_advance) (maxL := 1) (ret := none) (lv0 := [(0, vR h)]) (by decide +kernel) rfl rfl (Nat.le_of_ble_eq_true rfl) ?_
  intro p9 e9 s9 m9 args9 below9 meth9 c9 A9 C hr hmn
  have C : Cx p9 s9 m9 args9 meth9 c9 E A9 1 cX7_advance wsX7_advance RX7 := C
  refine g_aload_n C 0 rfl dX7_advance_0 rfl ?_
  refine g_get C 0 fd_X7_advance_30 rfl rfl rfl dX7_advance_1 rfl ?_
  refine g_if_gt C (tgt := 8) (hb) dX7_advance_4 (by decide) rfl (fun c_1 => ?_) (fun c_1 => ?_)
  · exfalso; omega
  exact g_vret C hr (Nat.le_of_ble_eq_true rfl) (Nat.le_of_ble_eq_true rfl) dX7_advance_7 ⟨rfl, rfl⟩

theorem fd_X7_advance_10 : fdk wsX7_advance RX7 10 "ZoneRelay$Signal" RX7 TX7 5 0 := ⟨in_X7_advance_X7, by decide +kernel, by decide, rfl⟩
theorem fd_X7_advance_16 : fdk wsX7_advance RX7 16 "ZoneRelay$Signal" RX7 TX7 5 1 := ⟨in_X7_advance_X7, by decide +kernel, by decide, rfl⟩
theorem in_X7_advance_X3 : ∀ w ∈ u_ws RX3 TX3 4, w ∈ wsX7_advance := by decide +kernel
theorem fd_X7_advance_36 : fdk wsX7_advance RX7 36 "ZoneRelay$Phasors" RX3 TX3 4 0 := ⟨in_X7_advance_X3, by decide +kernel, by decide, rfl⟩
theorem fd_X7_advance_19 : fdk wsX7_advance RX7 19 "ZoneRelay$Signal" RX7 TX7 5 2 := ⟨in_X7_advance_X7, by decide +kernel, by decide, rfl⟩
theorem hyd_X7_onTheWay : yX7_onTheWay.cls ≠ "java/lang/invoke/MethodHandle" ∧ yX7_onTheWay.cls ≠ "java/lang/invoke/VarHandle" ∧ (parseMethodDescriptor yX7_onTheWay.desc).map (fun d => d.parameters.length) = some 2 := by decide +kernel
theorem fd_X7_advance_43 : fdk wsX7_advance RX7 43 "ZoneRelay$Phasors" RX3 TX3 4 1 := ⟨in_X7_advance_X3, by decide +kernel, by decide, rfl⟩
theorem fd_X7_advance_46 : fdk wsX7_advance RX7 46 "ZoneRelay$Phasors" RX3 TX3 4 2 := ⟨in_X7_advance_X3, by decide +kernel, by decide, rfl⟩
theorem fd_X7_advance_49 : fdk wsX7_advance RX7 49 "ZoneRelay$Phasors" RX3 TX3 4 3 := ⟨in_X7_advance_X3, by decide +kernel, by decide, rfl⟩
abbrev rm_K_adv1 : Room := { frames := 1, cells := 0, slots := 0, locals := 24 }
set_option maxHeartbeats 8000000 in
set_option maxRecDepth 100000 in
theorem K_adv1 (l : Launch) (E : Ev) (h w f t : Nat) (w0 w1 w2 w3 f0 f1 f2 f3 t0 t1 t2 t3 ln lf : Int) (hl : 1 ≤ ln ∧ ln ≤ 2400) (hf : 1 ≤ lf ∧ lf ≤ ln) (bf0 : cb f0) (bf1 : cb f1) (bf2 : cb f2) (bf3 : cb f3) (bt0 : cb t0) (bt1 : cb t1) (bt2 : cb t2) (bt3 : cb t3) : Mc l yX7_advance wsX7_advance rm_K_adv1 E [vR h] [(h, .inr (8, [vR w, vR f, vR t, vI ln, vI lf])), (w, .inr (4, [vI w0, vI w1, vI w2, vI w3])), (f, .inr (4, [vI f0, vI f1, vI f2, vI f3])), (t, .inr (4, [vI t0, vI t1, vI t2, vI t3]))] 0 0 (fun v9 w9 => v9 = none ∧ w9 = [(h, .inr (8, [vR w, vR f, vR t, vI ln, vI (lf - 1)])), (w, .inr (4, [vI (f0 + (Int.tdiv ((t0 - f0) * (ln - (lf - 1))) ln)), vI (f1 + (Int.tdiv ((t1 - f1) * (ln - (lf - 1))) ln)), vI (f2 + (Int.tdiv ((t2 - f2) * (ln - (lf - 1))) ln)), vI (f3 + (Int.tdiv ((t3 - f3) * (ln - (lf - 1))) ln))])), (f, .inr (4, [vI f0, vI f1, vI f2, vI f3])), (t, .inr (4, [vI t0, vI t1, vI t2, vI t3]))]) := by
  refine Mc.intro (cc := cX7_advance) (maxL := 1) (ret := none) (lv0 := [(0, vR h)]) (by decide +kernel) rfl rfl (Nat.le_of_ble_eq_true rfl) ?_
  intro p9 e9 s9 m9 args9 below9 meth9 c9 A9 C hr hmn
  have C : Cx p9 s9 m9 args9 meth9 c9 E A9 1 cX7_advance wsX7_advance RX7 := C
  refine g_aload_n C 0 rfl dX7_advance_0 rfl ?_
  refine g_get C 0 fd_X7_advance_30 rfl rfl rfl dX7_advance_1 rfl ?_
  refine g_if_gt C (tgt := 8) ⟨by omega, by omega⟩ dX7_advance_4 (by decide) rfl (fun c_1 => ?_) (fun c_1 => ?_)
  · refine g_aload_n C 0 rfl dX7_advance_8 rfl ?_
    refine g_dup C rfl dX7_advance_9 rfl ?_
    refine g_get C 0 fd_X7_advance_30 rfl rfl rfl dX7_advance_10 rfl ?_
    refine g_iconst C dX7_advance_13 rfl ?_
    refine g_isub C rfl dX7_advance_14 rfl ?_
    refine g_put C tyX7 tyX7_ok nmX7 0 fd_X7_advance_30 rfl rfl rfl rfl rfl rfl (Nat.le_of_ble_eq_true rfl) (ws' := [(h, .inr (8, [vR w, vR f, vR t, vI ln, vI (lf - 1)])), (w, .inr (4, [vI w0, vI w1, vI w2, vI w3])), (f, .inr (4, [vI f0, vI f1, vI f2, vI f3])), (t, .inr (4, [vI t0, vI t1, vI t2, vI t3]))]) rfl dX7_advance_15 rfl ?_
    refine g_aload_n C 0 rfl dX7_advance_18 rfl ?_
    refine g_get C 0 fd_X7_advance_10 rfl rfl rfl dX7_advance_19 rfl ?_
    refine g_aload_n C 0 rfl dX7_advance_22 rfl ?_
    refine g_aload_n C 0 rfl dX7_advance_23 rfl ?_
    refine g_get C 0 fd_X7_advance_16 rfl rfl rfl dX7_advance_24 rfl ?_
    refine g_get C 2 fd_X7_advance_36 rfl rfl rfl dX7_advance_27 rfl ?_
    refine g_aload_n C 0 rfl dX7_advance_30 rfl ?_
    refine g_get C 0 fd_X7_advance_19 rfl rfl rfl dX7_advance_31 rfl ?_
    refine g_get C 3 fd_X7_advance_36 rfl rfl rfl dX7_advance_34 rfl ?_
    refine g_callV C (b := h) (As := [vI f0, vI t0]) (wc := [(h, .inr (8, [vR w, vR f, vR t, vI ln, vI (lf - 1)]))]) (wr := [(w, .inr (4, [vI w0, vI w1, vI w2, vI w3])), (f, .inr (4, [vI f0, vI f1, vI f2, vI f3])), (t, .inr (4, [vI t0, vI t1, vI t2, vI t3]))]) (st := [vR w]) gX7_advance_X7_onTheWay (q9 := 0) (ci := 8) rfl rfl rfl (K_way l E h w f t ln (lf - 1) f0 t0 hl (by first | assumption | omega) bf0 bt0) hyd_X7_onTheWay rfl [0] [1, 2, 3] rfl rfl rfl rfl rfl (by decide) ⟨rfl, rfl⟩ ⟨Nat.le_of_ble_eq_true rfl, Nat.le_of_ble_eq_true rfl, Nat.le_of_ble_eq_true rfl, Nat.le_of_ble_eq_true rfl⟩ (Nat.le_of_ble_eq_true rfl) dX7_advance_37 (rfl : _ = 0) (rfl : _ = 0) rfl ?_
    rintro _ _ ⟨rfl, rfl⟩
    refine g_is (ws' := [(w, .inr (4, [vI w0, vI w1, vI w2, vI w3])), (f, .inr (4, [vI f0, vI f1, vI f2, vI f3])), (t, .inr (4, [vI t0, vI t1, vI t2, vI t3])), (h, .inr (8, [vR w, vR f, vR t, vI ln, vI (lf - 1)]))]) (st' := [vI (f0 + (Int.tdiv ((t0 - f0) * (ln - (lf - 1))) ln)), vR w]) rfl rfl ?_
    refine g_sub (ws' := [(h, .inr (8, [vR w, vR f, vR t, vI ln, vI (lf - 1)])), (w, .inr (4, [vI w0, vI w1, vI w2, vI w3])), (f, .inr (4, [vI f0, vI f1, vI f2, vI f3])), (t, .inr (4, [vI t0, vI t1, vI t2, vI t3]))]) [3, 0, 1, 2] rfl rfl rfl ?_
    refine g_aload_n C 0 rfl dX7_advance_40 rfl ?_
    refine g_aload_n C 0 rfl dX7_advance_41 rfl ?_
    refine g_get C 0 fd_X7_advance_16 rfl rfl rfl dX7_advance_42 rfl ?_
    refine g_get C 2 fd_X7_advance_43 rfl rfl rfl dX7_advance_45 rfl ?_
    refine g_aload_n C 0 rfl dX7_advance_48 rfl ?_
    refine g_get C 0 fd_X7_advance_19 rfl rfl rfl dX7_advance_49 rfl ?_
    refine g_get C 3 fd_X7_advance_43 rfl rfl rfl dX7_advance_52 rfl ?_
    refine g_callV C (b := h) (As := [vI f1, vI t1]) (wc := [(h, .inr (8, [vR w, vR f, vR t, vI ln, vI (lf - 1)]))]) (wr := [(w, .inr (4, [vI w0, vI w1, vI w2, vI w3])), (f, .inr (4, [vI f0, vI f1, vI f2, vI f3])), (t, .inr (4, [vI t0, vI t1, vI t2, vI t3]))]) (st := [vI (f0 + (Int.tdiv ((t0 - f0) * (ln - (lf - 1))) ln)), vR w]) gX7_advance_X7_onTheWay (q9 := 0) (ci := 8) rfl rfl rfl (K_way l E h w f t ln (lf - 1) f1 t1 hl (by first | assumption | omega) bf1 bt1) hyd_X7_onTheWay rfl [0] [1, 2, 3] rfl rfl rfl rfl rfl (by decide) ⟨rfl, rfl⟩ ⟨Nat.le_of_ble_eq_true rfl, Nat.le_of_ble_eq_true rfl, Nat.le_of_ble_eq_true rfl, Nat.le_of_ble_eq_true rfl⟩ (Nat.le_of_ble_eq_true rfl) dX7_advance_55 (rfl : _ = 0) (rfl : _ = 0) rfl ?_
    rintro _ _ ⟨rfl, rfl⟩
    refine g_is (ws' := [(w, .inr (4, [vI w0, vI w1, vI w2, vI w3])), (f, .inr (4, [vI f0, vI f1, vI f2, vI f3])), (t, .inr (4, [vI t0, vI t1, vI t2, vI t3])), (h, .inr (8, [vR w, vR f, vR t, vI ln, vI (lf - 1)]))]) (st' := [vI (f1 + (Int.tdiv ((t1 - f1) * (ln - (lf - 1))) ln)), vI (f0 + (Int.tdiv ((t0 - f0) * (ln - (lf - 1))) ln)), vR w]) rfl rfl ?_
    refine g_sub (ws' := [(h, .inr (8, [vR w, vR f, vR t, vI ln, vI (lf - 1)])), (w, .inr (4, [vI w0, vI w1, vI w2, vI w3])), (f, .inr (4, [vI f0, vI f1, vI f2, vI f3])), (t, .inr (4, [vI t0, vI t1, vI t2, vI t3]))]) [3, 0, 1, 2] rfl rfl rfl ?_
    refine g_aload_n C 0 rfl dX7_advance_58 rfl ?_
    refine g_aload_n C 0 rfl dX7_advance_59 rfl ?_
    refine g_get C 0 fd_X7_advance_16 rfl rfl rfl dX7_advance_60 rfl ?_
    refine g_get C 2 fd_X7_advance_46 rfl rfl rfl dX7_advance_63 rfl ?_
    refine g_aload_n C 0 rfl dX7_advance_66 rfl ?_
    refine g_get C 0 fd_X7_advance_19 rfl rfl rfl dX7_advance_67 rfl ?_
    refine g_get C 3 fd_X7_advance_46 rfl rfl rfl dX7_advance_70 rfl ?_
    refine g_callV C (b := h) (As := [vI f2, vI t2]) (wc := [(h, .inr (8, [vR w, vR f, vR t, vI ln, vI (lf - 1)]))]) (wr := [(w, .inr (4, [vI w0, vI w1, vI w2, vI w3])), (f, .inr (4, [vI f0, vI f1, vI f2, vI f3])), (t, .inr (4, [vI t0, vI t1, vI t2, vI t3]))]) (st := [vI (f1 + (Int.tdiv ((t1 - f1) * (ln - (lf - 1))) ln)), vI (f0 + (Int.tdiv ((t0 - f0) * (ln - (lf - 1))) ln)), vR w]) gX7_advance_X7_onTheWay (q9 := 0) (ci := 8) rfl rfl rfl (K_way l E h w f t ln (lf - 1) f2 t2 hl (by first | assumption | omega) bf2 bt2) hyd_X7_onTheWay rfl [0] [1, 2, 3] rfl rfl rfl rfl rfl (by decide) ⟨rfl, rfl⟩ ⟨Nat.le_of_ble_eq_true rfl, Nat.le_of_ble_eq_true rfl, Nat.le_of_ble_eq_true rfl, Nat.le_of_ble_eq_true rfl⟩ (Nat.le_of_ble_eq_true rfl) dX7_advance_73 (rfl : _ = 0) (rfl : _ = 0) rfl ?_
    rintro _ _ ⟨rfl, rfl⟩
    refine g_is (ws' := [(w, .inr (4, [vI w0, vI w1, vI w2, vI w3])), (f, .inr (4, [vI f0, vI f1, vI f2, vI f3])), (t, .inr (4, [vI t0, vI t1, vI t2, vI t3])), (h, .inr (8, [vR w, vR f, vR t, vI ln, vI (lf - 1)]))]) (st' := [vI (f2 + (Int.tdiv ((t2 - f2) * (ln - (lf - 1))) ln)), vI (f1 + (Int.tdiv ((t1 - f1) * (ln - (lf - 1))) ln)), vI (f0 + (Int.tdiv ((t0 - f0) * (ln - (lf - 1))) ln)), vR w]) rfl rfl ?_
    refine g_sub (ws' := [(h, .inr (8, [vR w, vR f, vR t, vI ln, vI (lf - 1)])), (w, .inr (4, [vI w0, vI w1, vI w2, vI w3])), (f, .inr (4, [vI f0, vI f1, vI f2, vI f3])), (t, .inr (4, [vI t0, vI t1, vI t2, vI t3]))]) [3, 0, 1, 2] rfl rfl rfl ?_
    refine g_aload_n C 0 rfl dX7_advance_76 rfl ?_
    refine g_aload_n C 0 rfl dX7_advance_77 rfl ?_
    refine g_get C 0 fd_X7_advance_16 rfl rfl rfl dX7_advance_78 rfl ?_
    refine g_get C 2 fd_X7_advance_49 rfl rfl rfl dX7_advance_81 rfl ?_
    refine g_aload_n C 0 rfl dX7_advance_84 rfl ?_
    refine g_get C 0 fd_X7_advance_19 rfl rfl rfl dX7_advance_85 rfl ?_
    refine g_get C 3 fd_X7_advance_49 rfl rfl rfl dX7_advance_88 rfl ?_
    refine g_callV C (b := h) (As := [vI f3, vI t3]) (wc := [(h, .inr (8, [vR w, vR f, vR t, vI ln, vI (lf - 1)]))]) (wr := [(w, .inr (4, [vI w0, vI w1, vI w2, vI w3])), (f, .inr (4, [vI f0, vI f1, vI f2, vI f3])), (t, .inr (4, [vI t0, vI t1, vI t2, vI t3]))]) (st := [vI (f2 + (Int.tdiv ((t2 - f2) * (ln - (lf - 1))) ln)), vI (f1 + (Int.tdiv ((t1 - f1) * (ln - (lf - 1))) ln)), vI (f0 + (Int.tdiv ((t0 - f0) * (ln - (lf - 1))) ln)), vR w]) gX7_advance_X7_onTheWay (q9 := 0) (ci := 8) rfl rfl rfl (K_way l E h w f t ln (lf - 1) f3 t3 hl (by first | assumption | omega) bf3 bt3) hyd_X7_onTheWay rfl [0] [1, 2, 3] rfl rfl rfl rfl rfl (by decide) ⟨rfl, rfl⟩ ⟨Nat.le_of_ble_eq_true rfl, Nat.le_of_ble_eq_true rfl, Nat.le_of_ble_eq_true rfl, Nat.le_of_ble_eq_true rfl⟩ (Nat.le_of_ble_eq_true rfl) dX7_advance_91 (rfl : _ = 0) (rfl : _ = 0) rfl ?_
    rintro _ _ ⟨rfl, rfl⟩
    refine g_is (ws' := [(w, .inr (4, [vI w0, vI w1, vI w2, vI w3])), (f, .inr (4, [vI f0, vI f1, vI f2, vI f3])), (t, .inr (4, [vI t0, vI t1, vI t2, vI t3])), (h, .inr (8, [vR w, vR f, vR t, vI ln, vI (lf - 1)]))]) (st' := [vI (f3 + (Int.tdiv ((t3 - f3) * (ln - (lf - 1))) ln)), vI (f2 + (Int.tdiv ((t2 - f2) * (ln - (lf - 1))) ln)), vI (f1 + (Int.tdiv ((t1 - f1) * (ln - (lf - 1))) ln)), vI (f0 + (Int.tdiv ((t0 - f0) * (ln - (lf - 1))) ln)), vR w]) rfl rfl ?_
    refine g_sub (ws' := [(h, .inr (8, [vR w, vR f, vR t, vI ln, vI (lf - 1)])), (w, .inr (4, [vI w0, vI w1, vI w2, vI w3])), (f, .inr (4, [vI f0, vI f1, vI f2, vI f3])), (t, .inr (4, [vI t0, vI t1, vI t2, vI t3]))]) [3, 0, 1, 2] rfl rfl rfl ?_
    refine g_callV C (b := w) (As := [vI (f0 + (Int.tdiv ((t0 - f0) * (ln - (lf - 1))) ln)), vI (f1 + (Int.tdiv ((t1 - f1) * (ln - (lf - 1))) ln)), vI (f2 + (Int.tdiv ((t2 - f2) * (ln - (lf - 1))) ln)), vI (f3 + (Int.tdiv ((t3 - f3) * (ln - (lf - 1))) ln))]) (wc := [(w, .inr (4, [vI w0, vI w1, vI w2, vI w3]))]) (wr := [(h, .inr (8, [vR w, vR f, vR t, vI ln, vI (lf - 1)])), (f, .inr (4, [vI f0, vI f1, vI f2, vI f3])), (t, .inr (4, [vI t0, vI t1, vI t2, vI t3]))]) (st := []) gX7_advance_X3_put (q9 := 0) (ci := 4) rfl rfl rfl (K_ph_put l E w w0 w1 w2 w3 (f0 + (Int.tdiv ((t0 - f0) * (ln - (lf - 1))) ln)) (f1 + (Int.tdiv ((t1 - f1) * (ln - (lf - 1))) ln)) (f2 + (Int.tdiv ((t2 - f2) * (ln - (lf - 1))) ln)) (f3 + (Int.tdiv ((t3 - f3) * (ln - (lf - 1))) ln)) ) hyd_X3_put rfl [1] [0, 2, 3] rfl rfl rfl rfl rfl (by decide) ⟨rfl, rfl⟩ ⟨Nat.le_of_ble_eq_true rfl, Nat.le_of_ble_eq_true rfl, Nat.le_of_ble_eq_true rfl, Nat.le_of_ble_eq_true rfl⟩ (Nat.le_of_ble_eq_true rfl) dX7_advance_94 (rfl : _ = 0) (rfl : _ = 0) rfl ?_
    rintro _ _ ⟨rfl, rfl⟩
    refine g_is (ws' := [(h, .inr (8, [vR w, vR f, vR t, vI ln, vI (lf - 1)])), (f, .inr (4, [vI f0, vI f1, vI f2, vI f3])), (t, .inr (4, [vI t0, vI t1, vI t2, vI t3])), (w, .inr (4, [vI (f0 + (Int.tdiv ((t0 - f0) * (ln - (lf - 1))) ln)), vI (f1 + (Int.tdiv ((t1 - f1) * (ln - (lf - 1))) ln)), vI (f2 + (Int.tdiv ((t2 - f2) * (ln - (lf - 1))) ln)), vI (f3 + (Int.tdiv ((t3 - f3) * (ln - (lf - 1))) ln))]))]) (st' := []) rfl rfl ?_
    refine g_sub (ws' := [(h, .inr (8, [vR w, vR f, vR t, vI ln, vI (lf - 1)])), (w, .inr (4, [vI (f0 + (Int.tdiv ((t0 - f0) * (ln - (lf - 1))) ln)), vI (f1 + (Int.tdiv ((t1 - f1) * (ln - (lf - 1))) ln)), vI (f2 + (Int.tdiv ((t2 - f2) * (ln - (lf - 1))) ln)), vI (f3 + (Int.tdiv ((t3 - f3) * (ln - (lf - 1))) ln))])), (f, .inr (4, [vI f0, vI f1, vI f2, vI f3])), (t, .inr (4, [vI t0, vI t1, vI t2, vI t3]))]) [0, 3, 1, 2] rfl rfl rfl ?_
    exact g_vret C hr (Nat.le_of_ble_eq_true rfl) (Nat.le_of_ble_eq_true rfl) dX7_advance_97 ⟨rfl, rfl⟩
  exfalso; omega

theorem w_X8_init_oi : Cond.methodLink RX8 3 Lib.objectInit ∈ wsX8_init ∧ Cond.instanceMethod Lib.objectInit ∈ wsX8_init ∧ Cond.code Lib.objectInit ⟨#[0xb1]⟩ 1 none ∈ wsX8_init := ⟨by decide +kernel, by decide +kernel, by decide +kernel⟩
theorem w_X8_init_aci : Cond.arrayClass .int ∈ wsX8_init := by decide +kernel
theorem in_X8_init_X8 : ∀ w ∈ u_ws RX8 TX8 3, w ∈ wsX8_init := by decide +kernel
theorem fd_X8_init_9 : fdk wsX8_init RX8 9 "ZoneRelay$Window" RX8 TX8 3 0 := ⟨in_X8_init_X8, by decide +kernel, by decide, rfl⟩
abbrev rm_K_win_init : Room := { frames := 1, cells := 1, slots := 24, locals := 12 }
set_option maxHeartbeats 8000000 in
set_option maxRecDepth 100000 in
theorem K_win_init (l : Launch) (E : Ev) (h : Nat) (cs ss : Int)  : Mc l yX8_init wsX8_init rm_K_win_init E [vR h] [(h, .inr (9, [.null, vL cs, vL ss]))] 1 24 (fun v9 w9 => ∃ (q : Nat), v9 = none ∧ w9 = [(h, .inr (9, [vR q, vL cs, vL ss])), (q, cI E 24 (fun _ => 0))]) := by
  refine Mc.intro (cc := cX8_init) (maxL := 1) (ret := none) (lv0 := [(0, vR h)]) (by decide +kernel) rfl rfl (Nat.le_of_ble_eq_true rfl) ?_
  intro p9 e9 s9 m9 args9 below9 meth9 c9 A9 C hr hmn
  have C : Cx p9 s9 m9 args9 meth9 c9 E A9 1 cX8_init wsX8_init RX8 := C
  refine g_aload_n C 0 rfl dX8_init_0 rfl ?_
  refine g_objInit C w_X8_init_oi ⟨Nat.le_of_ble_eq_true rfl, Nat.le_of_ble_eq_true rfl⟩ dX8_init_1 rfl ?_
  refine g_aload_n C 0 rfl dX8_init_4 rfl ?_
  refine g_bipush C (by decide) dX8_init_5 rfl ?_
  refine g_newai C (N := 24) (by decide) rfl (by decide) (rfl : _ = 1) (rfl : _ = 24) ⟨by decide, Nat.le_of_ble_eq_true rfl⟩ w_X8_init_aci dX8_init_7 rfl (fun q_1 => ?_)
  refine g_is (ws' := [(h, .inr (9, [.null, vL cs, vL ss])), (q_1, cI E 24 (fun _ => 0))]) (st' := [vR q_1, vR h]) rfl rfl ?_
  refine g_putF C hmn tyX8 tyX8_ok nmX8 0 fd_X8_init_9 rfl rfl rfl rfl rfl rfl rfl (Nat.le_of_ble_eq_true rfl) (ws' := [(h, .inr (9, [vR q_1, vL cs, vL ss])), (q_1, cI E 24 (fun _ => 0))]) rfl dX8_init_9 rfl ?_
  exact g_vret C hr (Nat.le_of_ble_eq_true rfl) (Nat.le_of_ble_eq_true rfl) dX8_init_12 ⟨q_1, rfl, rfl⟩

theorem in_X8_becomeLike_X8 : ∀ w ∈ u_ws RX8 TX8 3, w ∈ wsX8_becomeLike := by decide +kernel
theorem fd_X8_becomeLike_9 : fdk wsX8_becomeLike RX8 9 "ZoneRelay$Window" RX8 TX8 3 0 := ⟨in_X8_becomeLike_X8, by decide +kernel, by decide, rfl⟩
theorem w_X8_becomeLike_ac15 : Cond.methodLink RX8 15 arraycopyName ∈ wsX8_becomeLike ∧ Cond.native arraycopyName ∈ wsX8_becomeLike ∧ Cond.static arraycopyName ∈ wsX8_becomeLike ∧ Cond.initialized "java/lang/System" ∈ wsX8_becomeLike := ⟨by decide +kernel, by decide +kernel, by decide +kernel, by decide +kernel⟩
theorem fd_X8_becomeLike_21 : fdk wsX8_becomeLike RX8 21 "ZoneRelay$Window" RX8 TX8 3 1 := ⟨in_X8_becomeLike_X8, by decide +kernel, by decide, rfl⟩
theorem fd_X8_becomeLike_25 : fdk wsX8_becomeLike RX8 25 "ZoneRelay$Window" RX8 TX8 3 2 := ⟨in_X8_becomeLike_X8, by decide +kernel, by decide, rfl⟩
abbrev rm_K_win_like : Room := { frames := 1, cells := 0, slots := 0, locals := 60 }
set_option maxHeartbeats 8000000 in
set_option maxRecDepth 100000 in
theorem K_win_like (l : Launch) (E : Ev) (h q g q2 : Nat) (w w2 : Int → Int) (cs ss cs2 ss2 : Int)  : Mc l yX8_becomeLike wsX8_becomeLike rm_K_win_like E [vR h, vR g] [(h, .inr (9, [vR q, vL cs, vL ss])), (q, cI E 24 w), (g, .inr (9, [vR q2, vL cs2, vL ss2])), (q2, cI E 24 w2)] 0 0 (fun v9 w9 => v9 = none ∧ w9 = [(h, .inr (9, [vR q, vL cs2, vL ss2])), (q, cI E 24 w2), (g, .inr (9, [vR q2, vL cs2, vL ss2])), (q2, cI E 24 w2)]) := by
  refine Mc.intro (cc := cX8_becomeLike) (maxL := 2) (ret := none) (lv0 := [(0, vR h), (1, vR g)]) (by decide +kernel) rfl rfl (Nat.le_of_ble_eq_true rfl) ?_
  intro p9 e9 s9 m9 args9 below9 meth9 c9 A9 C hr hmn
  have C : Cx p9 s9 m9 args9 meth9 c9 E A9 2 cX8_becomeLike wsX8_becomeLike RX8 := C
  refine g_aload_n C 1 rfl dX8_becomeLike_0 rfl ?_
  refine g_get C 2 fd_X8_becomeLike_9 rfl rfl rfl dX8_becomeLike_1 rfl ?_
  refine g_iconst C dX8_becomeLike_4 rfl ?_
  refine g_aload_n C 0 rfl dX8_becomeLike_5 rfl ?_
  refine g_get C 0 fd_X8_becomeLike_9 rfl rfl rfl dX8_becomeLike_6 rfl ?_
  refine g_iconst C dX8_becomeLike_9 rfl ?_
  refine g_bipush C (by decide) dX8_becomeLike_10 rfl ?_
  refine g_copy C 3 1 0 rfl rfl rfl rfl (by decide) (by decide) (by decide) (by decide) (by decide) (by decide) (fun _ _ => rfl) w_X8_becomeLike_ac15 ⟨Nat.le_of_ble_eq_true rfl, Nat.le_of_ble_eq_true rfl⟩ (ws' := [(h, .inr (9, [vR q, vL cs, vL ss])), (q, cI E 24 (cpyT w2 w 0 0 24)), (g, .inr (9, [vR q2, vL cs2, vL ss2])), (q2, cI E 24 w2)]) rfl dX8_becomeLike_12 rfl ?_
  refine g_aload_n C 0 rfl dX8_becomeLike_15 rfl ?_
  refine g_aload_n C 1 rfl dX8_becomeLike_16 rfl ?_
  refine g_get C 2 fd_X8_becomeLike_21 rfl rfl rfl dX8_becomeLike_17 rfl ?_
  refine g_put C tyX8 tyX8_ok nmX8 0 fd_X8_becomeLike_21 rfl rfl rfl rfl rfl rfl (Nat.le_of_ble_eq_true rfl) (ws' := [(h, .inr (9, [vR q, vL cs2, vL ss])), (q, cI E 24 (cpyT w2 w 0 0 24)), (g, .inr (9, [vR q2, vL cs2, vL ss2])), (q2, cI E 24 w2)]) rfl dX8_becomeLike_20 rfl ?_
  refine g_aload_n C 0 rfl dX8_becomeLike_23 rfl ?_
  refine g_aload_n C 1 rfl dX8_becomeLike_24 rfl ?_
  refine g_get C 2 fd_X8_becomeLike_25 rfl rfl rfl dX8_becomeLike_25 rfl ?_
  refine g_put C tyX8 tyX8_ok nmX8 0 fd_X8_becomeLike_25 rfl rfl rfl rfl rfl rfl (Nat.le_of_ble_eq_true rfl) (ws' := [(h, .inr (9, [vR q, vL cs2, vL ss2])), (q, cI E 24 (cpyT w2 w 0 0 24)), (g, .inr (9, [vR q2, vL cs2, vL ss2])), (q2, cI E 24 w2)]) rfl dX8_becomeLike_28 rfl ?_
  refine g_ws (ws' := [(h, .inr (9, [vR q, vL cs2, vL ss2])), (q, cI E 24 w2), (g, .inr (9, [vR q2, vL cs2, vL ss2])), (q2, cI E 24 w2)]) (congrArg (fun z_ : Nat → Int32 => ([(h, .inr (9, [vR q, vL cs2, vL ss2])), (q, .inl (E.2.1 0, 24, .inl z_)), (g, .inr (9, [vR q2, vL cs2, vL ss2])), (q2, cI E 24 w2)] : va_W)) (show AI 24 w2 = AI 24 (cpyT w2 w 0 0 24) from AI_c (fun k_ k0_ k1_ => by exact cpyT_f k0_ k1_))) ?_
  exact g_vret C hr (Nat.le_of_ble_eq_true rfl) (Nat.le_of_ble_eq_true rfl) dX8_becomeLike_31 ⟨rfl, rfl⟩

theorem in_X8_take_X8 : ∀ w ∈ u_ws RX8 TX8 3, w ∈ wsX8_take := by decide +kernel
theorem fd_X8_take_9 : fdk wsX8_take RX8 9 "ZoneRelay$Window" RX8 TX8 3 0 := ⟨in_X8_take_X8, by decide +kernel, by decide, rfl⟩
theorem fd_X8_take_21 : fdk wsX8_take RX8 21 "ZoneRelay$Window" RX8 TX8 3 1 := ⟨in_X8_take_X8, by decide +kernel, by decide, rfl⟩
theorem fd_X8_take_25 : fdk wsX8_take RX8 25 "ZoneRelay$Window" RX8 TX8 3 2 := ⟨in_X8_take_X8, by decide +kernel, by decide, rfl⟩
abbrev rm_K_win_take : Room := { frames := 1, cells := 0, slots := 0, locals := 22 }
set_option maxHeartbeats 8000000 in
set_option maxRecDepth 100000 in
theorem K_win_take (l : Launch) (E : Ev) (h q : Nat) (w : Int → Int) (tm a b : Int) (ht : 0 ≤ tm ∧ tm < 2000000000) (ha : cb a) (hb : cb b) (hw : ∀ k : Int, 0 ≤ k → k < 24 → -40000 ≤ w k ∧ w k ≤ 40000) : Mc l yX8_take wsX8_take rm_K_win_take E [vR h, vI tm, vI a, vI b] [(h, .inr (9, [vR q, vL (wsum w cosT 24), vL (wsum w sinT 24)])), (q, cI E 24 w)] 0 0 (fun v9 w9 => v9 = none ∧ w9 = [(h, .inr (9, [vR q, vL (wsum (ua w (Int.tmod tm 24) (smpF tm a b)) cosT 24), vL (wsum (ua w (Int.tmod tm 24) (smpF tm a b)) sinT 24)])), (q, cI E 24 (ua w (Int.tmod tm 24) (smpF tm a b)))]) := by
  refine Mc.intro (cc := cX8_take) (maxL := 10) (ret := none) (lv0 := [(0, vR h), (1, vI tm), (2, vI a), (3, vI b)]) (by decide +kernel) rfl rfl (Nat.le_of_ble_eq_true rfl) ?_
  intro p9 e9 s9 m9 args9 below9 meth9 c9 A9 C hr hmn
  have C : Cx p9 s9 m9 args9 meth9 c9 E A9 10 cX8_take wsX8_take RX8 := C
  refine g_iload_n C 1 rfl dX8_take_0 rfl ?_
  refine g_bipush C (by decide) dX8_take_1 rfl ?_
  refine g_callS C (As := [vI tm, vI 24]) (wc := []) (wr := [(h, .inr (9, [vR q, vL (wsum w cosT 24), vL (wsum w sinT 24)])), (q, cI E 24 w)]) (st := []) gX8_take_J9_floorMod_7cf53 rfl (K_floorMod l E tm 24 (by first | assumption | omega) (by decide)) hyd_J9_floorMod_7cf53 rfl [] [0, 1] rfl rfl rfl rfl rfl (by decide) ⟨rfl, rfl⟩ ⟨Nat.le_of_ble_eq_true rfl, Nat.le_of_ble_eq_true rfl, Nat.le_of_ble_eq_true rfl, Nat.le_of_ble_eq_true rfl⟩ (Nat.le_of_ble_eq_true rfl) dX8_take_3 (rfl : _ = 0) (rfl : _ = 0) rfl ?_
  rintro _ _ ⟨rfl, rfl⟩
  refine g_is (ws' := [(h, .inr (9, [vR q, vL (wsum w cosT 24), vL (wsum w sinT 24)])), (q, cI E 24 w)]) (st' := [vI (Int.tmod tm 24)]) rfl rfl ?_
  have htr := tmod_r (a := tm) (b := 24) (by omega) (by decide)
  have ht2 := tmod_r (a := Int.tmod tm 24 + 18) (b := 24) (by omega) (by decide)
  have c1 := cosT_b (Int.tmod tm 24)
  have c2 : -4096 ≤ sinT (Int.tmod tm 24) ∧ sinT (Int.tmod tm 24) ≤ 4096 := cosT_b _
  have m1 := mul_b (x := a) (y := cosT (Int.tmod tm 24)) (A := 20000) (B := 4096) ha c1
  have m2 := mul_b (x := b) (y := sinT (Int.tmod tm 24)) (A := 20000) (B := 4096) hb c2
  have w1 := hw (Int.tmod tm 24) (by omega) (by omega)
  refine g_istore C (lv' := [(0, vR h), (1, vI tm), (2, vI a), (3, vI b), (4, vI (Int.tmod tm 24))]) [1, 2, 3, 4, 0] (by decide) rfl rfl dX8_take_6 rfl ?_
  refine g_getsN C C.2.2.1.1.1 (C.2.1.2.1 (.fieldLinkNest RX8 34 RX10 "COSINE" "[I" RX10) (by decide +kernel)) dX8_take_8 rfl ?_
  refine g_iload C 4 rfl dX8_take_11 rfl ?_
  refine g_ti C (N := 24) (a := cosT) C.2.2.1.1.2 (by omega) (by omega) (by decide) rfl dX8_take_13 rfl ?_
  refine g_istore C (lv' := [(0, vR h), (1, vI tm), (2, vI a), (3, vI b), (4, vI (Int.tmod tm 24)), (5, vI (cosT (Int.tmod tm 24)))]) [1, 2, 3, 4, 5, 0] (by decide) rfl rfl dX8_take_14 rfl ?_
  refine g_getsN C C.2.2.1.1.1 (C.2.1.2.1 (.fieldLinkNest RX8 34 RX10 "COSINE" "[I" RX10) (by decide +kernel)) dX8_take_16 rfl ?_
  refine g_iload C 4 rfl dX8_take_19 rfl ?_
  refine g_bipush C (by decide) dX8_take_21 rfl ?_
  refine g_iadd C rfl dX8_take_23 rfl ?_
  refine g_bipush C (by decide) dX8_take_24 rfl ?_
  refine g_irem C ⟨by omega, by omega⟩ ⟨by decide, by decide⟩ (by decide) rfl dX8_take_26 rfl ?_
  refine g_ti C (N := 24) (a := cosT) C.2.2.1.1.2 (by omega) (by omega) (by decide) rfl dX8_take_27 rfl ?_
  refine g_top (v' := vI (sinT (Int.tmod tm 24))) rfl ?_
  refine g_istore C (lv' := [(0, vR h), (1, vI tm), (2, vI a), (3, vI b), (4, vI (Int.tmod tm 24)), (5, vI (cosT (Int.tmod tm 24))), (6, vI (sinT (Int.tmod tm 24)))]) [1, 2, 3, 4, 5, 6, 0] (by decide) rfl rfl dX8_take_28 rfl ?_
  refine g_iload_n C 2 rfl dX8_take_30 rfl ?_
  refine g_iload C 5 rfl dX8_take_31 rfl ?_
  refine g_imul C rfl dX8_take_33 rfl ?_
  refine g_iload_n C 3 rfl dX8_take_34 rfl ?_
  refine g_iload C 6 rfl dX8_take_35 rfl ?_
  refine g_imul C rfl dX8_take_37 rfl ?_
  refine g_isub C rfl dX8_take_38 rfl ?_
  refine g_sipush C (by decide) dX8_take_39 rfl ?_
  refine g_idiv C ⟨by omega, by omega⟩ ⟨by decide, by decide⟩ (by decide) (by decide) rfl dX8_take_42 rfl ?_
  refine g_top (v' := vI (smpF tm a b)) rfl ?_
  refine g_istore C (lv' := [(0, vR h), (1, vI tm), (2, vI a), (3, vI b), (4, vI (Int.tmod tm 24)), (5, vI (cosT (Int.tmod tm 24))), (6, vI (sinT (Int.tmod tm 24))), (7, vI (smpF tm a b))]) [1, 2, 3, 4, 5, 6, 7, 0] (by decide) rfl rfl dX8_take_43 rfl ?_
  have sm : -40000 ≤ smpF tm a b ∧ smpF tm a b ≤ 40000 := smp_b m1 m2
  refine g_iload C 7 rfl dX8_take_45 rfl ?_
  refine g_aload_n C 0 rfl dX8_take_47 rfl ?_
  refine g_get C 0 fd_X8_take_9 rfl rfl rfl dX8_take_48 rfl ?_
  refine g_iload C 4 rfl dX8_take_51 rfl ?_
  refine g_iald C 1 rfl (by omega) (by omega) (by decide) rfl dX8_take_53 rfl ?_
  refine g_isub C rfl dX8_take_54 rfl ?_
  refine g_i2l C ⟨by omega, by omega⟩ rfl dX8_take_55 rfl ?_
  refine g_lstore C (lv' := [(0, vR h), (1, vI tm), (2, vI a), (3, vI b), (4, vI (Int.tmod tm 24)), (5, vI (cosT (Int.tmod tm 24))), (6, vI (sinT (Int.tmod tm 24))), (7, vI (smpF tm a b)), (8, vL ((smpF tm a b) - (w (Int.tmod tm 24))))]) [1, 2, 3, 4, 5, 6, 7, 8, 0] (by decide) rfl rfl dX8_take_56 rfl ?_
  refine g_aload_n C 0 rfl dX8_take_58 rfl ?_
  refine g_get C 0 fd_X8_take_9 rfl rfl rfl dX8_take_59 rfl ?_
  refine g_iload C 4 rfl dX8_take_62 rfl ?_
  refine g_iload C 7 rfl dX8_take_64 rfl ?_
  refine g_iast C 1 rfl (by omega) (by omega) (by decide) (ws' := [(h, .inr (9, [vR q, vL (wsum w cosT 24), vL (wsum w sinT 24)])), (q, cI E 24 (ua w (Int.tmod tm 24) (smpF tm a b)))]) rfl dX8_take_66 rfl ?_
  refine g_aload_n C 0 rfl dX8_take_67 rfl ?_
  refine g_dup C rfl dX8_take_68 rfl ?_
  refine g_get C 0 fd_X8_take_21 rfl rfl rfl dX8_take_69 rfl ?_
  refine g_lload C 8 rfl dX8_take_72 rfl ?_
  refine g_iload C 5 rfl dX8_take_74 rfl ?_
  refine g_i2l C ⟨by omega, by omega⟩ rfl dX8_take_76 rfl ?_
  refine g_lmul C rfl dX8_take_77 rfl ?_
  refine g_ladd C rfl dX8_take_78 rfl ?_
  refine g_put C tyX8 tyX8_ok nmX8 0 fd_X8_take_21 rfl rfl rfl rfl rfl rfl (Nat.le_of_ble_eq_true rfl) (ws' := [(h, .inr (9, [vR q, vL ((wsum w cosT 24) + (((smpF tm a b) - (w (Int.tmod tm 24))) * (cosT (Int.tmod tm 24)))), vL (wsum w sinT 24)])), (q, cI E 24 (ua w (Int.tmod tm 24) (smpF tm a b)))]) rfl dX8_take_79 rfl ?_
  refine g_aload_n C 0 rfl dX8_take_82 rfl ?_
  refine g_dup C rfl dX8_take_83 rfl ?_
  refine g_get C 0 fd_X8_take_25 rfl rfl rfl dX8_take_84 rfl ?_
  refine g_lload C 8 rfl dX8_take_87 rfl ?_
  refine g_iload C 6 rfl dX8_take_89 rfl ?_
  refine g_i2l C ⟨by omega, by omega⟩ rfl dX8_take_91 rfl ?_
  refine g_lmul C rfl dX8_take_92 rfl ?_
  refine g_ladd C rfl dX8_take_93 rfl ?_
  refine g_put C tyX8 tyX8_ok nmX8 0 fd_X8_take_25 rfl rfl rfl rfl rfl rfl (Nat.le_of_ble_eq_true rfl) (ws' := [(h, .inr (9, [vR q, vL ((wsum w cosT 24) + (((smpF tm a b) - (w (Int.tmod tm 24))) * (cosT (Int.tmod tm 24)))), vL ((wsum w sinT 24) + (((smpF tm a b) - (w (Int.tmod tm 24))) * (sinT (Int.tmod tm 24))))])), (q, cI E 24 (ua w (Int.tmod tm 24) (smpF tm a b)))]) rfl dX8_take_94 rfl ?_
  have z_1 : (wsum (ua w (Int.tmod tm 24) (smpF tm a b)) cosT 24) = ((wsum w cosT 24) + (((smpF tm a b) - (w (Int.tmod tm 24))) * (cosT (Int.tmod tm 24)))) := by exact wsum_u (by omega) 24 (by omega)
  have z_2 : (wsum (ua w (Int.tmod tm 24) (smpF tm a b)) sinT 24) = ((wsum w sinT 24) + (((smpF tm a b) - (w (Int.tmod tm 24))) * (sinT (Int.tmod tm 24)))) := by exact wsum_u (by omega) 24 (by omega)
  have zz_3 := congr (congrArg (fun (y9_0 : Int) (y9_1 : Int) => ([(h, .inr (9, [vR q, vL y9_0, vL y9_1])), (q, cI E 24 (ua w (Int.tmod tm 24) (smpF tm a b)))] : va_W)) z_1) z_2
  refine g_ws (ws' := [(h, .inr (9, [vR q, vL (wsum (ua w (Int.tmod tm 24) (smpF tm a b)) cosT 24), vL (wsum (ua w (Int.tmod tm 24) (smpF tm a b)) sinT 24)])), (q, cI E 24 (ua w (Int.tmod tm 24) (smpF tm a b)))]) zz_3 ?_
  exact g_vret C hr (Nat.le_of_ble_eq_true rfl) (Nat.le_of_ble_eq_true rfl) dX8_take_97 ⟨rfl, rfl⟩

theorem in_X8_estimateA_X8 : ∀ w ∈ u_ws RX8 TX8 3, w ∈ wsX8_estimateA := by decide +kernel
theorem fd_X8_estimateA_21 : fdk wsX8_estimateA RX8 21 "ZoneRelay$Window" RX8 TX8 3 1 := ⟨in_X8_estimateA_X8, by decide +kernel, by decide, rfl⟩
theorem w_X8_estimateA_k37 : Cond.constantLong RX8 37 (49152) ∈ wsX8_estimateA := by decide +kernel
abbrev rm_K_win_A : Room := { frames := 0, cells := 0, slots := 0, locals := 0 }
set_option maxHeartbeats 8000000 in
set_option maxRecDepth 100000 in
theorem K_win_A (l : Launch) (E : Ev) (h q : Nat) (w : Int → Int) (hw : ∀ k : Int, 0 ≤ k → k < 24 → -40000 ≤ w k ∧ w k ≤ 40000) : Mc l yX8_estimateA wsX8_estimateA rm_K_win_A E [vR h] [(h, .inr (9, [vR q, vL (wsum w cosT 24), vL (wsum w sinT 24)]))] 0 0 (fun v9 w9 => v9 = some (vI (eA w)) ∧ w9 = [(h, .inr (9, [vR q, vL (wsum w cosT 24), vL (wsum w sinT 24)]))]) := by
  refine Mc.intro (cc := cX8_estimateA) (maxL := 1) (ret := (some .int)) (lv0 := [(0, vR h)]) (by decide +kernel) rfl rfl (Nat.le_of_ble_eq_true rfl) ?_
  intro p9 e9 s9 m9 args9 below9 meth9 c9 A9 C hr hmn
  have C : Cx p9 s9 m9 args9 meth9 c9 E A9 1 cX8_estimateA wsX8_estimateA RX8 := C
  have wb := wsum_b hw
  refine g_aload_n C 0 rfl dX8_estimateA_0 rfl ?_
  refine g_get C 0 fd_X8_estimateA_21 rfl rfl rfl dX8_estimateA_1 rfl ?_
  refine g_ldc2 C (x := 49152) w_X8_estimateA_k37 (by decide) dX8_estimateA_4 rfl ?_
  refine g_ldiv C ⟨by omega, by omega⟩ ⟨by decide, by decide⟩ (by decide) rfl dX8_estimateA_7 rfl ?_
  refine g_top (v' := vL (eA w)) rfl ?_
  refine g_l2i C rfl dX8_estimateA_8 rfl ?_
  exact g_iret C hr rfl (Nat.le_of_ble_eq_true rfl) (Nat.le_of_ble_eq_true rfl) dX8_estimateA_9 ⟨rfl, rfl⟩

theorem in_X8_estimateB_X8 : ∀ w ∈ u_ws RX8 TX8 3, w ∈ wsX8_estimateB := by decide +kernel
theorem fd_X8_estimateB_25 : fdk wsX8_estimateB RX8 25 "ZoneRelay$Window" RX8 TX8 3 2 := ⟨in_X8_estimateB_X8, by decide +kernel, by decide, rfl⟩
theorem w_X8_estimateB_k37 : Cond.constantLong RX8 37 (49152) ∈ wsX8_estimateB := by decide +kernel
abbrev rm_K_win_B : Room := { frames := 0, cells := 0, slots := 0, locals := 0 }
set_option maxHeartbeats 8000000 in
set_option maxRecDepth 100000 in
theorem K_win_B (l : Launch) (E : Ev) (h q : Nat) (w : Int → Int) (hw : ∀ k : Int, 0 ≤ k → k < 24 → -40000 ≤ w k ∧ w k ≤ 40000) : Mc l yX8_estimateB wsX8_estimateB rm_K_win_B E [vR h] [(h, .inr (9, [vR q, vL (wsum w cosT 24), vL (wsum w sinT 24)]))] 0 0 (fun v9 w9 => v9 = some (vI (eB w)) ∧ w9 = [(h, .inr (9, [vR q, vL (wsum w cosT 24), vL (wsum w sinT 24)]))]) := by
  refine Mc.intro (cc := cX8_estimateB) (maxL := 1) (ret := (some .int)) (lv0 := [(0, vR h)]) (by decide +kernel) rfl rfl (Nat.le_of_ble_eq_true rfl) ?_
  intro p9 e9 s9 m9 args9 below9 meth9 c9 A9 C hr hmn
  have C : Cx p9 s9 m9 args9 meth9 c9 E A9 1 cX8_estimateB wsX8_estimateB RX8 := C
  have wb := wsum_b hw
  refine g_aload_n C 0 rfl dX8_estimateB_0 rfl ?_
  refine g_get C 0 fd_X8_estimateB_25 rfl rfl rfl dX8_estimateB_1 rfl ?_
  refine g_lneg C rfl dX8_estimateB_4 rfl ?_
  refine g_ldc2 C (x := 49152) w_X8_estimateB_k37 (by decide) dX8_estimateB_5 rfl ?_
  refine g_ldiv C ⟨by omega, by omega⟩ ⟨by decide, by decide⟩ (by decide) rfl dX8_estimateB_8 rfl ?_
  refine g_top (v' := vL (eB w)) rfl ?_
  refine g_l2i C rfl dX8_estimateB_9 rfl ?_
  exact g_iret C hr rfl (Nat.le_of_ble_eq_true rfl) (Nat.le_of_ble_eq_true rfl) dX8_estimateB_10 ⟨rfl, rfl⟩

theorem w_X9_init_oi : Cond.methodLink RX9 3 Lib.objectInit ∈ wsX9_init ∧ Cond.instanceMethod Lib.objectInit ∈ wsX9_init ∧ Cond.code Lib.objectInit ⟨#[0xb1]⟩ 1 none ∈ wsX9_init := ⟨by decide +kernel, by decide +kernel, by decide +kernel⟩
theorem in_X9_init_X9 : ∀ w ∈ u_ws RX9 TX9 4, w ∈ wsX9_init := by decide +kernel
theorem fd_X9_init_9 : fdk wsX9_init RX9 9 "ZoneRelay$Zone" RX9 TX9 4 1 := ⟨in_X9_init_X9, by decide +kernel, by decide, rfl⟩
theorem fd_X9_init_15 : fdk wsX9_init RX9 15 "ZoneRelay$Zone" RX9 TX9 4 0 := ⟨in_X9_init_X9, by decide +kernel, by decide, rfl⟩
abbrev rm_K_zone_init : Room := { frames := 1, cells := 0, slots := 0, locals := 12 }
set_option maxHeartbeats 8000000 in
set_option maxRecDepth 100000 in
theorem K_zone_init (l : Launch) (E : Ev) (h : Nat) (d w t p v : Int)  : Mc l yX9_init wsX9_init rm_K_zone_init E [vR h, vI v] [(h, .inr (10, [vI d, vI w, vI t, vI p]))] 0 0 (fun v9 w9 => v9 = none ∧ w9 = [(h, .inr (10, [vI v, vI 0, vI t, vI p]))]) := by
  refine Mc.intro (cc := cX9_init) (maxL := 2) (ret := none) (lv0 := [(0, vR h), (1, vI v)]) (by decide +kernel) rfl rfl (Nat.le_of_ble_eq_true rfl) ?_
  intro p9 e9 s9 m9 args9 below9 meth9 c9 A9 C hr hmn
  have C : Cx p9 s9 m9 args9 meth9 c9 E A9 2 cX9_init wsX9_init RX9 := C
  refine g_aload_n C 0 rfl dX9_init_0 rfl ?_
  refine g_objInit C w_X9_init_oi ⟨Nat.le_of_ble_eq_true rfl, Nat.le_of_ble_eq_true rfl⟩ dX9_init_1 rfl ?_
  refine g_aload_n C 0 rfl dX9_init_4 rfl ?_
  refine g_iconst C dX9_init_5 rfl ?_
  refine g_put C tyX9 tyX9_ok nmX9 0 fd_X9_init_9 rfl rfl rfl rfl rfl rfl (Nat.le_of_ble_eq_true rfl) (ws' := [(h, .inr (10, [vI d, vI 0, vI t, vI p]))]) rfl dX9_init_6 rfl ?_
  refine g_aload_n C 0 rfl dX9_init_9 rfl ?_
  refine g_iload_n C 1 rfl dX9_init_10 rfl ?_
  refine g_put C tyX9 tyX9_ok nmX9 0 fd_X9_init_15 rfl rfl rfl rfl rfl rfl (Nat.le_of_ble_eq_true rfl) (ws' := [(h, .inr (10, [vI v, vI 0, vI t, vI p]))]) rfl dX9_init_11 rfl ?_
  exact g_vret C hr (Nat.le_of_ble_eq_true rfl) (Nat.le_of_ble_eq_true rfl) dX9_init_14 ⟨rfl, rfl⟩

theorem in_X9_becomeLike_X9 : ∀ w ∈ u_ws RX9 TX9 4, w ∈ wsX9_becomeLike := by decide +kernel
theorem fd_X9_becomeLike_15 : fdk wsX9_becomeLike RX9 15 "ZoneRelay$Zone" RX9 TX9 4 0 := ⟨in_X9_becomeLike_X9, by decide +kernel, by decide, rfl⟩
theorem fd_X9_becomeLike_9 : fdk wsX9_becomeLike RX9 9 "ZoneRelay$Zone" RX9 TX9 4 1 := ⟨in_X9_becomeLike_X9, by decide +kernel, by decide, rfl⟩
theorem fd_X9_becomeLike_18 : fdk wsX9_becomeLike RX9 18 "ZoneRelay$Zone" RX9 TX9 4 2 := ⟨in_X9_becomeLike_X9, by decide +kernel, by decide, rfl⟩
theorem fd_X9_becomeLike_21 : fdk wsX9_becomeLike RX9 21 "ZoneRelay$Zone" RX9 TX9 4 3 := ⟨in_X9_becomeLike_X9, by decide +kernel, by decide, rfl⟩
abbrev rm_K_zone_like : Room := { frames := 0, cells := 0, slots := 0, locals := 0 }
set_option maxHeartbeats 8000000 in
set_option maxRecDepth 100000 in
theorem K_zone_like (l : Launch) (E : Ev) (h g : Nat) (d w t p d2 w2 t2 p2 : Int) (hp : p2 = 0 ∨ p2 = 1) : Mc l yX9_becomeLike wsX9_becomeLike rm_K_zone_like E [vR h, vR g] [(h, .inr (10, [vI d, vI w, vI t, vI p])), (g, .inr (10, [vI d2, vI w2, vI t2, vI p2]))] 0 0 (fun v9 w9 => v9 = none ∧ w9 = [(h, .inr (10, [vI d2, vI w2, vI t2, vI p2])), (g, .inr (10, [vI d2, vI w2, vI t2, vI p2]))]) := by
  refine Mc.intro (cc := cX9_becomeLike) (maxL := 2) (ret := none) (lv0 := [(0, vR h), (1, vR g)]) (by decide +kernel) rfl rfl (Nat.le_of_ble_eq_true rfl) ?_
  intro p9 e9 s9 m9 args9 below9 meth9 c9 A9 C hr hmn
  have C : Cx p9 s9 m9 args9 meth9 c9 E A9 2 cX9_becomeLike wsX9_becomeLike RX9 := C
  refine g_aload_n C 0 rfl dX9_becomeLike_0 rfl ?_
  refine g_aload_n C 1 rfl dX9_becomeLike_1 rfl ?_
  refine g_get C 1 fd_X9_becomeLike_15 rfl rfl rfl dX9_becomeLike_2 rfl ?_
  refine g_put C tyX9 tyX9_ok nmX9 0 fd_X9_becomeLike_15 rfl rfl rfl rfl rfl rfl (Nat.le_of_ble_eq_true rfl) (ws' := [(h, .inr (10, [vI d2, vI w, vI t, vI p])), (g, .inr (10, [vI d2, vI w2, vI t2, vI p2]))]) rfl dX9_becomeLike_5 rfl ?_
  refine g_aload_n C 0 rfl dX9_becomeLike_8 rfl ?_
  refine g_aload_n C 1 rfl dX9_becomeLike_9 rfl ?_
  refine g_get C 1 fd_X9_becomeLike_9 rfl rfl rfl dX9_becomeLike_10 rfl ?_
  refine g_put C tyX9 tyX9_ok nmX9 0 fd_X9_becomeLike_9 rfl rfl rfl rfl rfl rfl (Nat.le_of_ble_eq_true rfl) (ws' := [(h, .inr (10, [vI d2, vI w2, vI t, vI p])), (g, .inr (10, [vI d2, vI w2, vI t2, vI p2]))]) rfl dX9_becomeLike_13 rfl ?_
  refine g_aload_n C 0 rfl dX9_becomeLike_16 rfl ?_
  refine g_aload_n C 1 rfl dX9_becomeLike_17 rfl ?_
  refine g_get C 1 fd_X9_becomeLike_18 rfl rfl rfl dX9_becomeLike_18 rfl ?_
  refine g_put C tyX9 tyX9_ok nmX9 0 fd_X9_becomeLike_18 rfl rfl rfl rfl rfl rfl (Nat.le_of_ble_eq_true rfl) (ws' := [(h, .inr (10, [vI d2, vI w2, vI t2, vI p])), (g, .inr (10, [vI d2, vI w2, vI t2, vI p2]))]) rfl dX9_becomeLike_21 rfl ?_
  refine g_aload_n C 0 rfl dX9_becomeLike_24 rfl ?_
  refine g_aload_n C 1 rfl dX9_becomeLike_25 rfl ?_
  refine g_get C 1 fd_X9_becomeLike_21 rfl rfl rfl dX9_becomeLike_26 rfl ?_
  refine g_put C tyX9 tyX9_ok nmX9 0 fd_X9_becomeLike_21 rfl rfl rfl rfl (nrZi hp) (ftZi hp) (Nat.le_of_ble_eq_true rfl) (ws' := [(h, .inr (10, [vI d2, vI w2, vI t2, vI p2])), (g, .inr (10, [vI d2, vI w2, vI t2, vI p2]))]) rfl dX9_becomeLike_29 rfl ?_
  exact g_vret C hr (Nat.le_of_ble_eq_true rfl) (Nat.le_of_ble_eq_true rfl) dX9_becomeLike_32 ⟨rfl, rfl⟩

theorem in_X9_fits_X9 : ∀ w ∈ u_ws RX9 TX9 4, w ∈ wsX9_fits := by decide +kernel
theorem fd_X9_fits_9 : fdk wsX9_fits RX9 9 "ZoneRelay$Zone" RX9 TX9 4 1 := ⟨in_X9_fits_X9, by decide +kernel, by decide, rfl⟩
abbrev rm_K_zone_fits : Room := { frames := 0, cells := 0, slots := 0, locals := 0 }
set_option maxHeartbeats 8000000 in
set_option maxRecDepth 100000 in
theorem K_zone_fits (l : Launch) (E : Ev) (h : Nat) (d w t p q : Int) (hw : 0 ≤ w ∧ w ≤ 2) (hq : bl q) : Mc l yX9_fits wsX9_fits rm_K_zone_fits E [vR h, vL q] [(h, .inr (10, [vI d, vI w, vI t, vI p]))] 0 0 (fun v9 w9 => v9 = some (vI (bP (w = 2 ∨ (w = 0 ∧ 0 < q) ∨ (¬ w = 0 ∧ q < 0)))) ∧ w9 = [(h, .inr (10, [vI d, vI w, vI t, vI p]))]) := by
  refine Mc.intro (cc := cX9_fits) (maxL := 3) (ret := (some .boolean)) (lv0 := [(0, vR h), (1, vL q)]) (by decide +kernel) rfl rfl (Nat.le_of_ble_eq_true rfl) ?_
  intro p9 e9 s9 m9 args9 below9 meth9 c9 A9 C hr hmn
  have C : Cx p9 s9 m9 args9 meth9 c9 E A9 3 cX9_fits wsX9_fits RX9 := C
  refine g_aload_n C 0 rfl dX9_fits_0 rfl ?_
  refine g_get C 0 fd_X9_fits_9 rfl rfl rfl dX9_fits_1 rfl ?_
  refine g_iconst C dX9_fits_4 rfl ?_
  refine g_icmp_eq C (tgt := 30) ⟨by omega, by omega⟩ ⟨by decide, by decide⟩ dX9_fits_5 (by decide) rfl (fun c_1 => ?_) (fun c_1 => ?_)
  · refine g_iconst C dX9_fits_30 rfl ?_
    refine g_goto C (pc' := 35) dX9_fits_31 (by decide) ?_
    refine g_top (v' := vI (bP (w = 2 ∨ (w = 0 ∧ 0 < q) ∨ (¬ w = 0 ∧ q < 0)))) (congrArg (fun z_ : Int => vI z_) (show (bP (w = 2 ∨ (w = 0 ∧ 0 < q) ∨ (¬ w = 0 ∧ q < 0))) = 1 by first | exact bP_t (by first | assumption | omega) | exact bP_f (by first | assumption | omega))) ?_
    exact g_iret C hr (nrZ _) (Nat.le_of_ble_eq_true rfl) (Nat.le_of_ble_eq_true rfl) dX9_fits_35 ⟨rfl, rfl⟩
  refine g_aload_n C 0 rfl dX9_fits_8 rfl ?_
  refine g_get C 0 fd_X9_fits_9 rfl rfl rfl dX9_fits_9 rfl ?_
  refine g_if_ne C (tgt := 24) ⟨by omega, by omega⟩ dX9_fits_12 (by decide) rfl (fun c_2 => ?_) (fun c_2 => ?_)
  · refine g_lload_n C 1 rfl dX9_fits_24 rfl ?_
    refine g_lconst0 C dX9_fits_25 rfl ?_
    refine g_lcmp_ge C (hq) ⟨by decide, by decide⟩ dX9_fits_26 rfl (tgt := 34) dX9_fits_27 (by decide) rfl (fun c_3 => ?_) (fun c_3 => ?_)
    · refine g_iconst C dX9_fits_34 rfl ?_
      refine g_top (v' := vI (bP (w = 2 ∨ (w = 0 ∧ 0 < q) ∨ (¬ w = 0 ∧ q < 0)))) (congrArg (fun z_ : Int => vI z_) (show (bP (w = 2 ∨ (w = 0 ∧ 0 < q) ∨ (¬ w = 0 ∧ q < 0))) = 0 by first | exact bP_t (by first | assumption | omega) | exact bP_f (by first | assumption | omega))) ?_
      exact g_iret C hr (nrZ _) (Nat.le_of_ble_eq_true rfl) (Nat.le_of_ble_eq_true rfl) dX9_fits_35 ⟨rfl, rfl⟩
    refine g_iconst C dX9_fits_30 rfl ?_
    refine g_goto C (pc' := 35) dX9_fits_31 (by decide) ?_
    refine g_top (v' := vI (bP (w = 2 ∨ (w = 0 ∧ 0 < q) ∨ (¬ w = 0 ∧ q < 0)))) (congrArg (fun z_ : Int => vI z_) (show (bP (w = 2 ∨ (w = 0 ∧ 0 < q) ∨ (¬ w = 0 ∧ q < 0))) = 1 by first | exact bP_t (by first | assumption | omega) | exact bP_f (by first | assumption | omega))) ?_
    exact g_iret C hr (nrZ _) (Nat.le_of_ble_eq_true rfl) (Nat.le_of_ble_eq_true rfl) dX9_fits_35 ⟨rfl, rfl⟩
  refine g_lload_n C 1 rfl dX9_fits_15 rfl ?_
  refine g_lconst0 C dX9_fits_16 rfl ?_
  refine g_lcmp_le C (hq) ⟨by decide, by decide⟩ dX9_fits_17 rfl (tgt := 34) dX9_fits_18 (by decide) rfl (fun c_4 => ?_) (fun c_4 => ?_)
  · refine g_iconst C dX9_fits_34 rfl ?_
    refine g_top (v' := vI (bP (w = 2 ∨ (w = 0 ∧ 0 < q) ∨ (¬ w = 0 ∧ q < 0)))) (congrArg (fun z_ : Int => vI z_) (show (bP (w = 2 ∨ (w = 0 ∧ 0 < q) ∨ (¬ w = 0 ∧ q < 0))) = 0 by first | exact bP_t (by first | assumption | omega) | exact bP_f (by first | assumption | omega))) ?_
    exact g_iret C hr (nrZ _) (Nat.le_of_ble_eq_true rfl) (Nat.le_of_ble_eq_true rfl) dX9_fits_35 ⟨rfl, rfl⟩
  refine g_goto C (pc' := 30) dX9_fits_21 (by decide) ?_
  refine g_iconst C dX9_fits_30 rfl ?_
  refine g_goto C (pc' := 35) dX9_fits_31 (by decide) ?_
  refine g_top (v' := vI (bP (w = 2 ∨ (w = 0 ∧ 0 < q) ∨ (¬ w = 0 ∧ q < 0)))) (congrArg (fun z_ : Int => vI z_) (show (bP (w = 2 ∨ (w = 0 ∧ 0 < q) ∨ (¬ w = 0 ∧ q < 0))) = 1 by first | exact bP_t (by first | assumption | omega) | exact bP_f (by first | assumption | omega))) ?_
  exact g_iret C hr (nrZ _) (Nat.le_of_ble_eq_true rfl) (Nat.le_of_ble_eq_true rfl) dX9_fits_35 ⟨rfl, rfl⟩

theorem w_X4_init_oi : Cond.methodLink RX4 3 Lib.objectInit ∈ wsX4_init ∧ Cond.instanceMethod Lib.objectInit ∈ wsX4_init ∧ Cond.code Lib.objectInit ⟨#[0xb1]⟩ 1 none ∈ wsX4_init := ⟨by decide +kernel, by decide +kernel, by decide +kernel⟩
theorem w_X4_init_aci : Cond.arrayClass .int ∈ wsX4_init := by decide +kernel
theorem in_X4_init_X4 : ∀ w ∈ u_ws RX4 TX4 4, w ∈ wsX4_init := by decide +kernel
theorem fd_X4_init_9 : fdk wsX4_init RX4 9 "ZoneRelay$Polygon" RX4 TX4 4 0 := ⟨in_X4_init_X4, by decide +kernel, by decide, rfl⟩
theorem fd_X4_init_15 : fdk wsX4_init RX4 15 "ZoneRelay$Polygon" RX4 TX4 4 1 := ⟨in_X4_init_X4, by decide +kernel, by decide, rfl⟩
theorem fd_X4_init_18 : fdk wsX4_init RX4 18 "ZoneRelay$Polygon" RX4 TX4 4 3 := ⟨in_X4_init_X4, by decide +kernel, by decide, rfl⟩
abbrev rm_K_poly_init : Room := { frames := 1, cells := 2, slots := 16, locals := 12 }
set_option maxHeartbeats 8000000 in
set_option maxRecDepth 100000 in
theorem K_poly_init (l : Launch) (E : Ev) (h : Nat) (n d : Int)  : Mc l yX4_init wsX4_init rm_K_poly_init E [vR h] [(h, .inr (5, [.null, .null, vI n, vI d]))] 2 16 (fun v9 w9 => ∃ (xs : Nat) (ys : Nat), v9 = none ∧ w9 = [(h, .inr (5, [vR xs, vR ys, vI n, vI 1])), (xs, cI E 8 (fun _ => 0)), (ys, cI E 8 (fun _ => 0))]) := by
  refine Mc.intro (cc := cX4_init) (maxL := 1) (ret := none) (lv0 := [(0, vR h)]) (by decide +kernel) rfl rfl (Nat.le_of_ble_eq_true rfl) ?_
  intro p9 e9 s9 m9 args9 below9 meth9 c9 A9 C hr hmn
  have C : Cx p9 s9 m9 args9 meth9 c9 E A9 1 cX4_init wsX4_init RX4 := C
  refine g_aload_n C 0 rfl dX4_init_0 rfl ?_
  refine g_objInit C w_X4_init_oi ⟨Nat.le_of_ble_eq_true rfl, Nat.le_of_ble_eq_true rfl⟩ dX4_init_1 rfl ?_
  refine g_aload_n C 0 rfl dX4_init_4 rfl ?_
  refine g_bipush C (by decide) dX4_init_5 rfl ?_
  refine g_newai C (N := 8) (by decide) rfl (by decide) (rfl : _ = 1) (rfl : _ = 8) ⟨by decide, Nat.le_of_ble_eq_true rfl⟩ w_X4_init_aci dX4_init_7 rfl (fun q_1 => ?_)
  refine g_is (ws' := [(h, .inr (5, [.null, .null, vI n, vI d])), (q_1, cI E 8 (fun _ => 0))]) (st' := [vR q_1, vR h]) rfl rfl ?_
  refine g_putF C hmn tyX4 tyX4_ok nmX4 0 fd_X4_init_9 rfl rfl rfl rfl rfl rfl rfl (Nat.le_of_ble_eq_true rfl) (ws' := [(h, .inr (5, [vR q_1, .null, vI n, vI d])), (q_1, cI E 8 (fun _ => 0))]) rfl dX4_init_9 rfl ?_
  refine g_aload_n C 0 rfl dX4_init_12 rfl ?_
  refine g_bipush C (by decide) dX4_init_13 rfl ?_
  refine g_newai C (N := 8) (by decide) rfl (by decide) (rfl : _ = 2) (rfl : _ = 16) ⟨by decide, Nat.le_of_ble_eq_true rfl⟩ w_X4_init_aci dX4_init_15 rfl (fun q_2 => ?_)
  refine g_is (ws' := [(h, .inr (5, [vR q_1, .null, vI n, vI d])), (q_1, cI E 8 (fun _ => 0)), (q_2, cI E 8 (fun _ => 0))]) (st' := [vR q_2, vR h]) rfl rfl ?_
  refine g_putF C hmn tyX4 tyX4_ok nmX4 0 fd_X4_init_15 rfl rfl rfl rfl rfl rfl rfl (Nat.le_of_ble_eq_true rfl) (ws' := [(h, .inr (5, [vR q_1, vR q_2, vI n, vI d])), (q_1, cI E 8 (fun _ => 0)), (q_2, cI E 8 (fun _ => 0))]) rfl dX4_init_17 rfl ?_
  refine g_aload_n C 0 rfl dX4_init_20 rfl ?_
  refine g_iconst C dX4_init_21 rfl ?_
  refine g_put C tyX4 tyX4_ok nmX4 0 fd_X4_init_18 rfl rfl rfl rfl rfl rfl (Nat.le_of_ble_eq_true rfl) (ws' := [(h, .inr (5, [vR q_1, vR q_2, vI n, vI 1])), (q_1, cI E 8 (fun _ => 0)), (q_2, cI E 8 (fun _ => 0))]) rfl dX4_init_22 rfl ?_
  exact g_vret C hr (Nat.le_of_ble_eq_true rfl) (Nat.le_of_ble_eq_true rfl) dX4_init_25 ⟨q_1, q_2, rfl, rfl⟩

theorem in_X4_becomeLike_X4 : ∀ w ∈ u_ws RX4 TX4 4, w ∈ wsX4_becomeLike := by decide +kernel
theorem fd_X4_becomeLike_9 : fdk wsX4_becomeLike RX4 9 "ZoneRelay$Polygon" RX4 TX4 4 0 := ⟨in_X4_becomeLike_X4, by decide +kernel, by decide, rfl⟩
theorem w_X4_becomeLike_ac22 : Cond.methodLink RX4 22 arraycopyName ∈ wsX4_becomeLike ∧ Cond.native arraycopyName ∈ wsX4_becomeLike ∧ Cond.static arraycopyName ∈ wsX4_becomeLike ∧ Cond.initialized "java/lang/System" ∈ wsX4_becomeLike := ⟨by decide +kernel, by decide +kernel, by decide +kernel, by decide +kernel⟩
theorem fd_X4_becomeLike_15 : fdk wsX4_becomeLike RX4 15 "ZoneRelay$Polygon" RX4 TX4 4 1 := ⟨in_X4_becomeLike_X4, by decide +kernel, by decide, rfl⟩
theorem fd_X4_becomeLike_28 : fdk wsX4_becomeLike RX4 28 "ZoneRelay$Polygon" RX4 TX4 4 2 := ⟨in_X4_becomeLike_X4, by decide +kernel, by decide, rfl⟩
theorem fd_X4_becomeLike_18 : fdk wsX4_becomeLike RX4 18 "ZoneRelay$Polygon" RX4 TX4 4 3 := ⟨in_X4_becomeLike_X4, by decide +kernel, by decide, rfl⟩
abbrev rm_K_poly_like : Room := { frames := 1, cells := 0, slots := 0, locals := 60 }
set_option maxHeartbeats 8000000 in
set_option maxRecDepth 100000 in
theorem K_poly_like (l : Launch) (E : Ev) (h xs ys : Nat) (X Y : Int → Int) (n df : Int) (g xs2 ys2 : Nat) (X2 Y2 : Int → Int) (n2 df2 : Int)  : Mc l yX4_becomeLike wsX4_becomeLike rm_K_poly_like E [vR h, vR g] [(h, .inr (5, [vR xs, vR ys, vI n, vI df])), (xs, cI E 8 X), (ys, cI E 8 Y), (g, .inr (5, [vR xs2, vR ys2, vI n2, vI df2])), (xs2, cI E 8 X2), (ys2, cI E 8 Y2)] 0 0 (fun v9 w9 => v9 = none ∧ w9 = [(h, .inr (5, [vR xs, vR ys, vI n2, vI df2])), (xs, cI E 8 X2), (ys, cI E 8 Y2), (g, .inr (5, [vR xs2, vR ys2, vI n2, vI df2])), (xs2, cI E 8 X2), (ys2, cI E 8 Y2)]) := by
  refine Mc.intro (cc := cX4_becomeLike) (maxL := 2) (ret := none) (lv0 := [(0, vR h), (1, vR g)]) (by decide +kernel) rfl rfl (Nat.le_of_ble_eq_true rfl) ?_
  intro p9 e9 s9 m9 args9 below9 meth9 c9 A9 C hr hmn
  have C : Cx p9 s9 m9 args9 meth9 c9 E A9 2 cX4_becomeLike wsX4_becomeLike RX4 := C
  refine g_aload_n C 1 rfl dX4_becomeLike_0 rfl ?_
  refine g_get C 3 fd_X4_becomeLike_9 rfl rfl rfl dX4_becomeLike_1 rfl ?_
  refine g_iconst C dX4_becomeLike_4 rfl ?_
  refine g_aload_n C 0 rfl dX4_becomeLike_5 rfl ?_
  refine g_get C 0 fd_X4_becomeLike_9 rfl rfl rfl dX4_becomeLike_6 rfl ?_
  refine g_iconst C dX4_becomeLike_9 rfl ?_
  refine g_bipush C (by decide) dX4_becomeLike_10 rfl ?_
  refine g_copy C 4 1 0 rfl rfl rfl rfl (by decide) (by decide) (by decide) (by decide) (by decide) (by decide) (fun _ _ => rfl) w_X4_becomeLike_ac22 ⟨Nat.le_of_ble_eq_true rfl, Nat.le_of_ble_eq_true rfl⟩ (ws' := [(h, .inr (5, [vR xs, vR ys, vI n, vI df])), (xs, cI E 8 (cpyT X2 X 0 0 8)), (ys, cI E 8 Y), (g, .inr (5, [vR xs2, vR ys2, vI n2, vI df2])), (xs2, cI E 8 X2), (ys2, cI E 8 Y2)]) rfl dX4_becomeLike_12 rfl ?_
  refine g_aload_n C 1 rfl dX4_becomeLike_15 rfl ?_
  refine g_get C 3 fd_X4_becomeLike_15 rfl rfl rfl dX4_becomeLike_16 rfl ?_
  refine g_iconst C dX4_becomeLike_19 rfl ?_
  refine g_aload_n C 0 rfl dX4_becomeLike_20 rfl ?_
  refine g_get C 0 fd_X4_becomeLike_15 rfl rfl rfl dX4_becomeLike_21 rfl ?_
  refine g_iconst C dX4_becomeLike_24 rfl ?_
  refine g_bipush C (by decide) dX4_becomeLike_25 rfl ?_
  refine g_copy C 5 2 0 rfl rfl rfl rfl (by decide) (by decide) (by decide) (by decide) (by decide) (by decide) (fun _ _ => rfl) w_X4_becomeLike_ac22 ⟨Nat.le_of_ble_eq_true rfl, Nat.le_of_ble_eq_true rfl⟩ (ws' := [(h, .inr (5, [vR xs, vR ys, vI n, vI df])), (xs, cI E 8 (cpyT X2 X 0 0 8)), (ys, cI E 8 (cpyT Y2 Y 0 0 8)), (g, .inr (5, [vR xs2, vR ys2, vI n2, vI df2])), (xs2, cI E 8 X2), (ys2, cI E 8 Y2)]) rfl dX4_becomeLike_27 rfl ?_
  refine g_aload_n C 0 rfl dX4_becomeLike_30 rfl ?_
  refine g_aload_n C 1 rfl dX4_becomeLike_31 rfl ?_
  refine g_get C 3 fd_X4_becomeLike_28 rfl rfl rfl dX4_becomeLike_32 rfl ?_
  refine g_put C tyX4 tyX4_ok nmX4 0 fd_X4_becomeLike_28 rfl rfl rfl rfl rfl rfl (Nat.le_of_ble_eq_true rfl) (ws' := [(h, .inr (5, [vR xs, vR ys, vI n2, vI df])), (xs, cI E 8 (cpyT X2 X 0 0 8)), (ys, cI E 8 (cpyT Y2 Y 0 0 8)), (g, .inr (5, [vR xs2, vR ys2, vI n2, vI df2])), (xs2, cI E 8 X2), (ys2, cI E 8 Y2)]) rfl dX4_becomeLike_35 rfl ?_
  refine g_aload_n C 0 rfl dX4_becomeLike_38 rfl ?_
  refine g_aload_n C 1 rfl dX4_becomeLike_39 rfl ?_
  refine g_get C 3 fd_X4_becomeLike_18 rfl rfl rfl dX4_becomeLike_40 rfl ?_
  refine g_put C tyX4 tyX4_ok nmX4 0 fd_X4_becomeLike_18 rfl rfl rfl rfl rfl rfl (Nat.le_of_ble_eq_true rfl) (ws' := [(h, .inr (5, [vR xs, vR ys, vI n2, vI df2])), (xs, cI E 8 (cpyT X2 X 0 0 8)), (ys, cI E 8 (cpyT Y2 Y 0 0 8)), (g, .inr (5, [vR xs2, vR ys2, vI n2, vI df2])), (xs2, cI E 8 X2), (ys2, cI E 8 Y2)]) rfl dX4_becomeLike_43 rfl ?_
  have z_1 : cI E 8 X2 = cI E 8 (cpyT X2 X 0 0 8) := cI_c (fun k_ k0_ k1_ => by exact cpyT_f k0_ k1_)
  have z_2 : cI E 8 Y2 = cI E 8 (cpyT Y2 Y 0 0 8) := cI_c (fun k_ k0_ k1_ => by exact cpyT_f k0_ k1_)
  have zz_3 := congr (congrArg (fun (y9_0 : va_E) (y9_1 : va_E) => ([(h, .inr (5, [vR xs, vR ys, vI n2, vI df2])), (xs, y9_0), (ys, y9_1), (g, .inr (5, [vR xs2, vR ys2, vI n2, vI df2])), (xs2, cI E 8 X2), (ys2, cI E 8 Y2)] : va_W)) z_1) z_2
  refine g_ws (ws' := [(h, .inr (5, [vR xs, vR ys, vI n2, vI df2])), (xs, cI E 8 X2), (ys, cI E 8 Y2), (g, .inr (5, [vR xs2, vR ys2, vI n2, vI df2])), (xs2, cI E 8 X2), (ys2, cI E 8 Y2)]) zz_3 ?_
  exact g_vret C hr (Nat.le_of_ble_eq_true rfl) (Nat.le_of_ble_eq_true rfl) dX4_becomeLike_46 ⟨rfl, rfl⟩

theorem w_X5_init_oi : Cond.methodLink RX5 3 Lib.objectInit ∈ wsX5_init ∧ Cond.instanceMethod Lib.objectInit ∈ wsX5_init ∧ Cond.code Lib.objectInit ⟨#[0xb1]⟩ 1 none ∈ wsX5_init := ⟨by decide +kernel, by decide +kernel, by decide +kernel⟩
theorem w_X5_init_aci : Cond.arrayClass .int ∈ wsX5_init := by decide +kernel
theorem in_X5_init_X5 : ∀ w ∈ u_ws RX5 TX5 7, w ∈ wsX5_init := by decide +kernel
theorem fd_X5_init_9 : fdk wsX5_init RX5 9 "ZoneRelay$Reader" RX5 TX5 7 0 := ⟨in_X5_init_X5, by decide +kernel, by decide, rfl⟩
theorem fd_X5_init_15 : fdk wsX5_init RX5 15 "ZoneRelay$Reader" RX5 TX5 7 1 := ⟨in_X5_init_X5, by decide +kernel, by decide, rfl⟩
abbrev rm_K_reader_init : Room := { frames := 1, cells := 2, slots := 16, locals := 12 }
set_option maxHeartbeats 8000000 in
set_option maxRecDepth 100000 in
theorem K_reader_init (l : Launch) (E : Ev) (h : Nat) (a b c d e : Int)  : Mc l yX5_init wsX5_init rm_K_reader_init E [vR h] [(h, .inr (6, [.null, .null, vI a, vI b, vI c, vI d, vI e]))] 2 16 (fun v9 w9 => ∃ (xs : Nat) (ys : Nat), v9 = none ∧ w9 = [(h, .inr (6, [vR xs, vR ys, vI a, vI b, vI c, vI d, vI e])), (xs, cI E 8 (fun _ => 0)), (ys, cI E 8 (fun _ => 0))]) := by
  refine Mc.intro (cc := cX5_init) (maxL := 1) (ret := none) (lv0 := [(0, vR h)]) (by decide +kernel) rfl rfl (Nat.le_of_ble_eq_true rfl) ?_
  intro p9 e9 s9 m9 args9 below9 meth9 c9 A9 C hr hmn
  have C : Cx p9 s9 m9 args9 meth9 c9 E A9 1 cX5_init wsX5_init RX5 := C
  refine g_aload_n C 0 rfl dX5_init_0 rfl ?_
  refine g_objInit C w_X5_init_oi ⟨Nat.le_of_ble_eq_true rfl, Nat.le_of_ble_eq_true rfl⟩ dX5_init_1 rfl ?_
  refine g_aload_n C 0 rfl dX5_init_4 rfl ?_
  refine g_bipush C (by decide) dX5_init_5 rfl ?_
  refine g_newai C (N := 8) (by decide) rfl (by decide) (rfl : _ = 1) (rfl : _ = 8) ⟨by decide, Nat.le_of_ble_eq_true rfl⟩ w_X5_init_aci dX5_init_7 rfl (fun q_1 => ?_)
  refine g_is (ws' := [(h, .inr (6, [.null, .null, vI a, vI b, vI c, vI d, vI e])), (q_1, cI E 8 (fun _ => 0))]) (st' := [vR q_1, vR h]) rfl rfl ?_
  refine g_putF C hmn tyX5 tyX5_ok nmX5 0 fd_X5_init_9 rfl rfl rfl rfl rfl rfl rfl (Nat.le_of_ble_eq_true rfl) (ws' := [(h, .inr (6, [vR q_1, .null, vI a, vI b, vI c, vI d, vI e])), (q_1, cI E 8 (fun _ => 0))]) rfl dX5_init_9 rfl ?_
  refine g_aload_n C 0 rfl dX5_init_12 rfl ?_
  refine g_bipush C (by decide) dX5_init_13 rfl ?_
  refine g_newai C (N := 8) (by decide) rfl (by decide) (rfl : _ = 2) (rfl : _ = 16) ⟨by decide, Nat.le_of_ble_eq_true rfl⟩ w_X5_init_aci dX5_init_15 rfl (fun q_2 => ?_)
  refine g_is (ws' := [(h, .inr (6, [vR q_1, .null, vI a, vI b, vI c, vI d, vI e])), (q_1, cI E 8 (fun _ => 0)), (q_2, cI E 8 (fun _ => 0))]) (st' := [vR q_2, vR h]) rfl rfl ?_
  refine g_putF C hmn tyX5 tyX5_ok nmX5 0 fd_X5_init_15 rfl rfl rfl rfl rfl rfl rfl (Nat.le_of_ble_eq_true rfl) (ws' := [(h, .inr (6, [vR q_1, vR q_2, vI a, vI b, vI c, vI d, vI e])), (q_1, cI E 8 (fun _ => 0)), (q_2, cI E 8 (fun _ => 0))]) rfl dX5_init_17 rfl ?_
  exact g_vret C hr (Nat.le_of_ble_eq_true rfl) (Nat.le_of_ble_eq_true rfl) dX5_init_20 ⟨q_1, q_2, rfl, rfl⟩
