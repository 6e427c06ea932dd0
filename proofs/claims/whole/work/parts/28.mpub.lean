theorem hyd_X11_isPolygon : yX11_isPolygon.cls ≠ "java/lang/invoke/MethodHandle" ∧ yX11_isPolygon.cls ≠ "java/lang/invoke/VarHandle" ∧ (parseMethodDescriptor yX11_isPolygon.desc).map (fun d => d.parameters.length) = some 1 := by decide +kernel
theorem w_X11_corner_k85 : Cond.constantLong RX11 85 (-20000) ∈ wsX11_corner := by decide +kernel
theorem w_X11_corner_k46 : Cond.constantLong RX11 46 (20000) ∈ wsX11_corner := by decide +kernel
theorem hyd_X11_append : yX11_append.cls ≠ "java/lang/invoke/MethodHandle" ∧ yX11_append.cls ≠ "java/lang/invoke/VarHandle" ∧ (parseMethodDescriptor yX11_append.desc).map (fun d => d.parameters.length) = some 3 := by decide +kernel
abbrev rm_M_corner : Room := { frames := 2, cells := 0, slots := 0, locals := 46 }
set_option maxHeartbeats 1000000 in
set_option maxRecDepth 100000 in
theorem M_corner (l : Launch) (E : Ev) (Q : Nat → Nat) (pn f0 f1 f2 f3 px py pb rg wr rn wn : Int) (a s2 s3 s4 tx rr ww : Int → Int) (B p x y : Int) (hI : Inv a B) (hB : B ≤ 2900000) (b_p : bi p) (b_x : bi x) (b_y : bi y) : Mc l yX11_corner wsX11_corner rm_M_corner E [vR (Q 0), vI p, vI x, vI y] [((Q 0), .inr (12, [vR (Q 1), vR (Q 2), vR (Q 3), vR (Q 4), vR (Q 5), vI pn, vR (Q 6), vL f0, vL f1, vL f2, vL f3, vL px, vL py, vL pb, vI rg, vI wr, vR (Q 7), vI rn, vR (Q 8), vI wn])), ((Q 1), cL E 310 a), ((Q 2), cL E 310 s2), ((Q 3), cL E 620 s3), ((Q 4), cZ E 2 s4), ((Q 5), cI E 80 tx), ((Q 6), cI E 24 cosT), ((Q 7), cI E 16 rr), ((Q 8), cI E 120 ww)] 0 0 (fun v9 w9 => v9 = some (vI (q_corner a p x y)) ∧ w9 = [((Q 0), .inr (12, [vR (Q 1), vR (Q 2), vR (Q 3), vR (Q 4), vR (Q 5), vI pn, vR (Q 6), vL f0, vL f1, vL f2, vL f3, vL px, vL py, vL pb, vI rg, vI wr, vR (Q 7), vI rn, vR (Q 8), vI wn])), ((Q 1), cL E 310 (n_corner a p x y)), ((Q 2), cL E 310 s2), ((Q 3), cL E 620 s3), ((Q 4), cZ E 2 s4), ((Q 5), cI E 80 tx), ((Q 6), cI E 24 cosT), ((Q 7), cI E 16 rr), ((Q 8), cI E 120 ww)]) := by
  refine Mc.intro (cc := cX11_corner) (maxL := 4) (ret := (some .int)) (lv0 := [(0, vR (Q 0)), (1, vI p), (2, vI x), (3, vI y)]) (by decide +kernel) rfl rfl (Nat.le_of_ble_eq_true rfl) ?_
  intro p9 e9 s9 m9 args9 below9 meth9 c9 A9 C hr hmn
  have C : Cx p9 s9 m9 args9 meth9 c9 E A9 4 cX11_corner wsX11_corner RX11 := C
  have hI0 := hI
  obtain ⟨iP, i4, iR, iE, iN, ⟨i21, i22, i23, i24, i25, i26, i27, i28⟩, iD, iW, i35, iS, iM, i90, i91, i94, i95, i96, i97, iT, iK, i104, iPn, iPc⟩ := hI
  refine g_iload_n C 1 rfl dX11_corner_0 rfl ?_
  refine g_callS C (As := [vI p]) (wc := []) (wr := [((Q 0), .inr (12, [vR (Q 1), vR (Q 2), vR (Q 3), vR (Q 4), vR (Q 5), vI pn, vR (Q 6), vL f0, vL f1, vL f2, vL f3, vL px, vL py, vL pb, vI rg, vI wr, vR (Q 7), vI rn, vR (Q 8), vI wn])), ((Q 1), cL E 310 a), ((Q 2), cL E 310 s2), ((Q 3), cL E 620 s3), ((Q 4), cZ E 2 s4), ((Q 5), cI E 80 tx), ((Q 6), cI E 24 cosT), ((Q 7), cI E 16 rr), ((Q 8), cI E 120 ww)]) (st := []) gX11_corner_X11_isPolygon rfl (K_m_isPoly l E p b_p) hyd_X11_isPolygon rfl [] [0, 1, 2, 3, 4, 5, 6, 7, 8] rfl rfl rfl rfl rfl (by decide) ⟨rfl, rfl⟩ ⟨Nat.le_of_ble_eq_true rfl, Nat.le_of_ble_eq_true rfl, Nat.le_of_ble_eq_true rfl, Nat.le_of_ble_eq_true rfl⟩ (Nat.le_of_ble_eq_true rfl) dX11_corner_1 (rfl : _ = 0) (rfl : _ = 0) rfl ?_
  rintro _ _ ⟨rfl, rfl⟩
  refine g_is (ws' := [((Q 0), .inr (12, [vR (Q 1), vR (Q 2), vR (Q 3), vR (Q 4), vR (Q 5), vI pn, vR (Q 6), vL f0, vL f1, vL f2, vL f3, vL px, vL py, vL pb, vI rg, vI wr, vR (Q 7), vI rn, vR (Q 8), vI wn])), ((Q 1), cL E 310 a), ((Q 2), cL E 310 s2), ((Q 3), cL E 620 s3), ((Q 4), cZ E 2 s4), ((Q 5), cI E 80 tx), ((Q 6), cI E 24 cosT), ((Q 7), cI E 16 rr), ((Q 8), cI E 120 ww)]) (st' := [vI (bP (0 ≤ p ∧ p ≤ 4))]) rfl rfl ?_
  refine g_ifb_ne C (tgt := 9) dX11_corner_4 (by decide) rfl (fun c_1 => ?_) (fun c_1 => ?_)
  · refine g_iload_n C 2 rfl dX11_corner_9 rfl ?_
    refine g_i2l C (b_x) rfl dX11_corner_10 rfl ?_
    refine g_ldc2 C (x := (-20000)) w_X11_corner_k85 (by decide) dX11_corner_11 rfl ?_
    refine g_ldc2 C (x := 20000) w_X11_corner_k46 (by decide) dX11_corner_14 rfl ?_
    refine g_callS C (As := [vL x, vL (-20000), vL 20000]) (wc := []) (wr := [((Q 0), .inr (12, [vR (Q 1), vR (Q 2), vR (Q 3), vR (Q 4), vR (Q 5), vI pn, vR (Q 6), vL f0, vL f1, vL f2, vL f3, vL px, vL py, vL pb, vI rg, vI wr, vR (Q 7), vI rn, vR (Q 8), vI wn])), ((Q 1), cL E 310 a), ((Q 2), cL E 310 s2), ((Q 3), cL E 620 s3), ((Q 4), cZ E 2 s4), ((Q 5), cI E 80 tx), ((Q 6), cI E 24 cosT), ((Q 7), cI E 16 rr), ((Q 8), cI E 120 ww)]) (st := []) gX11_corner_X11_in rfl (K_m_in l E x (-20000) 20000 ⟨by omega, by omega⟩ ⟨by omega, by omega⟩ ⟨by omega, by omega⟩) hyd_X11_in rfl [] [0, 1, 2, 3, 4, 5, 6, 7, 8] rfl rfl rfl rfl rfl (by decide) ⟨rfl, rfl⟩ ⟨Nat.le_of_ble_eq_true rfl, Nat.le_of_ble_eq_true rfl, Nat.le_of_ble_eq_true rfl, Nat.le_of_ble_eq_true rfl⟩ (Nat.le_of_ble_eq_true rfl) dX11_corner_17 (rfl : _ = 0) (rfl : _ = 0) rfl ?_
    rintro _ _ ⟨rfl, rfl⟩
    refine g_is (ws' := [((Q 0), .inr (12, [vR (Q 1), vR (Q 2), vR (Q 3), vR (Q 4), vR (Q 5), vI pn, vR (Q 6), vL f0, vL f1, vL f2, vL f3, vL px, vL py, vL pb, vI rg, vI wr, vR (Q 7), vI rn, vR (Q 8), vI wn])), ((Q 1), cL E 310 a), ((Q 2), cL E 310 s2), ((Q 3), cL E 620 s3), ((Q 4), cZ E 2 s4), ((Q 5), cI E 80 tx), ((Q 6), cI E 24 cosT), ((Q 7), cI E 16 rr), ((Q 8), cI E 120 ww)]) (st' := [vI (bP ((-20000) ≤ x ∧ x ≤ 20000))]) rfl rfl ?_
    refine g_ifb_eq C (tgt := 37) dX11_corner_20 (by decide) rfl (fun c_2 => ?_) (fun c_2 => ?_)
    · refine g_bipush C (by decide) dX11_corner_37 rfl ?_
      refine g_top (v' := vI (q_corner a p x y)) (congrArg (fun z_ : Int => vI z_) (show (q_corner a p x y) = (-2) by unfold q_corner; (repeat' split) <;> first | rfl | omega | contradiction | (unfold s_app; exact ua_eq.symm))) ?_
      refine g_ws (ws' := [((Q 0), .inr (12, [vR (Q 1), vR (Q 2), vR (Q 3), vR (Q 4), vR (Q 5), vI pn, vR (Q 6), vL f0, vL f1, vL f2, vL f3, vL px, vL py, vL pb, vI rg, vI wr, vR (Q 7), vI rn, vR (Q 8), vI wn])), ((Q 1), cL E 310 (n_corner a p x y)), ((Q 2), cL E 310 s2), ((Q 3), cL E 620 s3), ((Q 4), cZ E 2 s4), ((Q 5), cI E 80 tx), ((Q 6), cI E 24 cosT), ((Q 7), cI E 16 rr), ((Q 8), cI E 120 ww)]) (congrArg (fun z_ : Nat → Int64 => ([((Q 0), .inr (12, [vR (Q 1), vR (Q 2), vR (Q 3), vR (Q 4), vR (Q 5), vI pn, vR (Q 6), vL f0, vL f1, vL f2, vL f3, vL px, vL py, vL pb, vI rg, vI wr, vR (Q 7), vI rn, vR (Q 8), vI wn])), ((Q 1), .inl (E.2.1 1, 310, .inr (.inl z_))), ((Q 2), cL E 310 s2), ((Q 3), cL E 620 s3), ((Q 4), cZ E 2 s4), ((Q 5), cI E 80 tx), ((Q 6), cI E 24 cosT), ((Q 7), cI E 16 rr), ((Q 8), cI E 120 ww)] : va_W)) (show AL 310 (n_corner a p x y) = AL 310 a from AL_c (fun k_ k0_ k1_ => by unfold n_corner; (repeat' split) <;> first | rfl | omega | contradiction))) ?_
      exact g_iret C hr rfl (Nat.le_of_ble_eq_true rfl) (Nat.le_of_ble_eq_true rfl) dX11_corner_39 ⟨rfl, rfl⟩
    refine g_iload_n C 3 rfl dX11_corner_23 rfl ?_
    refine g_i2l C (b_y) rfl dX11_corner_24 rfl ?_
    refine g_ldc2 C (x := (-20000)) w_X11_corner_k85 (by decide) dX11_corner_25 rfl ?_
    refine g_ldc2 C (x := 20000) w_X11_corner_k46 (by decide) dX11_corner_28 rfl ?_
    refine g_callS C (As := [vL y, vL (-20000), vL 20000]) (wc := []) (wr := [((Q 0), .inr (12, [vR (Q 1), vR (Q 2), vR (Q 3), vR (Q 4), vR (Q 5), vI pn, vR (Q 6), vL f0, vL f1, vL f2, vL f3, vL px, vL py, vL pb, vI rg, vI wr, vR (Q 7), vI rn, vR (Q 8), vI wn])), ((Q 1), cL E 310 a), ((Q 2), cL E 310 s2), ((Q 3), cL E 620 s3), ((Q 4), cZ E 2 s4), ((Q 5), cI E 80 tx), ((Q 6), cI E 24 cosT), ((Q 7), cI E 16 rr), ((Q 8), cI E 120 ww)]) (st := []) gX11_corner_X11_in rfl (K_m_in l E y (-20000) 20000 ⟨by omega, by omega⟩ ⟨by omega, by omega⟩ ⟨by omega, by omega⟩) hyd_X11_in rfl [] [0, 1, 2, 3, 4, 5, 6, 7, 8] rfl rfl rfl rfl rfl (by decide) ⟨rfl, rfl⟩ ⟨Nat.le_of_ble_eq_true rfl, Nat.le_of_ble_eq_true rfl, Nat.le_of_ble_eq_true rfl, Nat.le_of_ble_eq_true rfl⟩ (Nat.le_of_ble_eq_true rfl) dX11_corner_31 (rfl : _ = 0) (rfl : _ = 0) rfl ?_
    rintro _ _ ⟨rfl, rfl⟩
    refine g_is (ws' := [((Q 0), .inr (12, [vR (Q 1), vR (Q 2), vR (Q 3), vR (Q 4), vR (Q 5), vI pn, vR (Q 6), vL f0, vL f1, vL f2, vL f3, vL px, vL py, vL pb, vI rg, vI wr, vR (Q 7), vI rn, vR (Q 8), vI wn])), ((Q 1), cL E 310 a), ((Q 2), cL E 310 s2), ((Q 3), cL E 620 s3), ((Q 4), cZ E 2 s4), ((Q 5), cI E 80 tx), ((Q 6), cI E 24 cosT), ((Q 7), cI E 16 rr), ((Q 8), cI E 120 ww)]) (st' := [vI (bP ((-20000) ≤ y ∧ y ≤ 20000))]) rfl rfl ?_
    refine g_ifb_ne C (tgt := 40) dX11_corner_34 (by decide) rfl (fun c_3 => ?_) (fun c_3 => ?_)
    · have n8 := iPn p (by omega) (by omega)
      refine g_aload_n C 0 rfl dX11_corner_40 rfl ?_
      refine g_iload_n C 1 rfl dX11_corner_41 rfl ?_
      refine g_callV C (b := (Q 0)) (As := [vI p]) (wc := [((Q 0), .inr (12, [vR (Q 1), vR (Q 2), vR (Q 3), vR (Q 4), vR (Q 5), vI pn, vR (Q 6), vL f0, vL f1, vL f2, vL f3, vL px, vL py, vL pb, vI rg, vI wr, vR (Q 7), vI rn, vR (Q 8), vI wn])), ((Q 1), cL E 310 a)]) (wr := [((Q 2), cL E 310 s2), ((Q 3), cL E 620 s3), ((Q 4), cZ E 2 s4), ((Q 5), cI E 80 tx), ((Q 6), cI E 24 cosT), ((Q 7), cI E 16 rr), ((Q 8), cI E 120 ww)]) (st := []) gX11_corner_X11_corners (q9 := 0) (ci := 12) rfl rfl rfl (K_m_corners l E Q pn f0 f1 f2 f3 px py pb rg wr rn wn a p c_1) hyd_X11_corners rfl [0, 1] [2, 3, 4, 5, 6, 7, 8] rfl rfl rfl rfl rfl (by decide) ⟨rfl, rfl⟩ ⟨Nat.le_of_ble_eq_true rfl, Nat.le_of_ble_eq_true rfl, Nat.le_of_ble_eq_true rfl, Nat.le_of_ble_eq_true rfl⟩ (Nat.le_of_ble_eq_true rfl) dX11_corner_42 (rfl : _ = 0) (rfl : _ = 0) rfl ?_
      rintro _ _ ⟨rfl, rfl⟩
      refine g_is (ws' := [((Q 2), cL E 310 s2), ((Q 3), cL E 620 s3), ((Q 4), cZ E 2 s4), ((Q 5), cI E 80 tx), ((Q 6), cI E 24 cosT), ((Q 7), cI E 16 rr), ((Q 8), cI E 120 ww), ((Q 0), .inr (12, [vR (Q 1), vR (Q 2), vR (Q 3), vR (Q 4), vR (Q 5), vI pn, vR (Q 6), vL f0, vL f1, vL f2, vL f3, vL px, vL py, vL pb, vI rg, vI wr, vR (Q 7), vI rn, vR (Q 8), vI wn])), ((Q 1), cL E 310 a)]) (st' := [vI (a (225 + (17 * p)))]) rfl rfl ?_
      refine g_sub (ws' := [((Q 0), .inr (12, [vR (Q 1), vR (Q 2), vR (Q 3), vR (Q 4), vR (Q 5), vI pn, vR (Q 6), vL f0, vL f1, vL f2, vL f3, vL px, vL py, vL pb, vI rg, vI wr, vR (Q 7), vI rn, vR (Q 8), vI wn])), ((Q 1), cL E 310 a), ((Q 2), cL E 310 s2), ((Q 3), cL E 620 s3), ((Q 4), cZ E 2 s4), ((Q 5), cI E 80 tx), ((Q 6), cI E 24 cosT), ((Q 7), cI E 16 rr), ((Q 8), cI E 120 ww)]) [7, 8, 0, 1, 2, 3, 4, 5, 6] rfl rfl rfl ?_
      refine g_bipush C (by decide) dX11_corner_45 rfl ?_
      refine g_icmp_ne C (tgt := 53) ⟨by omega, by omega⟩ ⟨by decide, by decide⟩ dX11_corner_47 (by decide) rfl (fun c_4 => ?_) (fun c_4 => ?_)
      · refine g_aload_n C 0 rfl dX11_corner_53 rfl ?_
        refine g_iload_n C 1 rfl dX11_corner_54 rfl ?_
        refine g_iload_n C 2 rfl dX11_corner_55 rfl ?_
        refine g_iload_n C 3 rfl dX11_corner_56 rfl ?_
        refine g_callV C (b := (Q 0)) (As := [vI p, vI x, vI y]) (wc := [((Q 0), .inr (12, [vR (Q 1), vR (Q 2), vR (Q 3), vR (Q 4), vR (Q 5), vI pn, vR (Q 6), vL f0, vL f1, vL f2, vL f3, vL px, vL py, vL pb, vI rg, vI wr, vR (Q 7), vI rn, vR (Q 8), vI wn])), ((Q 1), cL E 310 a)]) (wr := [((Q 2), cL E 310 s2), ((Q 3), cL E 620 s3), ((Q 4), cZ E 2 s4), ((Q 5), cI E 80 tx), ((Q 6), cI E 24 cosT), ((Q 7), cI E 16 rr), ((Q 8), cI E 120 ww)]) (st := []) gX11_corner_X11_append (q9 := 0) (ci := 12) rfl rfl rfl (K_m_append l E Q pn f0 f1 f2 f3 px py pb rg wr rn wn a p x y c_1 (by omega) b_x b_y) hyd_X11_append rfl [0, 1] [2, 3, 4, 5, 6, 7, 8] rfl rfl rfl rfl rfl (by decide) ⟨rfl, rfl⟩ ⟨Nat.le_of_ble_eq_true rfl, Nat.le_of_ble_eq_true rfl, Nat.le_of_ble_eq_true rfl, Nat.le_of_ble_eq_true rfl⟩ (Nat.le_of_ble_eq_true rfl) dX11_corner_57 (rfl : _ = 0) (rfl : _ = 0) rfl ?_
        rintro _ _ ⟨rfl, rfl⟩
        refine g_is (ws' := [((Q 2), cL E 310 s2), ((Q 3), cL E 620 s3), ((Q 4), cZ E 2 s4), ((Q 5), cI E 80 tx), ((Q 6), cI E 24 cosT), ((Q 7), cI E 16 rr), ((Q 8), cI E 120 ww), ((Q 0), .inr (12, [vR (Q 1), vR (Q 2), vR (Q 3), vR (Q 4), vR (Q 5), vI pn, vR (Q 6), vL f0, vL f1, vL f2, vL f3, vL px, vL py, vL pb, vI rg, vI wr, vR (Q 7), vI rn, vR (Q 8), vI wn])), ((Q 1), cL E 310 (s_app a p x y))]) (st' := []) rfl rfl ?_
        refine g_sub (ws' := [((Q 0), .inr (12, [vR (Q 1), vR (Q 2), vR (Q 3), vR (Q 4), vR (Q 5), vI pn, vR (Q 6), vL f0, vL f1, vL f2, vL f3, vL px, vL py, vL pb, vI rg, vI wr, vR (Q 7), vI rn, vR (Q 8), vI wn])), ((Q 1), cL E 310 (s_app a p x y)), ((Q 2), cL E 310 s2), ((Q 3), cL E 620 s3), ((Q 4), cZ E 2 s4), ((Q 5), cI E 80 tx), ((Q 6), cI E 24 cosT), ((Q 7), cI E 16 rr), ((Q 8), cI E 120 ww)]) [7, 8, 0, 1, 2, 3, 4, 5, 6] rfl rfl rfl ?_
        refine g_aload_n C 0 rfl dX11_corner_60 rfl ?_
        refine g_iload_n C 1 rfl dX11_corner_61 rfl ?_
        refine g_callV C (b := (Q 0)) (As := [vI p]) (wc := [((Q 0), .inr (12, [vR (Q 1), vR (Q 2), vR (Q 3), vR (Q 4), vR (Q 5), vI pn, vR (Q 6), vL f0, vL f1, vL f2, vL f3, vL px, vL py, vL pb, vI rg, vI wr, vR (Q 7), vI rn, vR (Q 8), vI wn])), ((Q 1), cL E 310 (s_app a p x y))]) (wr := [((Q 2), cL E 310 s2), ((Q 3), cL E 620 s3), ((Q 4), cZ E 2 s4), ((Q 5), cI E 80 tx), ((Q 6), cI E 24 cosT), ((Q 7), cI E 16 rr), ((Q 8), cI E 120 ww)]) (st := []) gX11_corner_X11_corners (q9 := 0) (ci := 12) rfl rfl rfl (K_m_corners l E Q pn f0 f1 f2 f3 px py pb rg wr rn wn (s_app a p x y) p c_1) hyd_X11_corners rfl [0, 1] [2, 3, 4, 5, 6, 7, 8] rfl rfl rfl rfl rfl (by decide) ⟨rfl, rfl⟩ ⟨Nat.le_of_ble_eq_true rfl, Nat.le_of_ble_eq_true rfl, Nat.le_of_ble_eq_true rfl, Nat.le_of_ble_eq_true rfl⟩ (Nat.le_of_ble_eq_true rfl) dX11_corner_62 (rfl : _ = 0) (rfl : _ = 0) rfl ?_
        rintro _ _ ⟨rfl, rfl⟩
        refine g_is (ws' := [((Q 2), cL E 310 s2), ((Q 3), cL E 620 s3), ((Q 4), cZ E 2 s4), ((Q 5), cI E 80 tx), ((Q 6), cI E 24 cosT), ((Q 7), cI E 16 rr), ((Q 8), cI E 120 ww), ((Q 0), .inr (12, [vR (Q 1), vR (Q 2), vR (Q 3), vR (Q 4), vR (Q 5), vI pn, vR (Q 6), vL f0, vL f1, vL f2, vL f3, vL px, vL py, vL pb, vI rg, vI wr, vR (Q 7), vI rn, vR (Q 8), vI wn])), ((Q 1), cL E 310 (s_app a p x y))]) (st' := [vI ((s_app a p x y) (225 + (17 * p)))]) rfl rfl ?_
        refine g_sub (ws' := [((Q 0), .inr (12, [vR (Q 1), vR (Q 2), vR (Q 3), vR (Q 4), vR (Q 5), vI pn, vR (Q 6), vL f0, vL f1, vL f2, vL f3, vL px, vL py, vL pb, vI rg, vI wr, vR (Q 7), vI rn, vR (Q 8), vI wn])), ((Q 1), cL E 310 (s_app a p x y)), ((Q 2), cL E 310 s2), ((Q 3), cL E 620 s3), ((Q 4), cZ E 2 s4), ((Q 5), cI E 80 tx), ((Q 6), cI E 24 cosT), ((Q 7), cI E 16 rr), ((Q 8), cI E 120 ww)]) [7, 8, 0, 1, 2, 3, 4, 5, 6] rfl rfl rfl ?_
        refine g_top (v' := vI (q_corner a p x y)) (congrArg (fun z_ : Int => vI z_) (show (q_corner a p x y) = ((s_app a p x y) (225 + (17 * p))) by unfold q_corner; (repeat' split) <;> first | rfl | omega | contradiction | (unfold s_app; exact ua_eq.symm))) ?_
        refine g_ws (ws' := [((Q 0), .inr (12, [vR (Q 1), vR (Q 2), vR (Q 3), vR (Q 4), vR (Q 5), vI pn, vR (Q 6), vL f0, vL f1, vL f2, vL f3, vL px, vL py, vL pb, vI rg, vI wr, vR (Q 7), vI rn, vR (Q 8), vI wn])), ((Q 1), cL E 310 (n_corner a p x y)), ((Q 2), cL E 310 s2), ((Q 3), cL E 620 s3), ((Q 4), cZ E 2 s4), ((Q 5), cI E 80 tx), ((Q 6), cI E 24 cosT), ((Q 7), cI E 16 rr), ((Q 8), cI E 120 ww)]) (congrArg (fun z_ : Nat → Int64 => ([((Q 0), .inr (12, [vR (Q 1), vR (Q 2), vR (Q 3), vR (Q 4), vR (Q 5), vI pn, vR (Q 6), vL f0, vL f1, vL f2, vL f3, vL px, vL py, vL pb, vI rg, vI wr, vR (Q 7), vI rn, vR (Q 8), vI wn])), ((Q 1), .inl (E.2.1 1, 310, .inr (.inl z_))), ((Q 2), cL E 310 s2), ((Q 3), cL E 620 s3), ((Q 4), cZ E 2 s4), ((Q 5), cI E 80 tx), ((Q 6), cI E 24 cosT), ((Q 7), cI E 16 rr), ((Q 8), cI E 120 ww)] : va_W)) (show AL 310 (n_corner a p x y) = AL 310 (s_app a p x y) from AL_c (fun k_ k0_ k1_ => by unfold n_corner; (repeat' split) <;> first | rfl | omega | contradiction))) ?_
        exact g_iret C hr rfl (Nat.le_of_ble_eq_true rfl) (Nat.le_of_ble_eq_true rfl) dX11_corner_65 ⟨rfl, rfl⟩
      refine g_bipush C (by decide) dX11_corner_50 rfl ?_
      refine g_top (v' := vI (q_corner a p x y)) (congrArg (fun z_ : Int => vI z_) (show (q_corner a p x y) = (-4) by unfold q_corner; (repeat' split) <;> first | rfl | omega | contradiction | (unfold s_app; exact ua_eq.symm))) ?_
      refine g_ws (ws' := [((Q 0), .inr (12, [vR (Q 1), vR (Q 2), vR (Q 3), vR (Q 4), vR (Q 5), vI pn, vR (Q 6), vL f0, vL f1, vL f2, vL f3, vL px, vL py, vL pb, vI rg, vI wr, vR (Q 7), vI rn, vR (Q 8), vI wn])), ((Q 1), cL E 310 (n_corner a p x y)), ((Q 2), cL E 310 s2), ((Q 3), cL E 620 s3), ((Q 4), cZ E 2 s4), ((Q 5), cI E 80 tx), ((Q 6), cI E 24 cosT), ((Q 7), cI E 16 rr), ((Q 8), cI E 120 ww)]) (congrArg (fun z_ : Nat → Int64 => ([((Q 0), .inr (12, [vR (Q 1), vR (Q 2), vR (Q 3), vR (Q 4), vR (Q 5), vI pn, vR (Q 6), vL f0, vL f1, vL f2, vL f3, vL px, vL py, vL pb, vI rg, vI wr, vR (Q 7), vI rn, vR (Q 8), vI wn])), ((Q 1), .inl (E.2.1 1, 310, .inr (.inl z_))), ((Q 2), cL E 310 s2), ((Q 3), cL E 620 s3), ((Q 4), cZ E 2 s4), ((Q 5), cI E 80 tx), ((Q 6), cI E 24 cosT), ((Q 7), cI E 16 rr), ((Q 8), cI E 120 ww)] : va_W)) (show AL 310 (n_corner a p x y) = AL 310 a from AL_c (fun k_ k0_ k1_ => by unfold n_corner; (repeat' split) <;> first | rfl | omega | contradiction))) ?_
      exact g_iret C hr rfl (Nat.le_of_ble_eq_true rfl) (Nat.le_of_ble_eq_true rfl) dX11_corner_52 ⟨rfl, rfl⟩
    refine g_bipush C (by decide) dX11_corner_37 rfl ?_
    refine g_top (v' := vI (q_corner a p x y)) (congrArg (fun z_ : Int => vI z_) (show (q_corner a p x y) = (-2) by unfold q_corner; (repeat' split) <;> first | rfl | omega | contradiction | (unfold s_app; exact ua_eq.symm))) ?_
    refine g_ws (ws' := [((Q 0), .inr (12, [vR (Q 1), vR (Q 2), vR (Q 3), vR (Q 4), vR (Q 5), vI pn, vR (Q 6), vL f0, vL f1, vL f2, vL f3, vL px, vL py, vL pb, vI rg, vI wr, vR (Q 7), vI rn, vR (Q 8), vI wn])), ((Q 1), cL E 310 (n_corner a p x y)), ((Q 2), cL E 310 s2), ((Q 3), cL E 620 s3), ((Q 4), cZ E 2 s4), ((Q 5), cI E 80 tx), ((Q 6), cI E 24 cosT), ((Q 7), cI E 16 rr), ((Q 8), cI E 120 ww)]) (congrArg (fun z_ : Nat → Int64 => ([((Q 0), .inr (12, [vR (Q 1), vR (Q 2), vR (Q 3), vR (Q 4), vR (Q 5), vI pn, vR (Q 6), vL f0, vL f1, vL f2, vL f3, vL px, vL py, vL pb, vI rg, vI wr, vR (Q 7), vI rn, vR (Q 8), vI wn])), ((Q 1), .inl (E.2.1 1, 310, .inr (.inl z_))), ((Q 2), cL E 310 s2), ((Q 3), cL E 620 s3), ((Q 4), cZ E 2 s4), ((Q 5), cI E 80 tx), ((Q 6), cI E 24 cosT), ((Q 7), cI E 16 rr), ((Q 8), cI E 120 ww)] : va_W)) (show AL 310 (n_corner a p x y) = AL 310 a from AL_c (fun k_ k0_ k1_ => by unfold n_corner; (repeat' split) <;> first | rfl | omega | contradiction))) ?_
    exact g_iret C hr rfl (Nat.le_of_ble_eq_true rfl) (Nat.le_of_ble_eq_true rfl) dX11_corner_39 ⟨rfl, rfl⟩
  refine g_iconst C dX11_corner_7 rfl ?_
  refine g_top (v' := vI (q_corner a p x y)) (congrArg (fun z_ : Int => vI z_) (show (q_corner a p x y) = (-1) by unfold q_corner; (repeat' split) <;> first | rfl | omega | contradiction | (unfold s_app; exact ua_eq.symm))) ?_
  refine g_ws (ws' := [((Q 0), .inr (12, [vR (Q 1), vR (Q 2), vR (Q 3), vR (Q 4), vR (Q 5), vI pn, vR (Q 6), vL f0, vL f1, vL f2, vL f3, vL px, vL py, vL pb, vI rg, vI wr, vR (Q 7), vI rn, vR (Q 8), vI wn])), ((Q 1), cL E 310 (n_corner a p x y)), ((Q 2), cL E 310 s2), ((Q 3), cL E 620 s3), ((Q 4), cZ E 2 s4), ((Q 5), cI E 80 tx), ((Q 6), cI E 24 cosT), ((Q 7), cI E 16 rr), ((Q 8), cI E 120 ww)]) (congrArg (fun z_ : Nat → Int64 => ([((Q 0), .inr (12, [vR (Q 1), vR (Q 2), vR (Q 3), vR (Q 4), vR (Q 5), vI pn, vR (Q 6), vL f0, vL f1, vL f2, vL f3, vL px, vL py, vL pb, vI rg, vI wr, vR (Q 7), vI rn, vR (Q 8), vI wn])), ((Q 1), .inl (E.2.1 1, 310, .inr (.inl z_))), ((Q 2), cL E 310 s2), ((Q 3), cL E 620 s3), ((Q 4), cZ E 2 s4), ((Q 5), cI E 80 tx), ((Q 6), cI E 24 cosT), ((Q 7), cI E 16 rr), ((Q 8), cI E 120 ww)] : va_W)) (show AL 310 (n_corner a p x y) = AL 310 a from AL_c (fun k_ k0_ k1_ => by unfold n_corner; (repeat' split) <;> first | rfl | omega | contradiction))) ?_
  exact g_iret C hr rfl (Nat.le_of_ble_eq_true rfl) (Nat.le_of_ble_eq_true rfl) dX11_corner_8 ⟨rfl, rfl⟩

theorem in_X11_clear_X11 : ∀ w ∈ u_ws RX11 TX11 20, w ∈ wsX11_clear := by decide +kernel
theorem fd_X11_clear_7 : fdk wsX11_clear RX11 7 "ZoneRelayModel" RX11 TX11 20 0 := ⟨in_X11_clear_X11, by decide +kernel, by decide, rfl⟩
abbrev rm_M_clear : Room := { frames := 2, cells := 0, slots := 0, locals := 45 }
set_option maxHeartbeats 1000000 in
set_option maxRecDepth 100000 in
theorem M_clear (l : Launch) (E : Ev) (Q : Nat → Nat) (pn f0 f1 f2 f3 px py pb rg wr rn wn : Int) (a s2 s3 s4 tx rr ww : Int → Int) (B p : Int) (hI : Inv a B) (hB : B ≤ 2900000) (b_p : bi p) : Mc l yX11_clear wsX11_clear rm_M_clear E [vR (Q 0), vI p] [((Q 0), .inr (12, [vR (Q 1), vR (Q 2), vR (Q 3), vR (Q 4), vR (Q 5), vI pn, vR (Q 6), vL f0, vL f1, vL f2, vL f3, vL px, vL py, vL pb, vI rg, vI wr, vR (Q 7), vI rn, vR (Q 8), vI wn])), ((Q 1), cL E 310 a), ((Q 2), cL E 310 s2), ((Q 3), cL E 620 s3), ((Q 4), cZ E 2 s4), ((Q 5), cI E 80 tx), ((Q 6), cI E 24 cosT), ((Q 7), cI E 16 rr), ((Q 8), cI E 120 ww)] 0 0 (fun v9 w9 => v9 = some (vI (q_clear a p)) ∧ w9 = [((Q 0), .inr (12, [vR (Q 1), vR (Q 2), vR (Q 3), vR (Q 4), vR (Q 5), vI pn, vR (Q 6), vL f0, vL f1, vL f2, vL f3, vL px, vL py, vL pb, vI rg, vI wr, vR (Q 7), vI rn, vR (Q 8), vI wn])), ((Q 1), cL E 310 (n_clear a p)), ((Q 2), cL E 310 s2), ((Q 3), cL E 620 s3), ((Q 4), cZ E 2 s4), ((Q 5), cI E 80 tx), ((Q 6), cI E 24 cosT), ((Q 7), cI E 16 rr), ((Q 8), cI E 120 ww)]) := by
  refine Mc.intro (cc := cX11_clear) (maxL := 3) (ret := (some .int)) (lv0 := [(0, vR (Q 0)), (1, vI p)]) (by decide +kernel) rfl rfl (Nat.le_of_ble_eq_true rfl) ?_
  intro p9 e9 s9 m9 args9 below9 meth9 c9 A9 C hr hmn
  have C : Cx p9 s9 m9 args9 meth9 c9 E A9 3 cX11_clear wsX11_clear RX11 := C
  have hI0 := hI
  obtain ⟨iP, i4, iR, iE, iN, ⟨i21, i22, i23, i24, i25, i26, i27, i28⟩, iD, iW, i35, iS, iM, i90, i91, i94, i95, i96, i97, iT, iK, i104, iPn, iPc⟩ := hI
  refine g_iload_n C 1 rfl dX11_clear_0 rfl ?_
  refine g_callS C (As := [vI p]) (wc := []) (wr := [((Q 0), .inr (12, [vR (Q 1), vR (Q 2), vR (Q 3), vR (Q 4), vR (Q 5), vI pn, vR (Q 6), vL f0, vL f1, vL f2, vL f3, vL px, vL py, vL pb, vI rg, vI wr, vR (Q 7), vI rn, vR (Q 8), vI wn])), ((Q 1), cL E 310 a), ((Q 2), cL E 310 s2), ((Q 3), cL E 620 s3), ((Q 4), cZ E 2 s4), ((Q 5), cI E 80 tx), ((Q 6), cI E 24 cosT), ((Q 7), cI E 16 rr), ((Q 8), cI E 120 ww)]) (st := []) gX11_clear_X11_isPolygon rfl (K_m_isPoly l E p b_p) hyd_X11_isPolygon rfl [] [0, 1, 2, 3, 4, 5, 6, 7, 8] rfl rfl rfl rfl rfl (by decide) ⟨rfl, rfl⟩ ⟨Nat.le_of_ble_eq_true rfl, Nat.le_of_ble_eq_true rfl, Nat.le_of_ble_eq_true rfl, Nat.le_of_ble_eq_true rfl⟩ (Nat.le_of_ble_eq_true rfl) dX11_clear_1 (rfl : _ = 0) (rfl : _ = 0) rfl ?_
  rintro _ _ ⟨rfl, rfl⟩
  refine g_is (ws' := [((Q 0), .inr (12, [vR (Q 1), vR (Q 2), vR (Q 3), vR (Q 4), vR (Q 5), vI pn, vR (Q 6), vL f0, vL f1, vL f2, vL f3, vL px, vL py, vL pb, vI rg, vI wr, vR (Q 7), vI rn, vR (Q 8), vI wn])), ((Q 1), cL E 310 a), ((Q 2), cL E 310 s2), ((Q 3), cL E 620 s3), ((Q 4), cZ E 2 s4), ((Q 5), cI E 80 tx), ((Q 6), cI E 24 cosT), ((Q 7), cI E 16 rr), ((Q 8), cI E 120 ww)]) (st' := [vI (bP (0 ≤ p ∧ p ≤ 4))]) rfl rfl ?_
  refine g_ifb_ne C (tgt := 9) dX11_clear_4 (by decide) rfl (fun c_1 => ?_) (fun c_1 => ?_)
  · have n8 := iPn p (by omega) (by omega)
    refine g_aload_n C 0 rfl dX11_clear_9 rfl ?_
    refine g_iload_n C 1 rfl dX11_clear_10 rfl ?_
    refine g_callV C (b := (Q 0)) (As := [vI p]) (wc := [((Q 0), .inr (12, [vR (Q 1), vR (Q 2), vR (Q 3), vR (Q 4), vR (Q 5), vI pn, vR (Q 6), vL f0, vL f1, vL f2, vL f3, vL px, vL py, vL pb, vI rg, vI wr, vR (Q 7), vI rn, vR (Q 8), vI wn])), ((Q 1), cL E 310 a)]) (wr := [((Q 2), cL E 310 s2), ((Q 3), cL E 620 s3), ((Q 4), cZ E 2 s4), ((Q 5), cI E 80 tx), ((Q 6), cI E 24 cosT), ((Q 7), cI E 16 rr), ((Q 8), cI E 120 ww)]) (st := []) gX11_clear_X11_corners (q9 := 0) (ci := 12) rfl rfl rfl (K_m_corners l E Q pn f0 f1 f2 f3 px py pb rg wr rn wn a p c_1) hyd_X11_corners rfl [0, 1] [2, 3, 4, 5, 6, 7, 8] rfl rfl rfl rfl rfl (by decide) ⟨rfl, rfl⟩ ⟨Nat.le_of_ble_eq_true rfl, Nat.le_of_ble_eq_true rfl, Nat.le_of_ble_eq_true rfl, Nat.le_of_ble_eq_true rfl⟩ (Nat.le_of_ble_eq_true rfl) dX11_clear_11 (rfl : _ = 0) (rfl : _ = 0) rfl ?_
    rintro _ _ ⟨rfl, rfl⟩
    refine g_is (ws' := [((Q 2), cL E 310 s2), ((Q 3), cL E 620 s3), ((Q 4), cZ E 2 s4), ((Q 5), cI E 80 tx), ((Q 6), cI E 24 cosT), ((Q 7), cI E 16 rr), ((Q 8), cI E 120 ww), ((Q 0), .inr (12, [vR (Q 1), vR (Q 2), vR (Q 3), vR (Q 4), vR (Q 5), vI pn, vR (Q 6), vL f0, vL f1, vL f2, vL f3, vL px, vL py, vL pb, vI rg, vI wr, vR (Q 7), vI rn, vR (Q 8), vI wn])), ((Q 1), cL E 310 a)]) (st' := [vI (a (225 + (17 * p)))]) rfl rfl ?_
    refine g_sub (ws' := [((Q 0), .inr (12, [vR (Q 1), vR (Q 2), vR (Q 3), vR (Q 4), vR (Q 5), vI pn, vR (Q 6), vL f0, vL f1, vL f2, vL f3, vL px, vL py, vL pb, vI rg, vI wr, vR (Q 7), vI rn, vR (Q 8), vI wn])), ((Q 1), cL E 310 a), ((Q 2), cL E 310 s2), ((Q 3), cL E 620 s3), ((Q 4), cZ E 2 s4), ((Q 5), cI E 80 tx), ((Q 6), cI E 24 cosT), ((Q 7), cI E 16 rr), ((Q 8), cI E 120 ww)]) [7, 8, 0, 1, 2, 3, 4, 5, 6] rfl rfl rfl ?_
    refine g_istore_n C (lv' := [(0, vR (Q 0)), (1, vI p), (2, vI (a (225 + (17 * p))))]) [1, 2, 0] (by decide) rfl rfl dX11_clear_14 rfl ?_
    refine g_aload_n C 0 rfl dX11_clear_15 rfl ?_
    refine g_get C 0 fd_X11_clear_7 rfl rfl rfl dX11_clear_16 rfl ?_
    refine g_sipush C (by decide) dX11_clear_19 rfl ?_
    refine g_bipush C (by decide) dX11_clear_22 rfl ?_
    refine g_iload_n C 1 rfl dX11_clear_24 rfl ?_
    refine g_imul C rfl dX11_clear_25 rfl ?_
    refine g_iadd C rfl dX11_clear_26 rfl ?_
    refine g_lconst0 C dX11_clear_27 rfl ?_
    refine g_last C 1 rfl (by omega) (by omega) (by decide) (ws' := [((Q 0), .inr (12, [vR (Q 1), vR (Q 2), vR (Q 3), vR (Q 4), vR (Q 5), vI pn, vR (Q 6), vL f0, vL f1, vL f2, vL f3, vL px, vL py, vL pb, vI rg, vI wr, vR (Q 7), vI rn, vR (Q 8), vI wn])), ((Q 1), cL E 310 (ua a (225 + (17 * p)) 0)), ((Q 2), cL E 310 s2), ((Q 3), cL E 620 s3), ((Q 4), cZ E 2 s4), ((Q 5), cI E 80 tx), ((Q 6), cI E 24 cosT), ((Q 7), cI E 16 rr), ((Q 8), cI E 120 ww)]) rfl dX11_clear_28 rfl ?_
    refine g_iload_n C 2 rfl dX11_clear_29 rfl ?_
    refine g_top (v' := vI (q_clear a p)) (congrArg (fun z_ : Int => vI z_) (show (q_clear a p) = (a (225 + (17 * p))) by unfold q_clear; (repeat' split) <;> first | rfl | omega | contradiction)) ?_
    refine g_ws (ws' := [((Q 0), .inr (12, [vR (Q 1), vR (Q 2), vR (Q 3), vR (Q 4), vR (Q 5), vI pn, vR (Q 6), vL f0, vL f1, vL f2, vL f3, vL px, vL py, vL pb, vI rg, vI wr, vR (Q 7), vI rn, vR (Q 8), vI wn])), ((Q 1), cL E 310 (n_clear a p)), ((Q 2), cL E 310 s2), ((Q 3), cL E 620 s3), ((Q 4), cZ E 2 s4), ((Q 5), cI E 80 tx), ((Q 6), cI E 24 cosT), ((Q 7), cI E 16 rr), ((Q 8), cI E 120 ww)]) (congrArg (fun z_ : Nat → Int64 => ([((Q 0), .inr (12, [vR (Q 1), vR (Q 2), vR (Q 3), vR (Q 4), vR (Q 5), vI pn, vR (Q 6), vL f0, vL f1, vL f2, vL f3, vL px, vL py, vL pb, vI rg, vI wr, vR (Q 7), vI rn, vR (Q 8), vI wn])), ((Q 1), .inl (E.2.1 1, 310, .inr (.inl z_))), ((Q 2), cL E 310 s2), ((Q 3), cL E 620 s3), ((Q 4), cZ E 2 s4), ((Q 5), cI E 80 tx), ((Q 6), cI E 24 cosT), ((Q 7), cI E 16 rr), ((Q 8), cI E 120 ww)] : va_W)) (show AL 310 (n_clear a p) = AL 310 (ua a (225 + (17 * p)) 0) from AL_c (fun k_ k0_ k1_ => by unfold n_clear; (repeat' split) <;> first | rfl | omega | contradiction))) ?_
    exact g_iret C hr rfl (Nat.le_of_ble_eq_true rfl) (Nat.le_of_ble_eq_true rfl) dX11_clear_30 ⟨rfl, rfl⟩
  refine g_iconst C dX11_clear_7 rfl ?_
  refine g_top (v' := vI (q_clear a p)) (congrArg (fun z_ : Int => vI z_) (show (q_clear a p) = (-1) by unfold q_clear; (repeat' split) <;> first | rfl | omega | contradiction)) ?_
  refine g_ws (ws' := [((Q 0), .inr (12, [vR (Q 1), vR (Q 2), vR (Q 3), vR (Q 4), vR (Q 5), vI pn, vR (Q 6), vL f0, vL f1, vL f2, vL f3, vL px, vL py, vL pb, vI rg, vI wr, vR (Q 7), vI rn, vR (Q 8), vI wn])), ((Q 1), cL E 310 (n_clear a p)), ((Q 2), cL E 310 s2), ((Q 3), cL E 620 s3), ((Q 4), cZ E 2 s4), ((Q 5), cI E 80 tx), ((Q 6), cI E 24 cosT), ((Q 7), cI E 16 rr), ((Q 8), cI E 120 ww)]) (congrArg (fun z_ : Nat → Int64 => ([((Q 0), .inr (12, [vR (Q 1), vR (Q 2), vR (Q 3), vR (Q 4), vR (Q 5), vI pn, vR (Q 6), vL f0, vL f1, vL f2, vL f3, vL px, vL py, vL pb, vI rg, vI wr, vR (Q 7), vI rn, vR (Q 8), vI wn])), ((Q 1), .inl (E.2.1 1, 310, .inr (.inl z_))), ((Q 2), cL E 310 s2), ((Q 3), cL E 620 s3), ((Q 4), cZ E 2 s4), ((Q 5), cI E 80 tx), ((Q 6), cI E 24 cosT), ((Q 7), cI E 16 rr), ((Q 8), cI E 120 ww)] : va_W)) (show AL 310 (n_clear a p) = AL 310 a from AL_c (fun k_ k0_ k1_ => by unfold n_clear; (repeat' split) <;> first | rfl | omega | contradiction))) ?_
  exact g_iret C hr rfl (Nat.le_of_ble_eq_true rfl) (Nat.le_of_ble_eq_true rfl) dX11_clear_8 ⟨rfl, rfl⟩

theorem in_X11_at_X11 : ∀ w ∈ u_ws RX11 TX11 20, w ∈ wsX11_at := by decide +kernel
theorem fd_X11_at_7 : fdk wsX11_at RX11 7 "ZoneRelayModel" RX11 TX11 20 0 := ⟨in_X11_at_X11, by decide +kernel, by decide, rfl⟩
theorem w_X11_at_k91 : Cond.constant RX11 91 (100000) ∈ wsX11_at := by decide +kernel
abbrev rm_M_at : Room := { frames := 2, cells := 0, slots := 0, locals := 45 }
set_option maxHeartbeats 1000000 in
set_option maxRecDepth 100000 in
theorem M_at (l : Launch) (E : Ev) (Q : Nat → Nat) (pn f0 f1 f2 f3 px py pb rg wr rn wn : Int) (a s2 s3 s4 tx rr ww : Int → Int) (B p i w : Int) (hI : Inv a B) (hB : B ≤ 2900000) (b_p : bi p) (b_i : bi i) (b_w : bi w) : Mc l yX11_at wsX11_at rm_M_at E [vR (Q 0), vI p, vI i, vI w] [((Q 0), .inr (12, [vR (Q 1), vR (Q 2), vR (Q 3), vR (Q 4), vR (Q 5), vI pn, vR (Q 6), vL f0, vL f1, vL f2, vL f3, vL px, vL py, vL pb, vI rg, vI wr, vR (Q 7), vI rn, vR (Q 8), vI wn])), ((Q 1), cL E 310 a), ((Q 2), cL E 310 s2), ((Q 3), cL E 620 s3), ((Q 4), cZ E 2 s4), ((Q 5), cI E 80 tx), ((Q 6), cI E 24 cosT), ((Q 7), cI E 16 rr), ((Q 8), cI E 120 ww)] 0 0 (fun v9 w9 => v9 = some (vI (q_at a p i w)) ∧ w9 = [((Q 0), .inr (12, [vR (Q 1), vR (Q 2), vR (Q 3), vR (Q 4), vR (Q 5), vI pn, vR (Q 6), vL f0, vL f1, vL f2, vL f3, vL px, vL py, vL pb, vI rg, vI wr, vR (Q 7), vI rn, vR (Q 8), vI wn])), ((Q 1), cL E 310 a), ((Q 2), cL E 310 s2), ((Q 3), cL E 620 s3), ((Q 4), cZ E 2 s4), ((Q 5), cI E 80 tx), ((Q 6), cI E 24 cosT), ((Q 7), cI E 16 rr), ((Q 8), cI E 120 ww)]) := by
  refine Mc.intro (cc := cX11_at) (maxL := 4) (ret := (some .int)) (lv0 := [(0, vR (Q 0)), (1, vI p), (2, vI i), (3, vI w)]) (by decide +kernel) rfl rfl (Nat.le_of_ble_eq_true rfl) ?_
  intro p9 e9 s9 m9 args9 below9 meth9 c9 A9 C hr hmn
  have C : Cx p9 s9 m9 args9 meth9 c9 E A9 4 cX11_at wsX11_at RX11 := C
  have hI0 := hI
  obtain ⟨iP, i4, iR, iE, iN, ⟨i21, i22, i23, i24, i25, i26, i27, i28⟩, iD, iW, i35, iS, iM, i90, i91, i94, i95, i96, i97, iT, iK, i104, iPn, iPc⟩ := hI
  refine g_iload_n C 1 rfl dX11_at_0 rfl ?_
  refine g_callS C (As := [vI p]) (wc := []) (wr := [((Q 0), .inr (12, [vR (Q 1), vR (Q 2), vR (Q 3), vR (Q 4), vR (Q 5), vI pn, vR (Q 6), vL f0, vL f1, vL f2, vL f3, vL px, vL py, vL pb, vI rg, vI wr, vR (Q 7), vI rn, vR (Q 8), vI wn])), ((Q 1), cL E 310 a), ((Q 2), cL E 310 s2), ((Q 3), cL E 620 s3), ((Q 4), cZ E 2 s4), ((Q 5), cI E 80 tx), ((Q 6), cI E 24 cosT), ((Q 7), cI E 16 rr), ((Q 8), cI E 120 ww)]) (st := []) gX11_at_X11_isPolygon rfl (K_m_isPoly l E p b_p) hyd_X11_isPolygon rfl [] [0, 1, 2, 3, 4, 5, 6, 7, 8] rfl rfl rfl rfl rfl (by decide) ⟨rfl, rfl⟩ ⟨Nat.le_of_ble_eq_true rfl, Nat.le_of_ble_eq_true rfl, Nat.le_of_ble_eq_true rfl, Nat.le_of_ble_eq_true rfl⟩ (Nat.le_of_ble_eq_true rfl) dX11_at_1 (rfl : _ = 0) (rfl : _ = 0) rfl ?_
  rintro _ _ ⟨rfl, rfl⟩
  refine g_is (ws' := [((Q 0), .inr (12, [vR (Q 1), vR (Q 2), vR (Q 3), vR (Q 4), vR (Q 5), vI pn, vR (Q 6), vL f0, vL f1, vL f2, vL f3, vL px, vL py, vL pb, vI rg, vI wr, vR (Q 7), vI rn, vR (Q 8), vI wn])), ((Q 1), cL E 310 a), ((Q 2), cL E 310 s2), ((Q 3), cL E 620 s3), ((Q 4), cZ E 2 s4), ((Q 5), cI E 80 tx), ((Q 6), cI E 24 cosT), ((Q 7), cI E 16 rr), ((Q 8), cI E 120 ww)]) (st' := [vI (bP (0 ≤ p ∧ p ≤ 4))]) rfl rfl ?_
  refine g_ifb_eq C (tgt := 24) dX11_at_4 (by decide) rfl (fun c_1 => ?_) (fun c_1 => ?_)
  · refine g_iconst C dX11_at_24 rfl ?_
    refine g_top (v' := vI (q_at a p i w)) (congrArg (fun z_ : Int => vI z_) (show (q_at a p i w) = (-1) by unfold q_at; (repeat' split) <;> first | rfl | omega | contradiction)) ?_
    exact g_iret C hr rfl (Nat.le_of_ble_eq_true rfl) (Nat.le_of_ble_eq_true rfl) dX11_at_25 ⟨rfl, rfl⟩
  have n8 := iPn p (by omega) (by omega)
  refine g_iload_n C 2 rfl dX11_at_7 rfl ?_
  refine g_i2l C (b_i) rfl dX11_at_8 rfl ?_
  refine g_lconst0 C dX11_at_9 rfl ?_
  refine g_aload_n C 0 rfl dX11_at_10 rfl ?_
  refine g_iload_n C 1 rfl dX11_at_11 rfl ?_
  refine g_callV C (b := (Q 0)) (As := [vI p]) (wc := [((Q 0), .inr (12, [vR (Q 1), vR (Q 2), vR (Q 3), vR (Q 4), vR (Q 5), vI pn, vR (Q 6), vL f0, vL f1, vL f2, vL f3, vL px, vL py, vL pb, vI rg, vI wr, vR (Q 7), vI rn, vR (Q 8), vI wn])), ((Q 1), cL E 310 a)]) (wr := [((Q 2), cL E 310 s2), ((Q 3), cL E 620 s3), ((Q 4), cZ E 2 s4), ((Q 5), cI E 80 tx), ((Q 6), cI E 24 cosT), ((Q 7), cI E 16 rr), ((Q 8), cI E 120 ww)]) (st := [vL 0, vL i]) gX11_at_X11_corners (q9 := 0) (ci := 12) rfl rfl rfl (K_m_corners l E Q pn f0 f1 f2 f3 px py pb rg wr rn wn a p c_1) hyd_X11_corners rfl [0, 1] [2, 3, 4, 5, 6, 7, 8] rfl rfl rfl rfl rfl (by decide) ⟨rfl, rfl⟩ ⟨Nat.le_of_ble_eq_true rfl, Nat.le_of_ble_eq_true rfl, Nat.le_of_ble_eq_true rfl, Nat.le_of_ble_eq_true rfl⟩ (Nat.le_of_ble_eq_true rfl) dX11_at_12 (rfl : _ = 0) (rfl : _ = 0) rfl ?_
  rintro _ _ ⟨rfl, rfl⟩
  refine g_is (ws' := [((Q 2), cL E 310 s2), ((Q 3), cL E 620 s3), ((Q 4), cZ E 2 s4), ((Q 5), cI E 80 tx), ((Q 6), cI E 24 cosT), ((Q 7), cI E 16 rr), ((Q 8), cI E 120 ww), ((Q 0), .inr (12, [vR (Q 1), vR (Q 2), vR (Q 3), vR (Q 4), vR (Q 5), vI pn, vR (Q 6), vL f0, vL f1, vL f2, vL f3, vL px, vL py, vL pb, vI rg, vI wr, vR (Q 7), vI rn, vR (Q 8), vI wn])), ((Q 1), cL E 310 a)]) (st' := [vI (a (225 + (17 * p))), vL 0, vL i]) rfl rfl ?_
  refine g_sub (ws' := [((Q 0), .inr (12, [vR (Q 1), vR (Q 2), vR (Q 3), vR (Q 4), vR (Q 5), vI pn, vR (Q 6), vL f0, vL f1, vL f2, vL f3, vL px, vL py, vL pb, vI rg, vI wr, vR (Q 7), vI rn, vR (Q 8), vI wn])), ((Q 1), cL E 310 a), ((Q 2), cL E 310 s2), ((Q 3), cL E 620 s3), ((Q 4), cZ E 2 s4), ((Q 5), cI E 80 tx), ((Q 6), cI E 24 cosT), ((Q 7), cI E 16 rr), ((Q 8), cI E 120 ww)]) [7, 8, 0, 1, 2, 3, 4, 5, 6] rfl rfl rfl ?_
  refine g_iconst C dX11_at_15 rfl ?_
  refine g_isub C rfl dX11_at_16 rfl ?_
  refine g_i2l C ⟨by omega, by omega⟩ rfl dX11_at_17 rfl ?_
  refine g_callS C (As := [vL i, vL 0, vL ((a (225 + (17 * p))) - 1)]) (wc := []) (wr := [((Q 0), .inr (12, [vR (Q 1), vR (Q 2), vR (Q 3), vR (Q 4), vR (Q 5), vI pn, vR (Q 6), vL f0, vL f1, vL f2, vL f3, vL px, vL py, vL pb, vI rg, vI wr, vR (Q 7), vI rn, vR (Q 8), vI wn])), ((Q 1), cL E 310 a), ((Q 2), cL E 310 s2), ((Q 3), cL E 620 s3), ((Q 4), cZ E 2 s4), ((Q 5), cI E 80 tx), ((Q 6), cI E 24 cosT), ((Q 7), cI E 16 rr), ((Q 8), cI E 120 ww)]) (st := []) gX11_at_X11_in rfl (K_m_in l E i 0 ((a (225 + (17 * p))) - 1) ⟨by omega, by omega⟩ ⟨by omega, by omega⟩ ⟨by omega, by omega⟩) hyd_X11_in rfl [] [0, 1, 2, 3, 4, 5, 6, 7, 8] rfl rfl rfl rfl rfl (by decide) ⟨rfl, rfl⟩ ⟨Nat.le_of_ble_eq_true rfl, Nat.le_of_ble_eq_true rfl, Nat.le_of_ble_eq_true rfl, Nat.le_of_ble_eq_true rfl⟩ (Nat.le_of_ble_eq_true rfl) dX11_at_18 (rfl : _ = 0) (rfl : _ = 0) rfl ?_
  rintro _ _ ⟨rfl, rfl⟩
  refine g_is (ws' := [((Q 0), .inr (12, [vR (Q 1), vR (Q 2), vR (Q 3), vR (Q 4), vR (Q 5), vI pn, vR (Q 6), vL f0, vL f1, vL f2, vL f3, vL px, vL py, vL pb, vI rg, vI wr, vR (Q 7), vI rn, vR (Q 8), vI wn])), ((Q 1), cL E 310 a), ((Q 2), cL E 310 s2), ((Q 3), cL E 620 s3), ((Q 4), cZ E 2 s4), ((Q 5), cI E 80 tx), ((Q 6), cI E 24 cosT), ((Q 7), cI E 16 rr), ((Q 8), cI E 120 ww)]) (st' := [vI (bP (0 ≤ i ∧ i ≤ ((a (225 + (17 * p))) - 1)))]) rfl rfl ?_
  refine g_ifb_ne C (tgt := 26) dX11_at_21 (by decide) rfl (fun c_2 => ?_) (fun c_2 => ?_)
  · refine g_iload_n C 3 rfl dX11_at_26 rfl ?_
    refine g_i2l C (b_w) rfl dX11_at_27 rfl ?_
    refine g_lconst0 C dX11_at_28 rfl ?_
    refine g_lconst1 C dX11_at_29 rfl ?_
    refine g_callS C (As := [vL w, vL 0, vL 1]) (wc := []) (wr := [((Q 0), .inr (12, [vR (Q 1), vR (Q 2), vR (Q 3), vR (Q 4), vR (Q 5), vI pn, vR (Q 6), vL f0, vL f1, vL f2, vL f3, vL px, vL py, vL pb, vI rg, vI wr, vR (Q 7), vI rn, vR (Q 8), vI wn])), ((Q 1), cL E 310 a), ((Q 2), cL E 310 s2), ((Q 3), cL E 620 s3), ((Q 4), cZ E 2 s4), ((Q 5), cI E 80 tx), ((Q 6), cI E 24 cosT), ((Q 7), cI E 16 rr), ((Q 8), cI E 120 ww)]) (st := []) gX11_at_X11_in rfl (K_m_in l E w 0 1 ⟨by omega, by omega⟩ ⟨by omega, by omega⟩ ⟨by omega, by omega⟩) hyd_X11_in rfl [] [0, 1, 2, 3, 4, 5, 6, 7, 8] rfl rfl rfl rfl rfl (by decide) ⟨rfl, rfl⟩ ⟨Nat.le_of_ble_eq_true rfl, Nat.le_of_ble_eq_true rfl, Nat.le_of_ble_eq_true rfl, Nat.le_of_ble_eq_true rfl⟩ (Nat.le_of_ble_eq_true rfl) dX11_at_30 (rfl : _ = 0) (rfl : _ = 0) rfl ?_
    rintro _ _ ⟨rfl, rfl⟩
    refine g_is (ws' := [((Q 0), .inr (12, [vR (Q 1), vR (Q 2), vR (Q 3), vR (Q 4), vR (Q 5), vI pn, vR (Q 6), vL f0, vL f1, vL f2, vL f3, vL px, vL py, vL pb, vI rg, vI wr, vR (Q 7), vI rn, vR (Q 8), vI wn])), ((Q 1), cL E 310 a), ((Q 2), cL E 310 s2), ((Q 3), cL E 620 s3), ((Q 4), cZ E 2 s4), ((Q 5), cI E 80 tx), ((Q 6), cI E 24 cosT), ((Q 7), cI E 16 rr), ((Q 8), cI E 120 ww)]) (st' := [vI (bP (0 ≤ w ∧ w ≤ 1))]) rfl rfl ?_
    refine g_ifb_eq C (tgt := 54) dX11_at_33 (by decide) rfl (fun c_3 => ?_) (fun c_3 => ?_)
    · refine g_bipush C (by decide) dX11_at_54 rfl ?_
      refine g_top (v' := vI (q_at a p i w)) (congrArg (fun z_ : Int => vI z_) (show (q_at a p i w) = (-2) by unfold q_at; (repeat' split) <;> first | rfl | omega | contradiction)) ?_
      exact g_iret C hr rfl (Nat.le_of_ble_eq_true rfl) (Nat.le_of_ble_eq_true rfl) dX11_at_56 ⟨rfl, rfl⟩
    refine g_aload_n C 0 rfl dX11_at_36 rfl ?_
    refine g_get C 0 fd_X11_at_7 rfl rfl rfl dX11_at_37 rfl ?_
    refine g_iload_n C 1 rfl dX11_at_40 rfl ?_
    refine g_iload_n C 2 rfl dX11_at_41 rfl ?_
    refine g_iload_n C 3 rfl dX11_at_42 rfl ?_
    refine g_callS C (As := [vI p, vI i, vI w]) (wc := []) (wr := [((Q 0), .inr (12, [vR (Q 1), vR (Q 2), vR (Q 3), vR (Q 4), vR (Q 5), vI pn, vR (Q 6), vL f0, vL f1, vL f2, vL f3, vL px, vL py, vL pb, vI rg, vI wr, vR (Q 7), vI rn, vR (Q 8), vI wn])), ((Q 1), cL E 310 a), ((Q 2), cL E 310 s2), ((Q 3), cL E 620 s3), ((Q 4), cZ E 2 s4), ((Q 5), cI E 80 tx), ((Q 6), cI E 24 cosT), ((Q 7), cI E 16 rr), ((Q 8), cI E 120 ww)]) (st := [vR (Q 1)]) gX11_at_X11_cornerAt rfl (K_m_cornerAt l E p i w ) hyd_X11_cornerAt rfl [] [0, 1, 2, 3, 4, 5, 6, 7, 8] rfl rfl rfl rfl rfl (by decide) ⟨rfl, rfl⟩ ⟨Nat.le_of_ble_eq_true rfl, Nat.le_of_ble_eq_true rfl, Nat.le_of_ble_eq_true rfl, Nat.le_of_ble_eq_true rfl⟩ (Nat.le_of_ble_eq_true rfl) dX11_at_43 (rfl : _ = 0) (rfl : _ = 0) rfl ?_
    rintro _ _ ⟨rfl, rfl⟩
    refine g_is (ws' := [((Q 0), .inr (12, [vR (Q 1), vR (Q 2), vR (Q 3), vR (Q 4), vR (Q 5), vI pn, vR (Q 6), vL f0, vL f1, vL f2, vL f3, vL px, vL py, vL pb, vI rg, vI wr, vR (Q 7), vI rn, vR (Q 8), vI wn])), ((Q 1), cL E 310 a), ((Q 2), cL E 310 s2), ((Q 3), cL E 620 s3), ((Q 4), cZ E 2 s4), ((Q 5), cI E 80 tx), ((Q 6), cI E 24 cosT), ((Q 7), cI E 16 rr), ((Q 8), cI E 120 ww)]) (st' := [vI (((226 + (17 * p)) + (2 * i)) + w), vR (Q 1)]) rfl rfl ?_
    refine g_lald C 1 rfl (by omega) (by omega) (by decide) rfl dX11_at_46 rfl ?_
    refine g_l2i C rfl dX11_at_47 rfl ?_
    refine g_ldc C (x := 100000) w_X11_at_k91 (by decide) dX11_at_48 rfl ?_
    refine g_iadd C rfl dX11_at_50 rfl ?_
    refine g_goto C (pc' := 56) dX11_at_51 (by decide) ?_
    refine g_top (v' := vI (q_at a p i w)) (congrArg (fun z_ : Int => vI z_) (show (q_at a p i w) = ((a (((226 + (17 * p)) + (2 * i)) + w)) + 100000) by unfold q_at; (repeat' split) <;> first | rfl | omega | contradiction)) ?_
    exact g_iret C hr rfl (Nat.le_of_ble_eq_true rfl) (Nat.le_of_ble_eq_true rfl) dX11_at_56 ⟨rfl, rfl⟩
  refine g_iconst C dX11_at_24 rfl ?_
  refine g_top (v' := vI (q_at a p i w)) (congrArg (fun z_ : Int => vI z_) (show (q_at a p i w) = (-1) by unfold q_at; (repeat' split) <;> first | rfl | omega | contradiction)) ?_
  exact g_iret C hr rfl (Nat.le_of_ble_eq_true rfl) (Nat.le_of_ble_eq_true rfl) dX11_at_25 ⟨rfl, rfl⟩

abbrev rm_M_sound : Room := { frames := 4, cells := 0, slots := 0, locals := 102 }
set_option maxHeartbeats 1000000 in
set_option maxRecDepth 100000 in
theorem M_sound (l : Launch) (E : Ev) (Q : Nat → Nat) (pn f0 f1 f2 f3 px py pb rg wr rn wn : Int) (a s2 s3 s4 tx rr ww : Int → Int) (B p : Int) (hI : Inv a B) (hB : B ≤ 2900000) (b_p : bi p) : Mc l yX11_sound wsX11_sound rm_M_sound E [vR (Q 0), vI p] [((Q 0), .inr (12, [vR (Q 1), vR (Q 2), vR (Q 3), vR (Q 4), vR (Q 5), vI pn, vR (Q 6), vL f0, vL f1, vL f2, vL f3, vL px, vL py, vL pb, vI rg, vI wr, vR (Q 7), vI rn, vR (Q 8), vI wn])), ((Q 1), cL E 310 a), ((Q 2), cL E 310 s2), ((Q 3), cL E 620 s3), ((Q 4), cZ E 2 s4), ((Q 5), cI E 80 tx), ((Q 6), cI E 24 cosT), ((Q 7), cI E 16 rr), ((Q 8), cI E 120 ww)] 0 0 (fun v9 w9 => v9 = some (vI (q_sound a p)) ∧ w9 = [((Q 0), .inr (12, [vR (Q 1), vR (Q 2), vR (Q 3), vR (Q 4), vR (Q 5), vI pn, vR (Q 6), vL f0, vL f1, vL f2, vL f3, vL px, vL py, vL pb, vI rg, vI wr, vR (Q 7), vI rn, vR (Q 8), vI wn])), ((Q 1), cL E 310 a), ((Q 2), cL E 310 s2), ((Q 3), cL E 620 s3), ((Q 4), cZ E 2 s4), ((Q 5), cI E 80 tx), ((Q 6), cI E 24 cosT), ((Q 7), cI E 16 rr), ((Q 8), cI E 120 ww)]) := by
  refine Mc.intro (cc := cX11_sound) (maxL := 2) (ret := (some .int)) (lv0 := [(0, vR (Q 0)), (1, vI p)]) (by decide +kernel) rfl rfl (Nat.le_of_ble_eq_true rfl) ?_
  intro p9 e9 s9 m9 args9 below9 meth9 c9 A9 C hr hmn
  have C : Cx p9 s9 m9 args9 meth9 c9 E A9 2 cX11_sound wsX11_sound RX11 := C
  have hI0 := hI
  obtain ⟨iP, i4, iR, iE, iN, ⟨i21, i22, i23, i24, i25, i26, i27, i28⟩, iD, iW, i35, iS, iM, i90, i91, i94, i95, i96, i97, iT, iK, i104, iPn, iPc⟩ := hI
  refine g_iload_n C 1 rfl dX11_sound_0 rfl ?_
  refine g_callS C (As := [vI p]) (wc := []) (wr := [((Q 0), .inr (12, [vR (Q 1), vR (Q 2), vR (Q 3), vR (Q 4), vR (Q 5), vI pn, vR (Q 6), vL f0, vL f1, vL f2, vL f3, vL px, vL py, vL pb, vI rg, vI wr, vR (Q 7), vI rn, vR (Q 8), vI wn])), ((Q 1), cL E 310 a), ((Q 2), cL E 310 s2), ((Q 3), cL E 620 s3), ((Q 4), cZ E 2 s4), ((Q 5), cI E 80 tx), ((Q 6), cI E 24 cosT), ((Q 7), cI E 16 rr), ((Q 8), cI E 120 ww)]) (st := []) gX11_sound_X11_isPolygon rfl (K_m_isPoly l E p b_p) hyd_X11_isPolygon rfl [] [0, 1, 2, 3, 4, 5, 6, 7, 8] rfl rfl rfl rfl rfl (by decide) ⟨rfl, rfl⟩ ⟨Nat.le_of_ble_eq_true rfl, Nat.le_of_ble_eq_true rfl, Nat.le_of_ble_eq_true rfl, Nat.le_of_ble_eq_true rfl⟩ (Nat.le_of_ble_eq_true rfl) dX11_sound_1 (rfl : _ = 0) (rfl : _ = 0) rfl ?_
  rintro _ _ ⟨rfl, rfl⟩
  refine g_is (ws' := [((Q 0), .inr (12, [vR (Q 1), vR (Q 2), vR (Q 3), vR (Q 4), vR (Q 5), vI pn, vR (Q 6), vL f0, vL f1, vL f2, vL f3, vL px, vL py, vL pb, vI rg, vI wr, vR (Q 7), vI rn, vR (Q 8), vI wn])), ((Q 1), cL E 310 a), ((Q 2), cL E 310 s2), ((Q 3), cL E 620 s3), ((Q 4), cZ E 2 s4), ((Q 5), cI E 80 tx), ((Q 6), cI E 24 cosT), ((Q 7), cI E 16 rr), ((Q 8), cI E 120 ww)]) (st' := [vI (bP (0 ≤ p ∧ p ≤ 4))]) rfl rfl ?_
  refine g_ifb_eq C (tgt := 15) dX11_sound_4 (by decide) rfl (fun c_1 => ?_) (fun c_1 => ?_)
  · refine g_iconst C dX11_sound_15 rfl ?_
    refine g_top (v' := vI (q_sound a p)) (congrArg (fun z_ : Int => vI z_) (show (q_sound a p) = (-1) by unfold q_sound; (repeat' split) <;> first | rfl | omega | contradiction)) ?_
    exact g_iret C hr rfl (Nat.le_of_ble_eq_true rfl) (Nat.le_of_ble_eq_true rfl) dX11_sound_16 ⟨rfl, rfl⟩
  refine g_aload_n C 0 rfl dX11_sound_7 rfl ?_
  refine g_iload_n C 1 rfl dX11_sound_8 rfl ?_
  refine g_callV C (b := (Q 0)) (As := [vI p]) (wc := [((Q 0), .inr (12, [vR (Q 1), vR (Q 2), vR (Q 3), vR (Q 4), vR (Q 5), vI pn, vR (Q 6), vL f0, vL f1, vL f2, vL f3, vL px, vL py, vL pb, vI rg, vI wr, vR (Q 7), vI rn, vR (Q 8), vI wn])), ((Q 1), cL E 310 a)]) (wr := [((Q 2), cL E 310 s2), ((Q 3), cL E 620 s3), ((Q 4), cZ E 2 s4), ((Q 5), cI E 80 tx), ((Q 6), cI E 24 cosT), ((Q 7), cI E 16 rr), ((Q 8), cI E 120 ww)]) (st := []) gX11_sound_X11_soundness (q9 := 0) (ci := 12) rfl rfl rfl (K_m_sound l E Q pn f0 f1 f2 f3 px py pb rg wr rn wn a p c_1 (iPn p (by omega) (by omega)) (fun k h0 h1 => (iPc p k (by omega) (by omega) h0 h1).1) (fun k h0 h1 => (iPc p k (by omega) (by omega) h0 h1).2)) hyd_X11_soundness rfl [0, 1] [2, 3, 4, 5, 6, 7, 8] rfl rfl rfl rfl rfl (by decide) ⟨rfl, rfl⟩ ⟨Nat.le_of_ble_eq_true rfl, Nat.le_of_ble_eq_true rfl, Nat.le_of_ble_eq_true rfl, Nat.le_of_ble_eq_true rfl⟩ (Nat.le_of_ble_eq_true rfl) dX11_sound_9 (rfl : _ = 0) (rfl : _ = 0) rfl ?_
  rintro _ _ ⟨rfl, rfl⟩
  refine g_is (ws' := [((Q 2), cL E 310 s2), ((Q 3), cL E 620 s3), ((Q 4), cZ E 2 s4), ((Q 5), cI E 80 tx), ((Q 6), cI E 24 cosT), ((Q 7), cI E 16 rr), ((Q 8), cI E 120 ww), ((Q 0), .inr (12, [vR (Q 1), vR (Q 2), vR (Q 3), vR (Q 4), vR (Q 5), vI pn, vR (Q 6), vL f0, vL f1, vL f2, vL f3, vL px, vL py, vL pb, vI rg, vI wr, vR (Q 7), vI rn, vR (Q 8), vI wn])), ((Q 1), cL E 310 a)]) (st' := [vI (sndA a p)]) rfl rfl ?_
  refine g_sub (ws' := [((Q 0), .inr (12, [vR (Q 1), vR (Q 2), vR (Q 3), vR (Q 4), vR (Q 5), vI pn, vR (Q 6), vL f0, vL f1, vL f2, vL f3, vL px, vL py, vL pb, vI rg, vI wr, vR (Q 7), vI rn, vR (Q 8), vI wn])), ((Q 1), cL E 310 a), ((Q 2), cL E 310 s2), ((Q 3), cL E 620 s3), ((Q 4), cZ E 2 s4), ((Q 5), cI E 80 tx), ((Q 6), cI E 24 cosT), ((Q 7), cI E 16 rr), ((Q 8), cI E 120 ww)]) [7, 8, 0, 1, 2, 3, 4, 5, 6] rfl rfl rfl ?_
  refine g_goto C (pc' := 16) dX11_sound_12 (by decide) ?_
  refine g_top (v' := vI (q_sound a p)) (congrArg (fun z_ : Int => vI z_) (show (q_sound a p) = (sndA a p) by unfold q_sound; (repeat' split) <;> first | rfl | omega | contradiction)) ?_
  exact g_iret C hr rfl (Nat.le_of_ble_eq_true rfl) (Nat.le_of_ble_eq_true rfl) dX11_sound_16 ⟨rfl, rfl⟩

theorem w_X11_contains_k106 : Cond.constantLong RX11 106 (-100000) ∈ wsX11_contains := by decide +kernel
theorem w_X11_contains_k108 : Cond.constantLong RX11 108 (100000) ∈ wsX11_contains := by decide +kernel
abbrev rm_M_contains : Room := { frames := 5, cells := 0, slots := 0, locals := 139 }
set_option maxHeartbeats 1000000 in
set_option maxRecDepth 100000 in
theorem M_contains (l : Launch) (E : Ev) (Q : Nat → Nat) (pn f0 f1 f2 f3 px py pb rg wr rn wn : Int) (a s2 s3 s4 tx rr ww : Int → Int) (B p x y : Int) (hI : Inv a B) (hB : B ≤ 2900000) (b_p : bi p) (b_x : bi x) (b_y : bi y) : Mc l yX11_contains wsX11_contains rm_M_contains E [vR (Q 0), vI p, vI x, vI y] [((Q 0), .inr (12, [vR (Q 1), vR (Q 2), vR (Q 3), vR (Q 4), vR (Q 5), vI pn, vR (Q 6), vL f0, vL f1, vL f2, vL f3, vL px, vL py, vL pb, vI rg, vI wr, vR (Q 7), vI rn, vR (Q 8), vI wn])), ((Q 1), cL E 310 a), ((Q 2), cL E 310 s2), ((Q 3), cL E 620 s3), ((Q 4), cZ E 2 s4), ((Q 5), cI E 80 tx), ((Q 6), cI E 24 cosT), ((Q 7), cI E 16 rr), ((Q 8), cI E 120 ww)] 0 0 (fun v9 w9 => v9 = some (vI (q_contains a p x y)) ∧ w9 = [((Q 0), .inr (12, [vR (Q 1), vR (Q 2), vR (Q 3), vR (Q 4), vR (Q 5), vI pn, vR (Q 6), vL f0, vL f1, vL f2, vL f3, vL px, vL py, vL pb, vI rg, vI wr, vR (Q 7), vI rn, vR (Q 8), vI wn])), ((Q 1), cL E 310 a), ((Q 2), cL E 310 s2), ((Q 3), cL E 620 s3), ((Q 4), cZ E 2 s4), ((Q 5), cI E 80 tx), ((Q 6), cI E 24 cosT), ((Q 7), cI E 16 rr), ((Q 8), cI E 120 ww)]) := by
  refine Mc.intro (cc := cX11_contains) (maxL := 4) (ret := (some .int)) (lv0 := [(0, vR (Q 0)), (1, vI p), (2, vI x), (3, vI y)]) (by decide +kernel) rfl rfl (Nat.le_of_ble_eq_true rfl) ?_
  intro p9 e9 s9 m9 args9 below9 meth9 c9 A9 C hr hmn
  have C : Cx p9 s9 m9 args9 meth9 c9 E A9 4 cX11_contains wsX11_contains RX11 := C
  have hI0 := hI
  obtain ⟨iP, i4, iR, iE, iN, ⟨i21, i22, i23, i24, i25, i26, i27, i28⟩, iD, iW, i35, iS, iM, i90, i91, i94, i95, i96, i97, iT, iK, i104, iPn, iPc⟩ := hI
  refine g_iload_n C 1 rfl dX11_contains_0 rfl ?_
  refine g_callS C (As := [vI p]) (wc := []) (wr := [((Q 0), .inr (12, [vR (Q 1), vR (Q 2), vR (Q 3), vR (Q 4), vR (Q 5), vI pn, vR (Q 6), vL f0, vL f1, vL f2, vL f3, vL px, vL py, vL pb, vI rg, vI wr, vR (Q 7), vI rn, vR (Q 8), vI wn])), ((Q 1), cL E 310 a), ((Q 2), cL E 310 s2), ((Q 3), cL E 620 s3), ((Q 4), cZ E 2 s4), ((Q 5), cI E 80 tx), ((Q 6), cI E 24 cosT), ((Q 7), cI E 16 rr), ((Q 8), cI E 120 ww)]) (st := []) gX11_contains_X11_isPolygon rfl (K_m_isPoly l E p b_p) hyd_X11_isPolygon rfl [] [0, 1, 2, 3, 4, 5, 6, 7, 8] rfl rfl rfl rfl rfl (by decide) ⟨rfl, rfl⟩ ⟨Nat.le_of_ble_eq_true rfl, Nat.le_of_ble_eq_true rfl, Nat.le_of_ble_eq_true rfl, Nat.le_of_ble_eq_true rfl⟩ (Nat.le_of_ble_eq_true rfl) dX11_contains_1 (rfl : _ = 0) (rfl : _ = 0) rfl ?_
  rintro _ _ ⟨rfl, rfl⟩
  refine g_is (ws' := [((Q 0), .inr (12, [vR (Q 1), vR (Q 2), vR (Q 3), vR (Q 4), vR (Q 5), vI pn, vR (Q 6), vL f0, vL f1, vL f2, vL f3, vL px, vL py, vL pb, vI rg, vI wr, vR (Q 7), vI rn, vR (Q 8), vI wn])), ((Q 1), cL E 310 a), ((Q 2), cL E 310 s2), ((Q 3), cL E 620 s3), ((Q 4), cZ E 2 s4), ((Q 5), cI E 80 tx), ((Q 6), cI E 24 cosT), ((Q 7), cI E 16 rr), ((Q 8), cI E 120 ww)]) (st' := [vI (bP (0 ≤ p ∧ p ≤ 4))]) rfl rfl ?_
  refine g_ifb_ne C (tgt := 9) dX11_contains_4 (by decide) rfl (fun c_1 => ?_) (fun c_1 => ?_)
  · refine g_iload_n C 2 rfl dX11_contains_9 rfl ?_
    refine g_i2l C (b_x) rfl dX11_contains_10 rfl ?_
    refine g_ldc2 C (x := (-100000)) w_X11_contains_k106 (by decide) dX11_contains_11 rfl ?_
    refine g_ldc2 C (x := 100000) w_X11_contains_k108 (by decide) dX11_contains_14 rfl ?_
    refine g_callS C (As := [vL x, vL (-100000), vL 100000]) (wc := []) (wr := [((Q 0), .inr (12, [vR (Q 1), vR (Q 2), vR (Q 3), vR (Q 4), vR (Q 5), vI pn, vR (Q 6), vL f0, vL f1, vL f2, vL f3, vL px, vL py, vL pb, vI rg, vI wr, vR (Q 7), vI rn, vR (Q 8), vI wn])), ((Q 1), cL E 310 a), ((Q 2), cL E 310 s2), ((Q 3), cL E 620 s3), ((Q 4), cZ E 2 s4), ((Q 5), cI E 80 tx), ((Q 6), cI E 24 cosT), ((Q 7), cI E 16 rr), ((Q 8), cI E 120 ww)]) (st := []) gX11_contains_X11_in rfl (K_m_in l E x (-100000) 100000 ⟨by omega, by omega⟩ ⟨by omega, by omega⟩ ⟨by omega, by omega⟩) hyd_X11_in rfl [] [0, 1, 2, 3, 4, 5, 6, 7, 8] rfl rfl rfl rfl rfl (by decide) ⟨rfl, rfl⟩ ⟨Nat.le_of_ble_eq_true rfl, Nat.le_of_ble_eq_true rfl, Nat.le_of_ble_eq_true rfl, Nat.le_of_ble_eq_true rfl⟩ (Nat.le_of_ble_eq_true rfl) dX11_contains_17 (rfl : _ = 0) (rfl : _ = 0) rfl ?_
    rintro _ _ ⟨rfl, rfl⟩
    refine g_is (ws' := [((Q 0), .inr (12, [vR (Q 1), vR (Q 2), vR (Q 3), vR (Q 4), vR (Q 5), vI pn, vR (Q 6), vL f0, vL f1, vL f2, vL f3, vL px, vL py, vL pb, vI rg, vI wr, vR (Q 7), vI rn, vR (Q 8), vI wn])), ((Q 1), cL E 310 a), ((Q 2), cL E 310 s2), ((Q 3), cL E 620 s3), ((Q 4), cZ E 2 s4), ((Q 5), cI E 80 tx), ((Q 6), cI E 24 cosT), ((Q 7), cI E 16 rr), ((Q 8), cI E 120 ww)]) (st' := [vI (bP ((-100000) ≤ x ∧ x ≤ 100000))]) rfl rfl ?_
    refine g_ifb_eq C (tgt := 37) dX11_contains_20 (by decide) rfl (fun c_2 => ?_) (fun c_2 => ?_)
    · refine g_bipush C (by decide) dX11_contains_37 rfl ?_
      refine g_top (v' := vI (q_contains a p x y)) (congrArg (fun z_ : Int => vI z_) (show (q_contains a p x y) = (-2) by unfold q_contains b01; (repeat' split) <;> first | rfl | omega | contradiction)) ?_
      exact g_iret C hr rfl (Nat.le_of_ble_eq_true rfl) (Nat.le_of_ble_eq_true rfl) dX11_contains_39 ⟨rfl, rfl⟩
    refine g_iload_n C 3 rfl dX11_contains_23 rfl ?_
    refine g_i2l C (b_y) rfl dX11_contains_24 rfl ?_
    refine g_ldc2 C (x := (-100000)) w_X11_contains_k106 (by decide) dX11_contains_25 rfl ?_
    refine g_ldc2 C (x := 100000) w_X11_contains_k108 (by decide) dX11_contains_28 rfl ?_
    refine g_callS C (As := [vL y, vL (-100000), vL 100000]) (wc := []) (wr := [((Q 0), .inr (12, [vR (Q 1), vR (Q 2), vR (Q 3), vR (Q 4), vR (Q 5), vI pn, vR (Q 6), vL f0, vL f1, vL f2, vL f3, vL px, vL py, vL pb, vI rg, vI wr, vR (Q 7), vI rn, vR (Q 8), vI wn])), ((Q 1), cL E 310 a), ((Q 2), cL E 310 s2), ((Q 3), cL E 620 s3), ((Q 4), cZ E 2 s4), ((Q 5), cI E 80 tx), ((Q 6), cI E 24 cosT), ((Q 7), cI E 16 rr), ((Q 8), cI E 120 ww)]) (st := []) gX11_contains_X11_in rfl (K_m_in l E y (-100000) 100000 ⟨by omega, by omega⟩ ⟨by omega, by omega⟩ ⟨by omega, by omega⟩) hyd_X11_in rfl [] [0, 1, 2, 3, 4, 5, 6, 7, 8] rfl rfl rfl rfl rfl (by decide) ⟨rfl, rfl⟩ ⟨Nat.le_of_ble_eq_true rfl, Nat.le_of_ble_eq_true rfl, Nat.le_of_ble_eq_true rfl, Nat.le_of_ble_eq_true rfl⟩ (Nat.le_of_ble_eq_true rfl) dX11_contains_31 (rfl : _ = 0) (rfl : _ = 0) rfl ?_
    rintro _ _ ⟨rfl, rfl⟩
    refine g_is (ws' := [((Q 0), .inr (12, [vR (Q 1), vR (Q 2), vR (Q 3), vR (Q 4), vR (Q 5), vI pn, vR (Q 6), vL f0, vL f1, vL f2, vL f3, vL px, vL py, vL pb, vI rg, vI wr, vR (Q 7), vI rn, vR (Q 8), vI wn])), ((Q 1), cL E 310 a), ((Q 2), cL E 310 s2), ((Q 3), cL E 620 s3), ((Q 4), cZ E 2 s4), ((Q 5), cI E 80 tx), ((Q 6), cI E 24 cosT), ((Q 7), cI E 16 rr), ((Q 8), cI E 120 ww)]) (st' := [vI (bP ((-100000) ≤ y ∧ y ≤ 100000))]) rfl rfl ?_
    refine g_ifb_ne C (tgt := 40) dX11_contains_34 (by decide) rfl (fun c_3 => ?_) (fun c_3 => ?_)
    · refine g_aload_n C 0 rfl dX11_contains_40 rfl ?_
      refine g_iload_n C 1 rfl dX11_contains_41 rfl ?_
      refine g_iload_n C 2 rfl dX11_contains_42 rfl ?_
      refine g_i2l C (b_x) rfl dX11_contains_43 rfl ?_
      refine g_iload_n C 3 rfl dX11_contains_44 rfl ?_
      refine g_i2l C (b_y) rfl dX11_contains_45 rfl ?_
      refine g_lconst1 C dX11_contains_46 rfl ?_
      refine g_callV C (b := (Q 0)) (As := [vI p, vL x, vL y, vL 1]) (wc := [((Q 0), .inr (12, [vR (Q 1), vR (Q 2), vR (Q 3), vR (Q 4), vR (Q 5), vI pn, vR (Q 6), vL f0, vL f1, vL f2, vL f3, vL px, vL py, vL pb, vI rg, vI wr, vR (Q 7), vI rn, vR (Q 8), vI wn])), ((Q 1), cL E 310 a)]) (wr := [((Q 2), cL E 310 s2), ((Q 3), cL E 620 s3), ((Q 4), cZ E 2 s4), ((Q 5), cI E 80 tx), ((Q 6), cI E 24 cosT), ((Q 7), cI E 16 rr), ((Q 8), cI E 120 ww)]) (st := []) gX11_contains_X11_holds (q9 := 0) (ci := 12) rfl rfl rfl (K_m_holds l E Q pn f0 f1 f2 f3 px py pb rg wr rn wn a p x y 1 c_1 (iPn p (by omega) (by omega)) (fun k h0 h1 => (iPc p k (by omega) (by omega) h0 h1).1) (fun k h0 h1 => (iPc p k (by omega) (by omega) h0 h1).2) ⟨by omega, by omega⟩ ⟨by omega, by omega⟩ ⟨by omega, by omega⟩) hyd_X11_holds rfl [0, 1] [2, 3, 4, 5, 6, 7, 8] rfl rfl rfl rfl rfl (by decide) ⟨rfl, rfl⟩ ⟨Nat.le_of_ble_eq_true rfl, Nat.le_of_ble_eq_true rfl, Nat.le_of_ble_eq_true rfl, Nat.le_of_ble_eq_true rfl⟩ (Nat.le_of_ble_eq_true rfl) dX11_contains_47 (rfl : _ = 0) (rfl : _ = 0) rfl ?_
      rintro _ _ ⟨rfl, rfl⟩
      refine g_is (ws' := [((Q 2), cL E 310 s2), ((Q 3), cL E 620 s3), ((Q 4), cZ E 2 s4), ((Q 5), cI E 80 tx), ((Q 6), cI E 24 cosT), ((Q 7), cI E 16 rr), ((Q 8), cI E 120 ww), ((Q 0), .inr (12, [vR (Q 1), vR (Q 2), vR (Q 3), vR (Q 4), vR (Q 5), vI pn, vR (Q 6), vL f0, vL f1, vL f2, vL f3, vL px, vL py, vL pb, vI rg, vI wr, vR (Q 7), vI rn, vR (Q 8), vI wn])), ((Q 1), cL E 310 a)]) (st' := [vI (bP (hldA a p x y 1 = true))]) rfl rfl ?_
      refine g_sub (ws' := [((Q 0), .inr (12, [vR (Q 1), vR (Q 2), vR (Q 3), vR (Q 4), vR (Q 5), vI pn, vR (Q 6), vL f0, vL f1, vL f2, vL f3, vL px, vL py, vL pb, vI rg, vI wr, vR (Q 7), vI rn, vR (Q 8), vI wn])), ((Q 1), cL E 310 a), ((Q 2), cL E 310 s2), ((Q 3), cL E 620 s3), ((Q 4), cZ E 2 s4), ((Q 5), cI E 80 tx), ((Q 6), cI E 24 cosT), ((Q 7), cI E 16 rr), ((Q 8), cI E 120 ww)]) [7, 8, 0, 1, 2, 3, 4, 5, 6] rfl rfl rfl ?_
      refine g_ifb_eq C (tgt := 57) dX11_contains_50 (by decide) rfl (fun c_4 => ?_) (fun c_4 => ?_)
      · refine g_iconst C dX11_contains_57 rfl ?_
        refine g_top (v' := vI (q_contains a p x y)) (congrArg (fun z_ : Int => vI z_) (show (q_contains a p x y) = 0 by unfold q_contains b01; (repeat' split) <;> first | rfl | omega | contradiction)) ?_
        exact g_iret C hr rfl (Nat.le_of_ble_eq_true rfl) (Nat.le_of_ble_eq_true rfl) dX11_contains_58 ⟨rfl, rfl⟩
      refine g_iconst C dX11_contains_53 rfl ?_
      refine g_goto C (pc' := 58) dX11_contains_54 (by decide) ?_
      refine g_top (v' := vI (q_contains a p x y)) (congrArg (fun z_ : Int => vI z_) (show (q_contains a p x y) = 1 by unfold q_contains b01; (repeat' split) <;> first | rfl | omega | contradiction)) ?_
      exact g_iret C hr rfl (Nat.le_of_ble_eq_true rfl) (Nat.le_of_ble_eq_true rfl) dX11_contains_58 ⟨rfl, rfl⟩
    refine g_bipush C (by decide) dX11_contains_37 rfl ?_
    refine g_top (v' := vI (q_contains a p x y)) (congrArg (fun z_ : Int => vI z_) (show (q_contains a p x y) = (-2) by unfold q_contains b01; (repeat' split) <;> first | rfl | omega | contradiction)) ?_
    exact g_iret C hr rfl (Nat.le_of_ble_eq_true rfl) (Nat.le_of_ble_eq_true rfl) dX11_contains_39 ⟨rfl, rfl⟩
  refine g_iconst C dX11_contains_7 rfl ?_
  refine g_top (v' := vI (q_contains a p x y)) (congrArg (fun z_ : Int => vI z_) (show (q_contains a p x y) = (-1) by unfold q_contains b01; (repeat' split) <;> first | rfl | omega | contradiction)) ?_
  exact g_iret C hr rfl (Nat.le_of_ble_eq_true rfl) (Nat.le_of_ble_eq_true rfl) dX11_contains_8 ⟨rfl, rfl⟩

theorem w_X11_takes_k46 : Cond.constantLong RX11 46 (20000) ∈ wsX11_takes := by decide +kernel
theorem w_X11_takes_k40 : Cond.constantLong RX11 40 (1000) ∈ wsX11_takes := by decide +kernel
theorem w_X11_takes_k36 : Cond.constantLong RX11 36 (10000) ∈ wsX11_takes := by decide +kernel
theorem w_X11_takes_k114 : Cond.constantLong RX11 114 (7) ∈ wsX11_takes := by decide +kernel
abbrev rm_K_m_takes : Room := { frames := 1, cells := 0, slots := 0, locals := 25 }
set_option maxHeartbeats 1000000 in
set_option maxRecDepth 100000 in
theorem K_m_takes (l : Launch) (E : Ev) (s v_ : Int) (bs : bi s) (bv : bi v_) : Mc l yX11_takes wsX11_takes rm_K_m_takes E [vI s, vI v_] [] 0 0 (fun v9 w9 => v9 = some (vI (bP (okS s v_))) ∧ w9 = []) := by
  refine Mc.intro (cc := cX11_takes) (maxL := 2) (ret := (some .boolean)) (lv0 := [(0, vI s), (1, vI v_)]) (by decide +kernel) rfl rfl (Nat.le_of_ble_eq_true rfl) ?_
  intro p9 e9 s9 m9 args9 below9 meth9 c9 A9 C hr hmn
  have C : Cx p9 s9 m9 args9 meth9 c9 E A9 2 cX11_takes wsX11_takes RX11 := C
  refine g_iload_n C 0 rfl dX11_takes_0 rfl ?_
  by_cases c_1 : 0 ≤ s ∧ s ≤ 7
  · rcases (show s = 0 ∨ s = 1 ∨ s = 2 ∨ s = 3 ∨ s = 4 ∨ s = 5 ∨ s = 6 ∨ s = 7 by omega) with c_1e | c_1e | c_1e | c_1e | c_1e | c_1e | c_1e | c_1e
    · subst c_1e
      refine g_tsIn C (pc' := 48) ⟨by decide, by decide⟩ (by decide) (by decide) (by rfl) dX11_takes_1 (by decide) ?_
      refine g_iload_n C 1 rfl dX11_takes_48 rfl ?_
      refine g_i2l C (bv) rfl dX11_takes_49 rfl ?_
      refine g_lconst1 C dX11_takes_50 rfl ?_
      refine g_ldc2 C (x := 20000) w_X11_takes_k46 (by decide) dX11_takes_51 rfl ?_
      refine g_callS C (As := [vL v_, vL 1, vL 20000]) (wc := []) (wr := []) (st := []) gX11_takes_X11_in rfl (K_m_in l E v_ 1 20000 ⟨by omega, by omega⟩ ⟨by omega, by omega⟩ ⟨by omega, by omega⟩) hyd_X11_in rfl [] [] rfl rfl rfl rfl rfl (by decide) ⟨rfl, rfl⟩ ⟨Nat.le_of_ble_eq_true rfl, Nat.le_of_ble_eq_true rfl, Nat.le_of_ble_eq_true rfl, Nat.le_of_ble_eq_true rfl⟩ (Nat.le_of_ble_eq_true rfl) dX11_takes_54 (rfl : _ = 0) (rfl : _ = 0) rfl ?_
      rintro _ _ ⟨rfl, rfl⟩
      refine g_is (ws' := []) (st' := [vI (bP (1 ≤ v_ ∧ v_ ≤ 20000))]) rfl rfl ?_
      refine g_top (v' := vI (bP (okS 0 v_))) (congrArg (fun z_ : Int => vI z_) (show (bP (okS 0 v_)) = (bP (1 ≤ v_ ∧ v_ ≤ 20000)) by first | exact bP_c ⟨fun h => h.2, fun h => ⟨by decide, h⟩⟩ | exact bP_f (fun h => by have h1 := h.1; omega))) ?_
      exact g_iret C hr (nrZ _) (Nat.le_of_ble_eq_true rfl) (Nat.le_of_ble_eq_true rfl) dX11_takes_57 ⟨rfl, rfl⟩
    · subst c_1e
      refine g_tsIn C (pc' := 58) ⟨by decide, by decide⟩ (by decide) (by decide) (by rfl) dX11_takes_1 (by decide) ?_
      refine g_iload_n C 1 rfl dX11_takes_58 rfl ?_
      refine g_i2l C (bv) rfl dX11_takes_59 rfl ?_
      refine g_lconst0 C dX11_takes_60 rfl ?_
      refine g_ldc2 C (x := 20000) w_X11_takes_k46 (by decide) dX11_takes_61 rfl ?_
      refine g_callS C (As := [vL v_, vL 0, vL 20000]) (wc := []) (wr := []) (st := []) gX11_takes_X11_in rfl (K_m_in l E v_ 0 20000 ⟨by omega, by omega⟩ ⟨by omega, by omega⟩ ⟨by omega, by omega⟩) hyd_X11_in rfl [] [] rfl rfl rfl rfl rfl (by decide) ⟨rfl, rfl⟩ ⟨Nat.le_of_ble_eq_true rfl, Nat.le_of_ble_eq_true rfl, Nat.le_of_ble_eq_true rfl, Nat.le_of_ble_eq_true rfl⟩ (Nat.le_of_ble_eq_true rfl) dX11_takes_64 (rfl : _ = 0) (rfl : _ = 0) rfl ?_
      rintro _ _ ⟨rfl, rfl⟩
      refine g_is (ws' := []) (st' := [vI (bP (0 ≤ v_ ∧ v_ ≤ 20000))]) rfl rfl ?_
      refine g_top (v' := vI (bP (okS 1 v_))) (congrArg (fun z_ : Int => vI z_) (show (bP (okS 1 v_)) = (bP (0 ≤ v_ ∧ v_ ≤ 20000)) by first | exact bP_c ⟨fun h => h.2, fun h => ⟨by decide, h⟩⟩ | exact bP_f (fun h => by have h1 := h.1; omega))) ?_
      exact g_iret C hr (nrZ _) (Nat.le_of_ble_eq_true rfl) (Nat.le_of_ble_eq_true rfl) dX11_takes_67 ⟨rfl, rfl⟩
    · subst c_1e
      refine g_tsIn C (pc' := 68) ⟨by decide, by decide⟩ (by decide) (by decide) (by rfl) dX11_takes_1 (by decide) ?_
      refine g_iload_n C 1 rfl dX11_takes_68 rfl ?_
      refine g_i2l C (bv) rfl dX11_takes_69 rfl ?_
      refine g_lconst0 C dX11_takes_70 rfl ?_
      refine g_ldc2 C (x := 1000) w_X11_takes_k40 (by decide) dX11_takes_71 rfl ?_
      refine g_callS C (As := [vL v_, vL 0, vL 1000]) (wc := []) (wr := []) (st := []) gX11_takes_X11_in rfl (K_m_in l E v_ 0 1000 ⟨by omega, by omega⟩ ⟨by omega, by omega⟩ ⟨by omega, by omega⟩) hyd_X11_in rfl [] [] rfl rfl rfl rfl rfl (by decide) ⟨rfl, rfl⟩ ⟨Nat.le_of_ble_eq_true rfl, Nat.le_of_ble_eq_true rfl, Nat.le_of_ble_eq_true rfl, Nat.le_of_ble_eq_true rfl⟩ (Nat.le_of_ble_eq_true rfl) dX11_takes_74 (rfl : _ = 0) (rfl : _ = 0) rfl ?_
      rintro _ _ ⟨rfl, rfl⟩
      refine g_is (ws' := []) (st' := [vI (bP (0 ≤ v_ ∧ v_ ≤ 1000))]) rfl rfl ?_
      refine g_top (v' := vI (bP (okS 2 v_))) (congrArg (fun z_ : Int => vI z_) (show (bP (okS 2 v_)) = (bP (0 ≤ v_ ∧ v_ ≤ 1000)) by first | exact bP_c ⟨fun h => h.2, fun h => ⟨by decide, h⟩⟩ | exact bP_f (fun h => by have h1 := h.1; omega))) ?_
      exact g_iret C hr (nrZ _) (Nat.le_of_ble_eq_true rfl) (Nat.le_of_ble_eq_true rfl) dX11_takes_77 ⟨rfl, rfl⟩
    · subst c_1e
      refine g_tsIn C (pc' := 58) ⟨by decide, by decide⟩ (by decide) (by decide) (by rfl) dX11_takes_1 (by decide) ?_
      refine g_iload_n C 1 rfl dX11_takes_58 rfl ?_
      refine g_i2l C (bv) rfl dX11_takes_59 rfl ?_
      refine g_lconst0 C dX11_takes_60 rfl ?_
      refine g_ldc2 C (x := 20000) w_X11_takes_k46 (by decide) dX11_takes_61 rfl ?_
      refine g_callS C (As := [vL v_, vL 0, vL 20000]) (wc := []) (wr := []) (st := []) gX11_takes_X11_in rfl (K_m_in l E v_ 0 20000 ⟨by omega, by omega⟩ ⟨by omega, by omega⟩ ⟨by omega, by omega⟩) hyd_X11_in rfl [] [] rfl rfl rfl rfl rfl (by decide) ⟨rfl, rfl⟩ ⟨Nat.le_of_ble_eq_true rfl, Nat.le_of_ble_eq_true rfl, Nat.le_of_ble_eq_true rfl, Nat.le_of_ble_eq_true rfl⟩ (Nat.le_of_ble_eq_true rfl) dX11_takes_64 (rfl : _ = 0) (rfl : _ = 0) rfl ?_
      rintro _ _ ⟨rfl, rfl⟩
      refine g_is (ws' := []) (st' := [vI (bP (0 ≤ v_ ∧ v_ ≤ 20000))]) rfl rfl ?_
      refine g_top (v' := vI (bP (okS 3 v_))) (congrArg (fun z_ : Int => vI z_) (show (bP (okS 3 v_)) = (bP (0 ≤ v_ ∧ v_ ≤ 20000)) by first | exact bP_c ⟨fun h => h.2, fun h => ⟨by decide, h⟩⟩ | exact bP_f (fun h => by have h1 := h.1; omega))) ?_
      exact g_iret C hr (nrZ _) (Nat.le_of_ble_eq_true rfl) (Nat.le_of_ble_eq_true rfl) dX11_takes_67 ⟨rfl, rfl⟩
    · subst c_1e
      refine g_tsIn C (pc' := 78) ⟨by decide, by decide⟩ (by decide) (by decide) (by rfl) dX11_takes_1 (by decide) ?_
      refine g_iload_n C 1 rfl dX11_takes_78 rfl ?_
      refine g_i2l C (bv) rfl dX11_takes_79 rfl ?_
      refine g_lconst0 C dX11_takes_80 rfl ?_
      refine g_ldc2 C (x := 10000) w_X11_takes_k36 (by decide) dX11_takes_81 rfl ?_
      refine g_callS C (As := [vL v_, vL 0, vL 10000]) (wc := []) (wr := []) (st := []) gX11_takes_X11_in rfl (K_m_in l E v_ 0 10000 ⟨by omega, by omega⟩ ⟨by omega, by omega⟩ ⟨by omega, by omega⟩) hyd_X11_in rfl [] [] rfl rfl rfl rfl rfl (by decide) ⟨rfl, rfl⟩ ⟨Nat.le_of_ble_eq_true rfl, Nat.le_of_ble_eq_true rfl, Nat.le_of_ble_eq_true rfl, Nat.le_of_ble_eq_true rfl⟩ (Nat.le_of_ble_eq_true rfl) dX11_takes_84 (rfl : _ = 0) (rfl : _ = 0) rfl ?_
      rintro _ _ ⟨rfl, rfl⟩
      refine g_is (ws' := []) (st' := [vI (bP (0 ≤ v_ ∧ v_ ≤ 10000))]) rfl rfl ?_
      refine g_top (v' := vI (bP (okS 4 v_))) (congrArg (fun z_ : Int => vI z_) (show (bP (okS 4 v_)) = (bP (0 ≤ v_ ∧ v_ ≤ 10000)) by first | exact bP_c ⟨fun h => h.2, fun h => ⟨by decide, h⟩⟩ | exact bP_f (fun h => by have h1 := h.1; omega))) ?_
      exact g_iret C hr (nrZ _) (Nat.le_of_ble_eq_true rfl) (Nat.le_of_ble_eq_true rfl) dX11_takes_87 ⟨rfl, rfl⟩
    · subst c_1e
      refine g_tsIn C (pc' := 88) ⟨by decide, by decide⟩ (by decide) (by decide) (by rfl) dX11_takes_1 (by decide) ?_
      refine g_iload_n C 1 rfl dX11_takes_88 rfl ?_
      refine g_i2l C (bv) rfl dX11_takes_89 rfl ?_
      refine g_lconst0 C dX11_takes_90 rfl ?_
      refine g_ldc2 C (x := 7) w_X11_takes_k114 (by decide) dX11_takes_91 rfl ?_
      refine g_callS C (As := [vL v_, vL 0, vL 7]) (wc := []) (wr := []) (st := []) gX11_takes_X11_in rfl (K_m_in l E v_ 0 7 ⟨by omega, by omega⟩ ⟨by omega, by omega⟩ ⟨by omega, by omega⟩) hyd_X11_in rfl [] [] rfl rfl rfl rfl rfl (by decide) ⟨rfl, rfl⟩ ⟨Nat.le_of_ble_eq_true rfl, Nat.le_of_ble_eq_true rfl, Nat.le_of_ble_eq_true rfl, Nat.le_of_ble_eq_true rfl⟩ (Nat.le_of_ble_eq_true rfl) dX11_takes_94 (rfl : _ = 0) (rfl : _ = 0) rfl ?_
      rintro _ _ ⟨rfl, rfl⟩
      refine g_is (ws' := []) (st' := [vI (bP (0 ≤ v_ ∧ v_ ≤ 7))]) rfl rfl ?_
      refine g_top (v' := vI (bP (okS 5 v_))) (congrArg (fun z_ : Int => vI z_) (show (bP (okS 5 v_)) = (bP (0 ≤ v_ ∧ v_ ≤ 7)) by first | exact bP_c ⟨fun h => h.2, fun h => ⟨by decide, h⟩⟩ | exact bP_f (fun h => by have h1 := h.1; omega))) ?_
      exact g_iret C hr (nrZ _) (Nat.le_of_ble_eq_true rfl) (Nat.le_of_ble_eq_true rfl) dX11_takes_97 ⟨rfl, rfl⟩
    · subst c_1e
      refine g_tsIn C (pc' := 98) ⟨by decide, by decide⟩ (by decide) (by decide) (by rfl) dX11_takes_1 (by decide) ?_
      refine g_iload_n C 1 rfl dX11_takes_98 rfl ?_
      refine g_i2l C (bv) rfl dX11_takes_99 rfl ?_
      refine g_lconst1 C dX11_takes_100 rfl ?_
      refine g_ldc2 C (x := 1000) w_X11_takes_k40 (by decide) dX11_takes_101 rfl ?_
      refine g_callS C (As := [vL v_, vL 1, vL 1000]) (wc := []) (wr := []) (st := []) gX11_takes_X11_in rfl (K_m_in l E v_ 1 1000 ⟨by omega, by omega⟩ ⟨by omega, by omega⟩ ⟨by omega, by omega⟩) hyd_X11_in rfl [] [] rfl rfl rfl rfl rfl (by decide) ⟨rfl, rfl⟩ ⟨Nat.le_of_ble_eq_true rfl, Nat.le_of_ble_eq_true rfl, Nat.le_of_ble_eq_true rfl, Nat.le_of_ble_eq_true rfl⟩ (Nat.le_of_ble_eq_true rfl) dX11_takes_104 (rfl : _ = 0) (rfl : _ = 0) rfl ?_
      rintro _ _ ⟨rfl, rfl⟩
      refine g_is (ws' := []) (st' := [vI (bP (1 ≤ v_ ∧ v_ ≤ 1000))]) rfl rfl ?_
      refine g_top (v' := vI (bP (okS 6 v_))) (congrArg (fun z_ : Int => vI z_) (show (bP (okS 6 v_)) = (bP (1 ≤ v_ ∧ v_ ≤ 1000)) by first | exact bP_c ⟨fun h => h.2, fun h => ⟨by decide, h⟩⟩ | exact bP_f (fun h => by have h1 := h.1; omega))) ?_
      exact g_iret C hr (nrZ _) (Nat.le_of_ble_eq_true rfl) (Nat.le_of_ble_eq_true rfl) dX11_takes_107 ⟨rfl, rfl⟩
    · subst c_1e
      refine g_tsIn C (pc' := 88) ⟨by decide, by decide⟩ (by decide) (by decide) (by rfl) dX11_takes_1 (by decide) ?_
      refine g_iload_n C 1 rfl dX11_takes_88 rfl ?_
      refine g_i2l C (bv) rfl dX11_takes_89 rfl ?_
      refine g_lconst0 C dX11_takes_90 rfl ?_
      refine g_ldc2 C (x := 7) w_X11_takes_k114 (by decide) dX11_takes_91 rfl ?_
      refine g_callS C (As := [vL v_, vL 0, vL 7]) (wc := []) (wr := []) (st := []) gX11_takes_X11_in rfl (K_m_in l E v_ 0 7 ⟨by omega, by omega⟩ ⟨by omega, by omega⟩ ⟨by omega, by omega⟩) hyd_X11_in rfl [] [] rfl rfl rfl rfl rfl (by decide) ⟨rfl, rfl⟩ ⟨Nat.le_of_ble_eq_true rfl, Nat.le_of_ble_eq_true rfl, Nat.le_of_ble_eq_true rfl, Nat.le_of_ble_eq_true rfl⟩ (Nat.le_of_ble_eq_true rfl) dX11_takes_94 (rfl : _ = 0) (rfl : _ = 0) rfl ?_
      rintro _ _ ⟨rfl, rfl⟩
      refine g_is (ws' := []) (st' := [vI (bP (0 ≤ v_ ∧ v_ ≤ 7))]) rfl rfl ?_
      refine g_top (v' := vI (bP (okS 7 v_))) (congrArg (fun z_ : Int => vI z_) (show (bP (okS 7 v_)) = (bP (0 ≤ v_ ∧ v_ ≤ 7)) by first | exact bP_c ⟨fun h => h.2, fun h => ⟨by decide, h⟩⟩ | exact bP_f (fun h => by have h1 := h.1; omega))) ?_
      exact g_iret C hr (nrZ _) (Nat.le_of_ble_eq_true rfl) (Nat.le_of_ble_eq_true rfl) dX11_takes_97 ⟨rfl, rfl⟩
  refine g_tsOut C (pc' := 108) (bs) (by omega) dX11_takes_1 (by decide) ?_
  refine g_iconst C dX11_takes_108 rfl ?_
  refine g_top (v' := vI (bP (okS s v_))) (congrArg (fun z_ : Int => vI z_) (show (bP (okS s v_)) = 0 by first | exact bP_c ⟨fun h => h.2, fun h => ⟨by decide, h⟩⟩ | exact bP_f (fun h => by have h1 := h.1; omega))) ?_
  exact g_iret C hr (nrZ _) (Nat.le_of_ble_eq_true rfl) (Nat.le_of_ble_eq_true rfl) dX11_takes_109 ⟨rfl, rfl⟩

theorem hyd_X11_takes : yX11_takes.cls ≠ "java/lang/invoke/MethodHandle" ∧ yX11_takes.cls ≠ "java/lang/invoke/VarHandle" ∧ (parseMethodDescriptor yX11_takes.desc).map (fun d => d.parameters.length) = some 2 := by decide +kernel
theorem in_X11_set_X11 : ∀ w ∈ u_ws RX11 TX11 20, w ∈ wsX11_set := by decide +kernel
theorem fd_X11_set_7 : fdk wsX11_set RX11 7 "ZoneRelayModel" RX11 TX11 20 0 := ⟨in_X11_set_X11, by decide +kernel, by decide, rfl⟩
abbrev rm_M_set : Room := { frames := 2, cells := 0, slots := 0, locals := 46 }
set_option maxHeartbeats 1000000 in
set_option maxRecDepth 100000 in
theorem M_set (l : Launch) (E : Ev) (Q : Nat → Nat) (pn f0 f1 f2 f3 px py pb rg wr rn wn : Int) (a s2 s3 s4 tx rr ww : Int → Int) (B s v_ : Int) (hI : Inv a B) (hB : B ≤ 2900000) (b_s : bi s) (b_v_ : bi v_) : Mc l yX11_set wsX11_set rm_M_set E [vR (Q 0), vI s, vI v_] [((Q 0), .inr (12, [vR (Q 1), vR (Q 2), vR (Q 3), vR (Q 4), vR (Q 5), vI pn, vR (Q 6), vL f0, vL f1, vL f2, vL f3, vL px, vL py, vL pb, vI rg, vI wr, vR (Q 7), vI rn, vR (Q 8), vI wn])), ((Q 1), cL E 310 a), ((Q 2), cL E 310 s2), ((Q 3), cL E 620 s3), ((Q 4), cZ E 2 s4), ((Q 5), cI E 80 tx), ((Q 6), cI E 24 cosT), ((Q 7), cI E 16 rr), ((Q 8), cI E 120 ww)] 0 0 (fun v9 w9 => v9 = some (vI (q_set a s v_)) ∧ w9 = [((Q 0), .inr (12, [vR (Q 1), vR (Q 2), vR (Q 3), vR (Q 4), vR (Q 5), vI pn, vR (Q 6), vL f0, vL f1, vL f2, vL f3, vL px, vL py, vL pb, vI rg, vI wr, vR (Q 7), vI rn, vR (Q 8), vI wn])), ((Q 1), cL E 310 (n_set a s v_)), ((Q 2), cL E 310 s2), ((Q 3), cL E 620 s3), ((Q 4), cZ E 2 s4), ((Q 5), cI E 80 tx), ((Q 6), cI E 24 cosT), ((Q 7), cI E 16 rr), ((Q 8), cI E 120 ww)]) := by
  refine Mc.intro (cc := cX11_set) (maxL := 4) (ret := (some .int)) (lv0 := [(0, vR (Q 0)), (1, vI s), (2, vI v_)]) (by decide +kernel) rfl rfl (Nat.le_of_ble_eq_true rfl) ?_
  intro p9 e9 s9 m9 args9 below9 meth9 c9 A9 C hr hmn
  have C : Cx p9 s9 m9 args9 meth9 c9 E A9 4 cX11_set wsX11_set RX11 := C
  have hI0 := hI
  obtain ⟨iP, i4, iR, iE, iN, ⟨i21, i22, i23, i24, i25, i26, i27, i28⟩, iD, iW, i35, iS, iM, i90, i91, i94, i95, i96, i97, iT, iK, i104, iPn, iPc⟩ := hI
  refine g_iload_n C 1 rfl dX11_set_0 rfl ?_
  refine g_iload_n C 2 rfl dX11_set_1 rfl ?_
  refine g_callS C (As := [vI s, vI v_]) (wc := []) (wr := [((Q 0), .inr (12, [vR (Q 1), vR (Q 2), vR (Q 3), vR (Q 4), vR (Q 5), vI pn, vR (Q 6), vL f0, vL f1, vL f2, vL f3, vL px, vL py, vL pb, vI rg, vI wr, vR (Q 7), vI rn, vR (Q 8), vI wn])), ((Q 1), cL E 310 a), ((Q 2), cL E 310 s2), ((Q 3), cL E 620 s3), ((Q 4), cZ E 2 s4), ((Q 5), cI E 80 tx), ((Q 6), cI E 24 cosT), ((Q 7), cI E 16 rr), ((Q 8), cI E 120 ww)]) (st := []) gX11_set_X11_takes rfl (K_m_takes l E s v_ b_s b_v_) hyd_X11_takes rfl [] [0, 1, 2, 3, 4, 5, 6, 7, 8] rfl rfl rfl rfl rfl (by decide) ⟨rfl, rfl⟩ ⟨Nat.le_of_ble_eq_true rfl, Nat.le_of_ble_eq_true rfl, Nat.le_of_ble_eq_true rfl, Nat.le_of_ble_eq_true rfl⟩ (Nat.le_of_ble_eq_true rfl) dX11_set_2 (rfl : _ = 0) (rfl : _ = 0) rfl ?_
  rintro _ _ ⟨rfl, rfl⟩
  refine g_is (ws' := [((Q 0), .inr (12, [vR (Q 1), vR (Q 2), vR (Q 3), vR (Q 4), vR (Q 5), vI pn, vR (Q 6), vL f0, vL f1, vL f2, vL f3, vL px, vL py, vL pb, vI rg, vI wr, vR (Q 7), vI rn, vR (Q 8), vI wn])), ((Q 1), cL E 310 a), ((Q 2), cL E 310 s2), ((Q 3), cL E 620 s3), ((Q 4), cZ E 2 s4), ((Q 5), cI E 80 tx), ((Q 6), cI E 24 cosT), ((Q 7), cI E 16 rr), ((Q 8), cI E 120 ww)]) (st' := [vI (bP (okS s v_))]) rfl rfl ?_
  refine g_ifb_ne C (tgt := 11) dX11_set_5 (by decide) rfl (fun c_1 => ?_) (fun c_1 => ?_)
  · refine g_aload_n C 0 rfl dX11_set_11 rfl ?_
    refine g_get C 0 fd_X11_set_7 rfl rfl rfl dX11_set_12 rfl ?_
    refine g_bipush C (by decide) dX11_set_15 rfl ?_
    refine g_iload_n C 1 rfl dX11_set_17 rfl ?_
    refine g_iadd C rfl dX11_set_18 rfl ?_
    refine g_lald C 1 rfl (by omega) (by omega) (by decide) rfl dX11_set_19 rfl ?_
    refine g_l2i C rfl dX11_set_20 rfl ?_
    refine g_istore_n C (lv' := [(0, vR (Q 0)), (1, vI s), (2, vI v_), (3, vI (a (21 + s)))]) [1, 2, 3, 0] (by decide) rfl rfl dX11_set_21 rfl ?_
    refine g_aload_n C 0 rfl dX11_set_22 rfl ?_
    refine g_get C 0 fd_X11_set_7 rfl rfl rfl dX11_set_23 rfl ?_
    refine g_bipush C (by decide) dX11_set_26 rfl ?_
    refine g_iload_n C 1 rfl dX11_set_28 rfl ?_
    refine g_iadd C rfl dX11_set_29 rfl ?_
    refine g_iload_n C 2 rfl dX11_set_30 rfl ?_
    refine g_i2l C (b_v_) rfl dX11_set_31 rfl ?_
    refine g_last C 1 rfl (by omega) (by omega) (by decide) (ws' := [((Q 0), .inr (12, [vR (Q 1), vR (Q 2), vR (Q 3), vR (Q 4), vR (Q 5), vI pn, vR (Q 6), vL f0, vL f1, vL f2, vL f3, vL px, vL py, vL pb, vI rg, vI wr, vR (Q 7), vI rn, vR (Q 8), vI wn])), ((Q 1), cL E 310 (ua a (21 + s) v_)), ((Q 2), cL E 310 s2), ((Q 3), cL E 620 s3), ((Q 4), cZ E 2 s4), ((Q 5), cI E 80 tx), ((Q 6), cI E 24 cosT), ((Q 7), cI E 16 rr), ((Q 8), cI E 120 ww)]) rfl dX11_set_32 rfl ?_
    refine g_iload_n C 3 rfl dX11_set_33 rfl ?_
    refine g_top (v' := vI (q_set a s v_)) (congrArg (fun z_ : Int => vI z_) (show (q_set a s v_) = (a (21 + s)) by unfold q_set; (repeat' split) <;> first | rfl | omega | contradiction)) ?_
    refine g_ws (ws' := [((Q 0), .inr (12, [vR (Q 1), vR (Q 2), vR (Q 3), vR (Q 4), vR (Q 5), vI pn, vR (Q 6), vL f0, vL f1, vL f2, vL f3, vL px, vL py, vL pb, vI rg, vI wr, vR (Q 7), vI rn, vR (Q 8), vI wn])), ((Q 1), cL E 310 (n_set a s v_)), ((Q 2), cL E 310 s2), ((Q 3), cL E 620 s3), ((Q 4), cZ E 2 s4), ((Q 5), cI E 80 tx), ((Q 6), cI E 24 cosT), ((Q 7), cI E 16 rr), ((Q 8), cI E 120 ww)]) (congrArg (fun z_ : Nat → Int64 => ([((Q 0), .inr (12, [vR (Q 1), vR (Q 2), vR (Q 3), vR (Q 4), vR (Q 5), vI pn, vR (Q 6), vL f0, vL f1, vL f2, vL f3, vL px, vL py, vL pb, vI rg, vI wr, vR (Q 7), vI rn, vR (Q 8), vI wn])), ((Q 1), .inl (E.2.1 1, 310, .inr (.inl z_))), ((Q 2), cL E 310 s2), ((Q 3), cL E 620 s3), ((Q 4), cZ E 2 s4), ((Q 5), cI E 80 tx), ((Q 6), cI E 24 cosT), ((Q 7), cI E 16 rr), ((Q 8), cI E 120 ww)] : va_W)) (show AL 310 (n_set a s v_) = AL 310 (ua a (21 + s) v_) from AL_c (fun k_ k0_ k1_ => by unfold n_set; (repeat' split) <;> first | rfl | omega | contradiction))) ?_
    exact g_iret C hr rfl (Nat.le_of_ble_eq_true rfl) (Nat.le_of_ble_eq_true rfl) dX11_set_34 ⟨rfl, rfl⟩
  refine g_bipush C (by decide) dX11_set_8 rfl ?_
  refine g_top (v' := vI (q_set a s v_)) (congrArg (fun z_ : Int => vI z_) (show (q_set a s v_) = (-2) by unfold q_set; (repeat' split) <;> first | rfl | omega | contradiction)) ?_
  refine g_ws (ws' := [((Q 0), .inr (12, [vR (Q 1), vR (Q 2), vR (Q 3), vR (Q 4), vR (Q 5), vI pn, vR (Q 6), vL f0, vL f1, vL f2, vL f3, vL px, vL py, vL pb, vI rg, vI wr, vR (Q 7), vI rn, vR (Q 8), vI wn])), ((Q 1), cL E 310 (n_set a s v_)), ((Q 2), cL E 310 s2), ((Q 3), cL E 620 s3), ((Q 4), cZ E 2 s4), ((Q 5), cI E 80 tx), ((Q 6), cI E 24 cosT), ((Q 7), cI E 16 rr), ((Q 8), cI E 120 ww)]) (congrArg (fun z_ : Nat → Int64 => ([((Q 0), .inr (12, [vR (Q 1), vR (Q 2), vR (Q 3), vR (Q 4), vR (Q 5), vI pn, vR (Q 6), vL f0, vL f1, vL f2, vL f3, vL px, vL py, vL pb, vI rg, vI wr, vR (Q 7), vI rn, vR (Q 8), vI wn])), ((Q 1), .inl (E.2.1 1, 310, .inr (.inl z_))), ((Q 2), cL E 310 s2), ((Q 3), cL E 620 s3), ((Q 4), cZ E 2 s4), ((Q 5), cI E 80 tx), ((Q 6), cI E 24 cosT), ((Q 7), cI E 16 rr), ((Q 8), cI E 120 ww)] : va_W)) (show AL 310 (n_set a s v_) = AL 310 a from AL_c (fun k_ k0_ k1_ => by unfold n_set; (repeat' split) <;> first | rfl | omega | contradiction))) ?_
  exact g_iret C hr rfl (Nat.le_of_ble_eq_true rfl) (Nat.le_of_ble_eq_true rfl) dX11_set_10 ⟨rfl, rfl⟩

theorem hyd_X11_isZone : yX11_isZone.cls ≠ "java/lang/invoke/MethodHandle" ∧ yX11_isZone.cls ≠ "java/lang/invoke/VarHandle" ∧ (parseMethodDescriptor yX11_isZone.desc).map (fun d => d.parameters.length) = some 1 := by decide +kernel
theorem w_X11_zone_k122 : Cond.constantLong RX11 122 (2400) ∈ wsX11_zone := by decide +kernel
theorem w_X11_zone_k72 : Cond.constantLong RX11 72 (2) ∈ wsX11_zone := by decide +kernel
theorem in_X11_zone_X11 : ∀ w ∈ u_ws RX11 TX11 20, w ∈ wsX11_zone := by decide +kernel
theorem fd_X11_zone_7 : fdk wsX11_zone RX11 7 "ZoneRelayModel" RX11 TX11 20 0 := ⟨in_X11_zone_X11, by decide +kernel, by decide, rfl⟩
abbrev rm_M_zone : Room := { frames := 2, cells := 0, slots := 0, locals := 45 }
set_option maxHeartbeats 1000000 in
set_option maxRecDepth 100000 in
theorem M_zone (l : Launch) (E : Ev) (Q : Nat → Nat) (pn f0 f1 f2 f3 px py pb rg wr rn wn : Int) (a s2 s3 s4 tx rr ww : Int → Int) (B z d w : Int) (hI : Inv a B) (hB : B ≤ 2900000) (b_z : bi z) (b_d : bi d) (b_w : bi w) : Mc l yX11_zone wsX11_zone rm_M_zone E [vR (Q 0), vI z, vI d, vI w] [((Q 0), .inr (12, [vR (Q 1), vR (Q 2), vR (Q 3), vR (Q 4), vR (Q 5), vI pn, vR (Q 6), vL f0, vL f1, vL f2, vL f3, vL px, vL py, vL pb, vI rg, vI wr, vR (Q 7), vI rn, vR (Q 8), vI wn])), ((Q 1), cL E 310 a), ((Q 2), cL E 310 s2), ((Q 3), cL E 620 s3), ((Q 4), cZ E 2 s4), ((Q 5), cI E 80 tx), ((Q 6), cI E 24 cosT), ((Q 7), cI E 16 rr), ((Q 8), cI E 120 ww)] 0 0 (fun v9 w9 => v9 = some (vI (q_zone a z d w)) ∧ w9 = [((Q 0), .inr (12, [vR (Q 1), vR (Q 2), vR (Q 3), vR (Q 4), vR (Q 5), vI pn, vR (Q 6), vL f0, vL f1, vL f2, vL f3, vL px, vL py, vL pb, vI rg, vI wr, vR (Q 7), vI rn, vR (Q 8), vI wn])), ((Q 1), cL E 310 (n_zone a z d w)), ((Q 2), cL E 310 s2), ((Q 3), cL E 620 s3), ((Q 4), cZ E 2 s4), ((Q 5), cI E 80 tx), ((Q 6), cI E 24 cosT), ((Q 7), cI E 16 rr), ((Q 8), cI E 120 ww)]) := by
  refine Mc.intro (cc := cX11_zone) (maxL := 5) (ret := (some .int)) (lv0 := [(0, vR (Q 0)), (1, vI z), (2, vI d), (3, vI w)]) (by decide +kernel) rfl rfl (Nat.le_of_ble_eq_true rfl) ?_
  intro p9 e9 s9 m9 args9 below9 meth9 c9 A9 C hr hmn
  have C : Cx p9 s9 m9 args9 meth9 c9 E A9 5 cX11_zone wsX11_zone RX11 := C
  have hI0 := hI
  obtain ⟨iP, i4, iR, iE, iN, ⟨i21, i22, i23, i24, i25, i26, i27, i28⟩, iD, iW, i35, iS, iM, i90, i91, i94, i95, i96, i97, iT, iK, i104, iPn, iPc⟩ := hI
  refine g_iload_n C 1 rfl dX11_zone_0 rfl ?_
  refine g_callS C (As := [vI z]) (wc := []) (wr := [((Q 0), .inr (12, [vR (Q 1), vR (Q 2), vR (Q 3), vR (Q 4), vR (Q 5), vI pn, vR (Q 6), vL f0, vL f1, vL f2, vL f3, vL px, vL py, vL pb, vI rg, vI wr, vR (Q 7), vI rn, vR (Q 8), vI wn])), ((Q 1), cL E 310 a), ((Q 2), cL E 310 s2), ((Q 3), cL E 620 s3), ((Q 4), cZ E 2 s4), ((Q 5), cI E 80 tx), ((Q 6), cI E 24 cosT), ((Q 7), cI E 16 rr), ((Q 8), cI E 120 ww)]) (st := []) gX11_zone_X11_isZone rfl (K_m_isZone l E z b_z) hyd_X11_isZone rfl [] [0, 1, 2, 3, 4, 5, 6, 7, 8] rfl rfl rfl rfl rfl (by decide) ⟨rfl, rfl⟩ ⟨Nat.le_of_ble_eq_true rfl, Nat.le_of_ble_eq_true rfl, Nat.le_of_ble_eq_true rfl, Nat.le_of_ble_eq_true rfl⟩ (Nat.le_of_ble_eq_true rfl) dX11_zone_1 (rfl : _ = 0) (rfl : _ = 0) rfl ?_
  rintro _ _ ⟨rfl, rfl⟩
  refine g_is (ws' := [((Q 0), .inr (12, [vR (Q 1), vR (Q 2), vR (Q 3), vR (Q 4), vR (Q 5), vI pn, vR (Q 6), vL f0, vL f1, vL f2, vL f3, vL px, vL py, vL pb, vI rg, vI wr, vR (Q 7), vI rn, vR (Q 8), vI wn])), ((Q 1), cL E 310 a), ((Q 2), cL E 310 s2), ((Q 3), cL E 620 s3), ((Q 4), cZ E 2 s4), ((Q 5), cI E 80 tx), ((Q 6), cI E 24 cosT), ((Q 7), cI E 16 rr), ((Q 8), cI E 120 ww)]) (st' := [vI (bP (0 ≤ z ∧ z ≤ 2))]) rfl rfl ?_
  refine g_ifb_ne C (tgt := 9) dX11_zone_4 (by decide) rfl (fun c_1 => ?_) (fun c_1 => ?_)
  · refine g_iload_n C 2 rfl dX11_zone_9 rfl ?_
    refine g_i2l C (b_d) rfl dX11_zone_10 rfl ?_
    refine g_lconst1 C dX11_zone_11 rfl ?_
    refine g_ldc2 C (x := 2400) w_X11_zone_k122 (by decide) dX11_zone_12 rfl ?_
    refine g_callS C (As := [vL d, vL 1, vL 2400]) (wc := []) (wr := [((Q 0), .inr (12, [vR (Q 1), vR (Q 2), vR (Q 3), vR (Q 4), vR (Q 5), vI pn, vR (Q 6), vL f0, vL f1, vL f2, vL f3, vL px, vL py, vL pb, vI rg, vI wr, vR (Q 7), vI rn, vR (Q 8), vI wn])), ((Q 1), cL E 310 a), ((Q 2), cL E 310 s2), ((Q 3), cL E 620 s3), ((Q 4), cZ E 2 s4), ((Q 5), cI E 80 tx), ((Q 6), cI E 24 cosT), ((Q 7), cI E 16 rr), ((Q 8), cI E 120 ww)]) (st := []) gX11_zone_X11_in rfl (K_m_in l E d 1 2400 ⟨by omega, by omega⟩ ⟨by omega, by omega⟩ ⟨by omega, by omega⟩) hyd_X11_in rfl [] [0, 1, 2, 3, 4, 5, 6, 7, 8] rfl rfl rfl rfl rfl (by decide) ⟨rfl, rfl⟩ ⟨Nat.le_of_ble_eq_true rfl, Nat.le_of_ble_eq_true rfl, Nat.le_of_ble_eq_true rfl, Nat.le_of_ble_eq_true rfl⟩ (Nat.le_of_ble_eq_true rfl) dX11_zone_15 (rfl : _ = 0) (rfl : _ = 0) rfl ?_
    rintro _ _ ⟨rfl, rfl⟩
    refine g_is (ws' := [((Q 0), .inr (12, [vR (Q 1), vR (Q 2), vR (Q 3), vR (Q 4), vR (Q 5), vI pn, vR (Q 6), vL f0, vL f1, vL f2, vL f3, vL px, vL py, vL pb, vI rg, vI wr, vR (Q 7), vI rn, vR (Q 8), vI wn])), ((Q 1), cL E 310 a), ((Q 2), cL E 310 s2), ((Q 3), cL E 620 s3), ((Q 4), cZ E 2 s4), ((Q 5), cI E 80 tx), ((Q 6), cI E 24 cosT), ((Q 7), cI E 16 rr), ((Q 8), cI E 120 ww)]) (st' := [vI (bP (1 ≤ d ∧ d ≤ 2400))]) rfl rfl ?_
    refine g_ifb_eq C (tgt := 33) dX11_zone_18 (by decide) rfl (fun c_2 => ?_) (fun c_2 => ?_)
    · refine g_bipush C (by decide) dX11_zone_33 rfl ?_
      refine g_top (v' := vI (q_zone a z d w)) (congrArg (fun z_ : Int => vI z_) (show (q_zone a z d w) = (-2) by unfold q_zone; (repeat' split) <;> first | rfl | omega | contradiction)) ?_
      refine g_ws (ws' := [((Q 0), .inr (12, [vR (Q 1), vR (Q 2), vR (Q 3), vR (Q 4), vR (Q 5), vI pn, vR (Q 6), vL f0, vL f1, vL f2, vL f3, vL px, vL py, vL pb, vI rg, vI wr, vR (Q 7), vI rn, vR (Q 8), vI wn])), ((Q 1), cL E 310 (n_zone a z d w)), ((Q 2), cL E 310 s2), ((Q 3), cL E 620 s3), ((Q 4), cZ E 2 s4), ((Q 5), cI E 80 tx), ((Q 6), cI E 24 cosT), ((Q 7), cI E 16 rr), ((Q 8), cI E 120 ww)]) (congrArg (fun z_ : Nat → Int64 => ([((Q 0), .inr (12, [vR (Q 1), vR (Q 2), vR (Q 3), vR (Q 4), vR (Q 5), vI pn, vR (Q 6), vL f0, vL f1, vL f2, vL f3, vL px, vL py, vL pb, vI rg, vI wr, vR (Q 7), vI rn, vR (Q 8), vI wn])), ((Q 1), .inl (E.2.1 1, 310, .inr (.inl z_))), ((Q 2), cL E 310 s2), ((Q 3), cL E 620 s3), ((Q 4), cZ E 2 s4), ((Q 5), cI E 80 tx), ((Q 6), cI E 24 cosT), ((Q 7), cI E 16 rr), ((Q 8), cI E 120 ww)] : va_W)) (show AL 310 (n_zone a z d w) = AL 310 a from AL_c (fun k_ k0_ k1_ => by unfold n_zone; (repeat' split) <;> first | rfl | omega | contradiction))) ?_
      exact g_iret C hr rfl (Nat.le_of_ble_eq_true rfl) (Nat.le_of_ble_eq_true rfl) dX11_zone_35 ⟨rfl, rfl⟩
    refine g_iload_n C 3 rfl dX11_zone_21 rfl ?_
    refine g_i2l C (b_w) rfl dX11_zone_22 rfl ?_
    refine g_lconst0 C dX11_zone_23 rfl ?_
    refine g_ldc2 C (x := 2) w_X11_zone_k72 (by decide) dX11_zone_24 rfl ?_
    refine g_callS C (As := [vL w, vL 0, vL 2]) (wc := []) (wr := [((Q 0), .inr (12, [vR (Q 1), vR (Q 2), vR (Q 3), vR (Q 4), vR (Q 5), vI pn, vR (Q 6), vL f0, vL f1, vL f2, vL f3, vL px, vL py, vL pb, vI rg, vI wr, vR (Q 7), vI rn, vR (Q 8), vI wn])), ((Q 1), cL E 310 a), ((Q 2), cL E 310 s2), ((Q 3), cL E 620 s3), ((Q 4), cZ E 2 s4), ((Q 5), cI E 80 tx), ((Q 6), cI E 24 cosT), ((Q 7), cI E 16 rr), ((Q 8), cI E 120 ww)]) (st := []) gX11_zone_X11_in rfl (K_m_in l E w 0 2 ⟨by omega, by omega⟩ ⟨by omega, by omega⟩ ⟨by omega, by omega⟩) hyd_X11_in rfl [] [0, 1, 2, 3, 4, 5, 6, 7, 8] rfl rfl rfl rfl rfl (by decide) ⟨rfl, rfl⟩ ⟨Nat.le_of_ble_eq_true rfl, Nat.le_of_ble_eq_true rfl, Nat.le_of_ble_eq_true rfl, Nat.le_of_ble_eq_true rfl⟩ (Nat.le_of_ble_eq_true rfl) dX11_zone_27 (rfl : _ = 0) (rfl : _ = 0) rfl ?_
    rintro _ _ ⟨rfl, rfl⟩
    refine g_is (ws' := [((Q 0), .inr (12, [vR (Q 1), vR (Q 2), vR (Q 3), vR (Q 4), vR (Q 5), vI pn, vR (Q 6), vL f0, vL f1, vL f2, vL f3, vL px, vL py, vL pb, vI rg, vI wr, vR (Q 7), vI rn, vR (Q 8), vI wn])), ((Q 1), cL E 310 a), ((Q 2), cL E 310 s2), ((Q 3), cL E 620 s3), ((Q 4), cZ E 2 s4), ((Q 5), cI E 80 tx), ((Q 6), cI E 24 cosT), ((Q 7), cI E 16 rr), ((Q 8), cI E 120 ww)]) (st' := [vI (bP (0 ≤ w ∧ w ≤ 2))]) rfl rfl ?_
    refine g_ifb_ne C (tgt := 36) dX11_zone_30 (by decide) rfl (fun c_3 => ?_) (fun c_3 => ?_)
    · refine g_aload_n C 0 rfl dX11_zone_36 rfl ?_
      refine g_get C 0 fd_X11_zone_7 rfl rfl rfl dX11_zone_37 rfl ?_
      refine g_bipush C (by decide) dX11_zone_40 rfl ?_
      refine g_iload_n C 1 rfl dX11_zone_42 rfl ?_
      refine g_iadd C rfl dX11_zone_43 rfl ?_
      refine g_lald C 1 rfl (by omega) (by omega) (by decide) rfl dX11_zone_44 rfl ?_
      refine g_l2i C rfl dX11_zone_45 rfl ?_
      refine g_istore C (lv' := [(0, vR (Q 0)), (1, vI z), (2, vI d), (3, vI w), (4, vI (a (29 + z)))]) [1, 2, 3, 4, 0] (by decide) rfl rfl dX11_zone_46 rfl ?_
      refine g_aload_n C 0 rfl dX11_zone_48 rfl ?_
      refine g_get C 0 fd_X11_zone_7 rfl rfl rfl dX11_zone_49 rfl ?_
      refine g_bipush C (by decide) dX11_zone_52 rfl ?_
      refine g_iload_n C 1 rfl dX11_zone_54 rfl ?_
      refine g_iadd C rfl dX11_zone_55 rfl ?_
      refine g_iload_n C 2 rfl dX11_zone_56 rfl ?_
      refine g_i2l C (b_d) rfl dX11_zone_57 rfl ?_
      refine g_last C 1 rfl (by omega) (by omega) (by decide) (ws' := [((Q 0), .inr (12, [vR (Q 1), vR (Q 2), vR (Q 3), vR (Q 4), vR (Q 5), vI pn, vR (Q 6), vL f0, vL f1, vL f2, vL f3, vL px, vL py, vL pb, vI rg, vI wr, vR (Q 7), vI rn, vR (Q 8), vI wn])), ((Q 1), cL E 310 (ua a (29 + z) d)), ((Q 2), cL E 310 s2), ((Q 3), cL E 620 s3), ((Q 4), cZ E 2 s4), ((Q 5), cI E 80 tx), ((Q 6), cI E 24 cosT), ((Q 7), cI E 16 rr), ((Q 8), cI E 120 ww)]) rfl dX11_zone_58 rfl ?_
      refine g_aload_n C 0 rfl dX11_zone_59 rfl ?_
      refine g_get C 0 fd_X11_zone_7 rfl rfl rfl dX11_zone_60 rfl ?_
      refine g_bipush C (by decide) dX11_zone_63 rfl ?_
      refine g_iload_n C 1 rfl dX11_zone_65 rfl ?_
      refine g_iadd C rfl dX11_zone_66 rfl ?_
      refine g_iload_n C 3 rfl dX11_zone_67 rfl ?_
      refine g_i2l C (b_w) rfl dX11_zone_68 rfl ?_
      refine g_last C 1 rfl (by omega) (by omega) (by decide) (ws' := [((Q 0), .inr (12, [vR (Q 1), vR (Q 2), vR (Q 3), vR (Q 4), vR (Q 5), vI pn, vR (Q 6), vL f0, vL f1, vL f2, vL f3, vL px, vL py, vL pb, vI rg, vI wr, vR (Q 7), vI rn, vR (Q 8), vI wn])), ((Q 1), cL E 310 (ua (ua a (29 + z) d) (32 + z) w)), ((Q 2), cL E 310 s2), ((Q 3), cL E 620 s3), ((Q 4), cZ E 2 s4), ((Q 5), cI E 80 tx), ((Q 6), cI E 24 cosT), ((Q 7), cI E 16 rr), ((Q 8), cI E 120 ww)]) rfl dX11_zone_69 rfl ?_
      refine g_iload C 4 rfl dX11_zone_70 rfl ?_
      refine g_top (v' := vI (q_zone a z d w)) (congrArg (fun z_ : Int => vI z_) (show (q_zone a z d w) = (a (29 + z)) by unfold q_zone; (repeat' split) <;> first | rfl | omega | contradiction)) ?_
      refine g_ws (ws' := [((Q 0), .inr (12, [vR (Q 1), vR (Q 2), vR (Q 3), vR (Q 4), vR (Q 5), vI pn, vR (Q 6), vL f0, vL f1, vL f2, vL f3, vL px, vL py, vL pb, vI rg, vI wr, vR (Q 7), vI rn, vR (Q 8), vI wn])), ((Q 1), cL E 310 (n_zone a z d w)), ((Q 2), cL E 310 s2), ((Q 3), cL E 620 s3), ((Q 4), cZ E 2 s4), ((Q 5), cI E 80 tx), ((Q 6), cI E 24 cosT), ((Q 7), cI E 16 rr), ((Q 8), cI E 120 ww)]) (congrArg (fun z_ : Nat → Int64 => ([((Q 0), .inr (12, [vR (Q 1), vR (Q 2), vR (Q 3), vR (Q 4), vR (Q 5), vI pn, vR (Q 6), vL f0, vL f1, vL f2, vL f3, vL px, vL py, vL pb, vI rg, vI wr, vR (Q 7), vI rn, vR (Q 8), vI wn])), ((Q 1), .inl (E.2.1 1, 310, .inr (.inl z_))), ((Q 2), cL E 310 s2), ((Q 3), cL E 620 s3), ((Q 4), cZ E 2 s4), ((Q 5), cI E 80 tx), ((Q 6), cI E 24 cosT), ((Q 7), cI E 16 rr), ((Q 8), cI E 120 ww)] : va_W)) (show AL 310 (n_zone a z d w) = AL 310 (ua (ua a (29 + z) d) (32 + z) w) from AL_c (fun k_ k0_ k1_ => by unfold n_zone; (repeat' split) <;> first | rfl | omega | contradiction))) ?_
      exact g_iret C hr rfl (Nat.le_of_ble_eq_true rfl) (Nat.le_of_ble_eq_true rfl) dX11_zone_72 ⟨rfl, rfl⟩
    refine g_bipush C (by decide) dX11_zone_33 rfl ?_
    refine g_top (v' := vI (q_zone a z d w)) (congrArg (fun z_ : Int => vI z_) (show (q_zone a z d w) = (-2) by unfold q_zone; (repeat' split) <;> first | rfl | omega | contradiction)) ?_
    refine g_ws (ws' := [((Q 0), .inr (12, [vR (Q 1), vR (Q 2), vR (Q 3), vR (Q 4), vR (Q 5), vI pn, vR (Q 6), vL f0, vL f1, vL f2, vL f3, vL px, vL py, vL pb, vI rg, vI wr, vR (Q 7), vI rn, vR (Q 8), vI wn])), ((Q 1), cL E 310 (n_zone a z d w)), ((Q 2), cL E 310 s2), ((Q 3), cL E 620 s3), ((Q 4), cZ E 2 s4), ((Q 5), cI E 80 tx), ((Q 6), cI E 24 cosT), ((Q 7), cI E 16 rr), ((Q 8), cI E 120 ww)]) (congrArg (fun z_ : Nat → Int64 => ([((Q 0), .inr (12, [vR (Q 1), vR (Q 2), vR (Q 3), vR (Q 4), vR (Q 5), vI pn, vR (Q 6), vL f0, vL f1, vL f2, vL f3, vL px, vL py, vL pb, vI rg, vI wr, vR (Q 7), vI rn, vR (Q 8), vI wn])), ((Q 1), .inl (E.2.1 1, 310, .inr (.inl z_))), ((Q 2), cL E 310 s2), ((Q 3), cL E 620 s3), ((Q 4), cZ E 2 s4), ((Q 5), cI E 80 tx), ((Q 6), cI E 24 cosT), ((Q 7), cI E 16 rr), ((Q 8), cI E 120 ww)] : va_W)) (show AL 310 (n_zone a z d w) = AL 310 a from AL_c (fun k_ k0_ k1_ => by unfold n_zone; (repeat' split) <;> first | rfl | omega | contradiction))) ?_
    exact g_iret C hr rfl (Nat.le_of_ble_eq_true rfl) (Nat.le_of_ble_eq_true rfl) dX11_zone_35 ⟨rfl, rfl⟩
  refine g_iconst C dX11_zone_7 rfl ?_
  refine g_top (v' := vI (q_zone a z d w)) (congrArg (fun z_ : Int => vI z_) (show (q_zone a z d w) = (-1) by unfold q_zone; (repeat' split) <;> first | rfl | omega | contradiction)) ?_
  refine g_ws (ws' := [((Q 0), .inr (12, [vR (Q 1), vR (Q 2), vR (Q 3), vR (Q 4), vR (Q 5), vI pn, vR (Q 6), vL f0, vL f1, vL f2, vL f3, vL px, vL py, vL pb, vI rg, vI wr, vR (Q 7), vI rn, vR (Q 8), vI wn])), ((Q 1), cL E 310 (n_zone a z d w)), ((Q 2), cL E 310 s2), ((Q 3), cL E 620 s3), ((Q 4), cZ E 2 s4), ((Q 5), cI E 80 tx), ((Q 6), cI E 24 cosT), ((Q 7), cI E 16 rr), ((Q 8), cI E 120 ww)]) (congrArg (fun z_ : Nat → Int64 => ([((Q 0), .inr (12, [vR (Q 1), vR (Q 2), vR (Q 3), vR (Q 4), vR (Q 5), vI pn, vR (Q 6), vL f0, vL f1, vL f2, vL f3, vL px, vL py, vL pb, vI rg, vI wr, vR (Q 7), vI rn, vR (Q 8), vI wn])), ((Q 1), .inl (E.2.1 1, 310, .inr (.inl z_))), ((Q 2), cL E 310 s2), ((Q 3), cL E 620 s3), ((Q 4), cZ E 2 s4), ((Q 5), cI E 80 tx), ((Q 6), cI E 24 cosT), ((Q 7), cI E 16 rr), ((Q 8), cI E 120 ww)] : va_W)) (show AL 310 (n_zone a z d w) = AL 310 a from AL_c (fun k_ k0_ k1_ => by unfold n_zone; (repeat' split) <;> first | rfl | omega | contradiction))) ?_
  exact g_iret C hr rfl (Nat.le_of_ble_eq_true rfl) (Nat.le_of_ble_eq_true rfl) dX11_zone_8 ⟨rfl, rfl⟩

theorem hyd_X11_arePhasors : yX11_arePhasors.cls ≠ "java/lang/invoke/MethodHandle" ∧ yX11_arePhasors.cls ≠ "java/lang/invoke/VarHandle" ∧ (parseMethodDescriptor yX11_arePhasors.desc).map (fun d => d.parameters.length) = some 4 := by decide +kernel
theorem in_X11_apply_X11 : ∀ w ∈ u_ws RX11 TX11 20, w ∈ wsX11_apply := by decide +kernel
theorem fd_X11_apply_7 : fdk wsX11_apply RX11 7 "ZoneRelayModel" RX11 TX11 20 0 := ⟨in_X11_apply_X11, by decide +kernel, by decide, rfl⟩
abbrev rm_M_apply : Room := { frames := 2, cells := 0, slots := 0, locals := 48 }
set_option maxHeartbeats 1000000 in
set_option maxRecDepth 100000 in
theorem M_apply (l : Launch) (E : Ev) (Q : Nat → Nat) (pn f0 f1 f2 f3 px py pb rg wr rn wn : Int) (a s2 s3 s4 tx rr ww : Int → Int) (B va vb ia ib : Int) (hI : Inv a B) (hB : B ≤ 2900000) (b_va : bi va) (b_vb : bi vb) (b_ia : bi ia) (b_ib : bi ib) : Mc l yX11_apply wsX11_apply rm_M_apply E [vR (Q 0), vI va, vI vb, vI ia, vI ib] [((Q 0), .inr (12, [vR (Q 1), vR (Q 2), vR (Q 3), vR (Q 4), vR (Q 5), vI pn, vR (Q 6), vL f0, vL f1, vL f2, vL f3, vL px, vL py, vL pb, vI rg, vI wr, vR (Q 7), vI rn, vR (Q 8), vI wn])), ((Q 1), cL E 310 a), ((Q 2), cL E 310 s2), ((Q 3), cL E 620 s3), ((Q 4), cZ E 2 s4), ((Q 5), cI E 80 tx), ((Q 6), cI E 24 cosT), ((Q 7), cI E 16 rr), ((Q 8), cI E 120 ww)] 0 0 (fun v9 w9 => v9 = some (vI (q_apply a va vb ia ib)) ∧ w9 = [((Q 0), .inr (12, [vR (Q 1), vR (Q 2), vR (Q 3), vR (Q 4), vR (Q 5), vI pn, vR (Q 6), vL f0, vL f1, vL f2, vL f3, vL px, vL py, vL pb, vI rg, vI wr, vR (Q 7), vI rn, vR (Q 8), vI wn])), ((Q 1), cL E 310 (n_apply a va vb ia ib)), ((Q 2), cL E 310 s2), ((Q 3), cL E 620 s3), ((Q 4), cZ E 2 s4), ((Q 5), cI E 80 tx), ((Q 6), cI E 24 cosT), ((Q 7), cI E 16 rr), ((Q 8), cI E 120 ww)]) := by
  refine Mc.intro (cc := cX11_apply) (maxL := 5) (ret := (some .int)) (lv0 := [(0, vR (Q 0)), (1, vI va), (2, vI vb), (3, vI ia), (4, vI ib)]) (by decide +kernel) rfl rfl (Nat.le_of_ble_eq_true rfl) ?_
  intro p9 e9 s9 m9 args9 below9 meth9 c9 A9 C hr hmn
  have C : Cx p9 s9 m9 args9 meth9 c9 E A9 5 cX11_apply wsX11_apply RX11 := C
  have hI0 := hI
  obtain ⟨iP, i4, iR, iE, iN, ⟨i21, i22, i23, i24, i25, i26, i27, i28⟩, iD, iW, i35, iS, iM, i90, i91, i94, i95, i96, i97, iT, iK, i104, iPn, iPc⟩ := hI
  refine g_iload_n C 1 rfl dX11_apply_0 rfl ?_
  refine g_iload_n C 2 rfl dX11_apply_1 rfl ?_
  refine g_iload_n C 3 rfl dX11_apply_2 rfl ?_
  refine g_iload C 4 rfl dX11_apply_3 rfl ?_
  refine g_callS C (As := [vI va, vI vb, vI ia, vI ib]) (wc := []) (wr := [((Q 0), .inr (12, [vR (Q 1), vR (Q 2), vR (Q 3), vR (Q 4), vR (Q 5), vI pn, vR (Q 6), vL f0, vL f1, vL f2, vL f3, vL px, vL py, vL pb, vI rg, vI wr, vR (Q 7), vI rn, vR (Q 8), vI wn])), ((Q 1), cL E 310 a), ((Q 2), cL E 310 s2), ((Q 3), cL E 620 s3), ((Q 4), cZ E 2 s4), ((Q 5), cI E 80 tx), ((Q 6), cI E 24 cosT), ((Q 7), cI E 16 rr), ((Q 8), cI E 120 ww)]) (st := []) gX11_apply_X11_arePhasors rfl (K_m_arePh l E va vb ia ib b_va b_vb b_ia b_ib) hyd_X11_arePhasors rfl [] [0, 1, 2, 3, 4, 5, 6, 7, 8] rfl rfl rfl rfl rfl (by decide) ⟨rfl, rfl⟩ ⟨Nat.le_of_ble_eq_true rfl, Nat.le_of_ble_eq_true rfl, Nat.le_of_ble_eq_true rfl, Nat.le_of_ble_eq_true rfl⟩ (Nat.le_of_ble_eq_true rfl) dX11_apply_5 (rfl : _ = 0) (rfl : _ = 0) rfl ?_
  rintro _ _ ⟨rfl, rfl⟩
  refine g_is (ws' := [((Q 0), .inr (12, [vR (Q 1), vR (Q 2), vR (Q 3), vR (Q 4), vR (Q 5), vI pn, vR (Q 6), vL f0, vL f1, vL f2, vL f3, vL px, vL py, vL pb, vI rg, vI wr, vR (Q 7), vI rn, vR (Q 8), vI wn])), ((Q 1), cL E 310 a), ((Q 2), cL E 310 s2), ((Q 3), cL E 620 s3), ((Q 4), cZ E 2 s4), ((Q 5), cI E 80 tx), ((Q 6), cI E 24 cosT), ((Q 7), cI E 16 rr), ((Q 8), cI E 120 ww)]) (st' := [vI (bP ((-20000 ≤ va ∧ va ≤ 20000) ∧ (-20000 ≤ vb ∧ vb ≤ 20000) ∧ (-20000 ≤ ia ∧ ia ≤ 20000) ∧ (-20000 ≤ ib ∧ ib ≤ 20000)))]) rfl rfl ?_
  refine g_ifb_ne C (tgt := 14) dX11_apply_8 (by decide) rfl (fun c_1 => ?_) (fun c_1 => ?_)
  · refine g_aload_n C 0 rfl dX11_apply_14 rfl ?_
    refine g_iconst C dX11_apply_15 rfl ?_
    refine g_iload_n C 1 rfl dX11_apply_16 rfl ?_
    refine g_i2l C (b_va) rfl dX11_apply_17 rfl ?_
    refine g_iload_n C 2 rfl dX11_apply_18 rfl ?_
    refine g_i2l C (b_vb) rfl dX11_apply_19 rfl ?_
    refine g_iload_n C 3 rfl dX11_apply_20 rfl ?_
    refine g_i2l C (b_ia) rfl dX11_apply_21 rfl ?_
    refine g_iload C 4 rfl dX11_apply_22 rfl ?_
    refine g_i2l C (b_ib) rfl dX11_apply_24 rfl ?_
    refine g_callV C (b := (Q 0)) (As := [vI 0, vL va, vL vb, vL ia, vL ib]) (wc := [((Q 0), .inr (12, [vR (Q 1), vR (Q 2), vR (Q 3), vR (Q 4), vR (Q 5), vI pn, vR (Q 6), vL f0, vL f1, vL f2, vL f3, vL px, vL py, vL pb, vI rg, vI wr, vR (Q 7), vI rn, vR (Q 8), vI wn])), ((Q 1), cL E 310 a)]) (wr := [((Q 2), cL E 310 s2), ((Q 3), cL E 620 s3), ((Q 4), cZ E 2 s4), ((Q 5), cI E 80 tx), ((Q 6), cI E 24 cosT), ((Q 7), cI E 16 rr), ((Q 8), cI E 120 ww)]) (st := []) gX11_apply_X11_putFour (q9 := 0) (ci := 12) rfl rfl rfl (K_m_putFour l E Q pn f0 f1 f2 f3 px py pb rg wr rn wn a 0 va vb ia ib ⟨by decide, by decide⟩) hyd_X11_putFour rfl [0, 1] [2, 3, 4, 5, 6, 7, 8] rfl rfl rfl rfl rfl (by decide) ⟨rfl, rfl⟩ ⟨Nat.le_of_ble_eq_true rfl, Nat.le_of_ble_eq_true rfl, Nat.le_of_ble_eq_true rfl, Nat.le_of_ble_eq_true rfl⟩ (Nat.le_of_ble_eq_true rfl) dX11_apply_25 (rfl : _ = 0) (rfl : _ = 0) rfl ?_
    rintro _ _ ⟨rfl, rfl⟩
    refine g_is (ws' := [((Q 2), cL E 310 s2), ((Q 3), cL E 620 s3), ((Q 4), cZ E 2 s4), ((Q 5), cI E 80 tx), ((Q 6), cI E 24 cosT), ((Q 7), cI E 16 rr), ((Q 8), cI E 120 ww), ((Q 0), .inr (12, [vR (Q 1), vR (Q 2), vR (Q 3), vR (Q 4), vR (Q 5), vI pn, vR (Q 6), vL f0, vL f1, vL f2, vL f3, vL px, vL py, vL pb, vI rg, vI wr, vR (Q 7), vI rn, vR (Q 8), vI wn])), ((Q 1), cL E 310 (ua (ua (ua (ua a 0 va) (0 + 1) vb) (0 + 2) ia) (0 + 3) ib))]) (st' := []) rfl rfl ?_
    refine g_sub (ws' := [((Q 0), .inr (12, [vR (Q 1), vR (Q 2), vR (Q 3), vR (Q 4), vR (Q 5), vI pn, vR (Q 6), vL f0, vL f1, vL f2, vL f3, vL px, vL py, vL pb, vI rg, vI wr, vR (Q 7), vI rn, vR (Q 8), vI wn])), ((Q 1), cL E 310 (ua (ua (ua (ua a 0 va) (0 + 1) vb) (0 + 2) ia) (0 + 3) ib)), ((Q 2), cL E 310 s2), ((Q 3), cL E 620 s3), ((Q 4), cZ E 2 s4), ((Q 5), cI E 80 tx), ((Q 6), cI E 24 cosT), ((Q 7), cI E 16 rr), ((Q 8), cI E 120 ww)]) [7, 8, 0, 1, 2, 3, 4, 5, 6] rfl rfl rfl ?_
    refine g_aload_n C 0 rfl dX11_apply_28 rfl ?_
    refine g_get C 0 fd_X11_apply_7 rfl rfl rfl dX11_apply_29 rfl ?_
    refine g_iconst C dX11_apply_32 rfl ?_
    refine g_lconst0 C dX11_apply_33 rfl ?_
    refine g_last C 1 rfl (by decide) (by decide) (by decide) (ws' := [((Q 0), .inr (12, [vR (Q 1), vR (Q 2), vR (Q 3), vR (Q 4), vR (Q 5), vI pn, vR (Q 6), vL f0, vL f1, vL f2, vL f3, vL px, vL py, vL pb, vI rg, vI wr, vR (Q 7), vI rn, vR (Q 8), vI wn])), ((Q 1), cL E 310 (ua (ua (ua (ua (ua a 0 va) (0 + 1) vb) (0 + 2) ia) (0 + 3) ib) 4 0)), ((Q 2), cL E 310 s2), ((Q 3), cL E 620 s3), ((Q 4), cZ E 2 s4), ((Q 5), cI E 80 tx), ((Q 6), cI E 24 cosT), ((Q 7), cI E 16 rr), ((Q 8), cI E 120 ww)]) rfl dX11_apply_34 rfl ?_
    refine g_aload_n C 0 rfl dX11_apply_35 rfl ?_
    refine g_get C 0 fd_X11_apply_7 rfl rfl rfl dX11_apply_36 rfl ?_
    refine g_bipush C (by decide) dX11_apply_39 rfl ?_
    refine g_lald C 1 rfl (by decide) (by decide) (by decide) (r := ((ua (ua (ua (ua a 0 va) (0 + 1) vb) (0 + 2) ia) (0 + 3) ib) 35)) (by first | rfl | (simp [ua, sh, sh2]; done)) dX11_apply_41 rfl ?_
    refine g_l2i C rfl dX11_apply_42 rfl ?_
    refine g_top (v' := vI (q_apply a va vb ia ib)) (congrArg (fun z_ : Int => vI z_) (show (q_apply a va vb ia ib) = ((ua (ua (ua (ua a 0 va) (0 + 1) vb) (0 + 2) ia) (0 + 3) ib) 35) by unfold q_apply; (repeat' split) <;> first | rfl | omega | contradiction)) ?_
    refine g_ws (ws' := [((Q 0), .inr (12, [vR (Q 1), vR (Q 2), vR (Q 3), vR (Q 4), vR (Q 5), vI pn, vR (Q 6), vL f0, vL f1, vL f2, vL f3, vL px, vL py, vL pb, vI rg, vI wr, vR (Q 7), vI rn, vR (Q 8), vI wn])), ((Q 1), cL E 310 (n_apply a va vb ia ib)), ((Q 2), cL E 310 s2), ((Q 3), cL E 620 s3), ((Q 4), cZ E 2 s4), ((Q 5), cI E 80 tx), ((Q 6), cI E 24 cosT), ((Q 7), cI E 16 rr), ((Q 8), cI E 120 ww)]) (congrArg (fun z_ : Nat → Int64 => ([((Q 0), .inr (12, [vR (Q 1), vR (Q 2), vR (Q 3), vR (Q 4), vR (Q 5), vI pn, vR (Q 6), vL f0, vL f1, vL f2, vL f3, vL px, vL py, vL pb, vI rg, vI wr, vR (Q 7), vI rn, vR (Q 8), vI wn])), ((Q 1), .inl (E.2.1 1, 310, .inr (.inl z_))), ((Q 2), cL E 310 s2), ((Q 3), cL E 620 s3), ((Q 4), cZ E 2 s4), ((Q 5), cI E 80 tx), ((Q 6), cI E 24 cosT), ((Q 7), cI E 16 rr), ((Q 8), cI E 120 ww)] : va_W)) (show AL 310 (n_apply a va vb ia ib) = AL 310 (ua (ua (ua (ua (ua a 0 va) (0 + 1) vb) (0 + 2) ia) (0 + 3) ib) 4 0) from AL_c (fun k_ k0_ k1_ => by unfold n_apply s_jmp; (repeat' split) <;> first | rfl | omega | contradiction))) ?_
    exact g_iret C hr rfl (Nat.le_of_ble_eq_true rfl) (Nat.le_of_ble_eq_true rfl) dX11_apply_43 ⟨rfl, rfl⟩
  refine g_bipush C (by decide) dX11_apply_11 rfl ?_
  refine g_top (v' := vI (q_apply a va vb ia ib)) (congrArg (fun z_ : Int => vI z_) (show (q_apply a va vb ia ib) = (-2) by unfold q_apply; (repeat' split) <;> first | rfl | omega | contradiction)) ?_
  refine g_ws (ws' := [((Q 0), .inr (12, [vR (Q 1), vR (Q 2), vR (Q 3), vR (Q 4), vR (Q 5), vI pn, vR (Q 6), vL f0, vL f1, vL f2, vL f3, vL px, vL py, vL pb, vI rg, vI wr, vR (Q 7), vI rn, vR (Q 8), vI wn])), ((Q 1), cL E 310 (n_apply a va vb ia ib)), ((Q 2), cL E 310 s2), ((Q 3), cL E 620 s3), ((Q 4), cZ E 2 s4), ((Q 5), cI E 80 tx), ((Q 6), cI E 24 cosT), ((Q 7), cI E 16 rr), ((Q 8), cI E 120 ww)]) (congrArg (fun z_ : Nat → Int64 => ([((Q 0), .inr (12, [vR (Q 1), vR (Q 2), vR (Q 3), vR (Q 4), vR (Q 5), vI pn, vR (Q 6), vL f0, vL f1, vL f2, vL f3, vL px, vL py, vL pb, vI rg, vI wr, vR (Q 7), vI rn, vR (Q 8), vI wn])), ((Q 1), .inl (E.2.1 1, 310, .inr (.inl z_))), ((Q 2), cL E 310 s2), ((Q 3), cL E 620 s3), ((Q 4), cZ E 2 s4), ((Q 5), cI E 80 tx), ((Q 6), cI E 24 cosT), ((Q 7), cI E 16 rr), ((Q 8), cI E 120 ww)] : va_W)) (show AL 310 (n_apply a va vb ia ib) = AL 310 a from AL_c (fun k_ k0_ k1_ => by unfold n_apply s_jmp; (repeat' split) <;> first | rfl | omega | contradiction))) ?_
  exact g_iret C hr rfl (Nat.le_of_ble_eq_true rfl) (Nat.le_of_ble_eq_true rfl) dX11_apply_13 ⟨rfl, rfl⟩

theorem w_X11_ramp_k122 : Cond.constantLong RX11 122 (2400) ∈ wsX11_ramp := by decide +kernel
theorem in_X11_ramp_X11 : ∀ w ∈ u_ws RX11 TX11 20, w ∈ wsX11_ramp := by decide +kernel
theorem fd_X11_ramp_7 : fdk wsX11_ramp RX11 7 "ZoneRelayModel" RX11 TX11 20 0 := ⟨in_X11_ramp_X11, by decide +kernel, by decide, rfl⟩
abbrev rm_M_ramp : Room := { frames := 2, cells := 0, slots := 0, locals := 48 }
set_option maxHeartbeats 1000000 in
set_option maxRecDepth 100000 in
theorem M_ramp (l : Launch) (E : Ev) (Q : Nat → Nat) (pn f0 f1 f2 f3 px py pb rg wr rn wn : Int) (a s2 s3 s4 tx rr ww : Int → Int) (B m va vb ia ib : Int) (hI : Inv a B) (hB : B ≤ 2900000) (b_m : bi m) (b_va : bi va) (b_vb : bi vb) (b_ia : bi ia) (b_ib : bi ib) : Mc l yX11_ramp wsX11_ramp rm_M_ramp E [vR (Q 0), vI m, vI va, vI vb, vI ia, vI ib] [((Q 0), .inr (12, [vR (Q 1), vR (Q 2), vR (Q 3), vR (Q 4), vR (Q 5), vI pn, vR (Q 6), vL f0, vL f1, vL f2, vL f3, vL px, vL py, vL pb, vI rg, vI wr, vR (Q 7), vI rn, vR (Q 8), vI wn])), ((Q 1), cL E 310 a), ((Q 2), cL E 310 s2), ((Q 3), cL E 620 s3), ((Q 4), cZ E 2 s4), ((Q 5), cI E 80 tx), ((Q 6), cI E 24 cosT), ((Q 7), cI E 16 rr), ((Q 8), cI E 120 ww)] 0 0 (fun v9 w9 => v9 = some (vI (q_ramp a m va vb ia ib)) ∧ w9 = [((Q 0), .inr (12, [vR (Q 1), vR (Q 2), vR (Q 3), vR (Q 4), vR (Q 5), vI pn, vR (Q 6), vL f0, vL f1, vL f2, vL f3, vL px, vL py, vL pb, vI rg, vI wr, vR (Q 7), vI rn, vR (Q 8), vI wn])), ((Q 1), cL E 310 (n_ramp a m va vb ia ib)), ((Q 2), cL E 310 s2), ((Q 3), cL E 620 s3), ((Q 4), cZ E 2 s4), ((Q 5), cI E 80 tx), ((Q 6), cI E 24 cosT), ((Q 7), cI E 16 rr), ((Q 8), cI E 120 ww)]) := by
  refine Mc.intro (cc := cX11_ramp) (maxL := 6) (ret := (some .int)) (lv0 := [(0, vR (Q 0)), (1, vI m), (2, vI va), (3, vI vb), (4, vI ia), (5, vI ib)]) (by decide +kernel) rfl rfl (Nat.le_of_ble_eq_true rfl) ?_
  intro p9 e9 s9 m9 args9 below9 meth9 c9 A9 C hr hmn
  have C : Cx p9 s9 m9 args9 meth9 c9 E A9 6 cX11_ramp wsX11_ramp RX11 := C
  have hI0 := hI
  obtain ⟨iP, i4, iR, iE, iN, ⟨i21, i22, i23, i24, i25, i26, i27, i28⟩, iD, iW, i35, iS, iM, i90, i91, i94, i95, i96, i97, iT, iK, i104, iPn, iPc⟩ := hI
  refine g_iload_n C 1 rfl dX11_ramp_0 rfl ?_
  refine g_i2l C (b_m) rfl dX11_ramp_1 rfl ?_
  refine g_lconst1 C dX11_ramp_2 rfl ?_
  refine g_ldc2 C (x := 2400) w_X11_ramp_k122 (by decide) dX11_ramp_3 rfl ?_
  refine g_callS C (As := [vL m, vL 1, vL 2400]) (wc := []) (wr := [((Q 0), .inr (12, [vR (Q 1), vR (Q 2), vR (Q 3), vR (Q 4), vR (Q 5), vI pn, vR (Q 6), vL f0, vL f1, vL f2, vL f3, vL px, vL py, vL pb, vI rg, vI wr, vR (Q 7), vI rn, vR (Q 8), vI wn])), ((Q 1), cL E 310 a), ((Q 2), cL E 310 s2), ((Q 3), cL E 620 s3), ((Q 4), cZ E 2 s4), ((Q 5), cI E 80 tx), ((Q 6), cI E 24 cosT), ((Q 7), cI E 16 rr), ((Q 8), cI E 120 ww)]) (st := []) gX11_ramp_X11_in rfl (K_m_in l E m 1 2400 ⟨by omega, by omega⟩ ⟨by omega, by omega⟩ ⟨by omega, by omega⟩) hyd_X11_in rfl [] [0, 1, 2, 3, 4, 5, 6, 7, 8] rfl rfl rfl rfl rfl (by decide) ⟨rfl, rfl⟩ ⟨Nat.le_of_ble_eq_true rfl, Nat.le_of_ble_eq_true rfl, Nat.le_of_ble_eq_true rfl, Nat.le_of_ble_eq_true rfl⟩ (Nat.le_of_ble_eq_true rfl) dX11_ramp_6 (rfl : _ = 0) (rfl : _ = 0) rfl ?_
  rintro _ _ ⟨rfl, rfl⟩
  refine g_is (ws' := [((Q 0), .inr (12, [vR (Q 1), vR (Q 2), vR (Q 3), vR (Q 4), vR (Q 5), vI pn, vR (Q 6), vL f0, vL f1, vL f2, vL f3, vL px, vL py, vL pb, vI rg, vI wr, vR (Q 7), vI rn, vR (Q 8), vI wn])), ((Q 1), cL E 310 a), ((Q 2), cL E 310 s2), ((Q 3), cL E 620 s3), ((Q 4), cZ E 2 s4), ((Q 5), cI E 80 tx), ((Q 6), cI E 24 cosT), ((Q 7), cI E 16 rr), ((Q 8), cI E 120 ww)]) (st' := [vI (bP (1 ≤ m ∧ m ≤ 2400))]) rfl rfl ?_
  refine g_ifb_eq C (tgt := 24) dX11_ramp_9 (by decide) rfl (fun c_1 => ?_) (fun c_1 => ?_)
  · refine g_bipush C (by decide) dX11_ramp_24 rfl ?_
    refine g_top (v' := vI (q_ramp a m va vb ia ib)) (congrArg (fun z_ : Int => vI z_) (show (q_ramp a m va vb ia ib) = (-2) by unfold q_ramp; (repeat' split) <;> first | rfl | omega | contradiction)) ?_
    refine g_ws (ws' := [((Q 0), .inr (12, [vR (Q 1), vR (Q 2), vR (Q 3), vR (Q 4), vR (Q 5), vI pn, vR (Q 6), vL f0, vL f1, vL f2, vL f3, vL px, vL py, vL pb, vI rg, vI wr, vR (Q 7), vI rn, vR (Q 8), vI wn])), ((Q 1), cL E 310 (n_ramp a m va vb ia ib)), ((Q 2), cL E 310 s2), ((Q 3), cL E 620 s3), ((Q 4), cZ E 2 s4), ((Q 5), cI E 80 tx), ((Q 6), cI E 24 cosT), ((Q 7), cI E 16 rr), ((Q 8), cI E 120 ww)]) (congrArg (fun z_ : Nat → Int64 => ([((Q 0), .inr (12, [vR (Q 1), vR (Q 2), vR (Q 3), vR (Q 4), vR (Q 5), vI pn, vR (Q 6), vL f0, vL f1, vL f2, vL f3, vL px, vL py, vL pb, vI rg, vI wr, vR (Q 7), vI rn, vR (Q 8), vI wn])), ((Q 1), .inl (E.2.1 1, 310, .inr (.inl z_))), ((Q 2), cL E 310 s2), ((Q 3), cL E 620 s3), ((Q 4), cZ E 2 s4), ((Q 5), cI E 80 tx), ((Q 6), cI E 24 cosT), ((Q 7), cI E 16 rr), ((Q 8), cI E 120 ww)] : va_W)) (show AL 310 (n_ramp a m va vb ia ib) = AL 310 a from AL_c (fun k_ k0_ k1_ => by unfold n_ramp s_bgn; (repeat' split) <;> first | rfl | omega | contradiction))) ?_
    exact g_iret C hr rfl (Nat.le_of_ble_eq_true rfl) (Nat.le_of_ble_eq_true rfl) dX11_ramp_26 ⟨rfl, rfl⟩
  refine g_iload_n C 2 rfl dX11_ramp_12 rfl ?_
  refine g_iload_n C 3 rfl dX11_ramp_13 rfl ?_
  refine g_iload C 4 rfl dX11_ramp_14 rfl ?_
  refine g_iload C 5 rfl dX11_ramp_16 rfl ?_
  refine g_callS C (As := [vI va, vI vb, vI ia, vI ib]) (wc := []) (wr := [((Q 0), .inr (12, [vR (Q 1), vR (Q 2), vR (Q 3), vR (Q 4), vR (Q 5), vI pn, vR (Q 6), vL f0, vL f1, vL f2, vL f3, vL px, vL py, vL pb, vI rg, vI wr, vR (Q 7), vI rn, vR (Q 8), vI wn])), ((Q 1), cL E 310 a), ((Q 2), cL E 310 s2), ((Q 3), cL E 620 s3), ((Q 4), cZ E 2 s4), ((Q 5), cI E 80 tx), ((Q 6), cI E 24 cosT), ((Q 7), cI E 16 rr), ((Q 8), cI E 120 ww)]) (st := []) gX11_ramp_X11_arePhasors rfl (K_m_arePh l E va vb ia ib b_va b_vb b_ia b_ib) hyd_X11_arePhasors rfl [] [0, 1, 2, 3, 4, 5, 6, 7, 8] rfl rfl rfl rfl rfl (by decide) ⟨rfl, rfl⟩ ⟨Nat.le_of_ble_eq_true rfl, Nat.le_of_ble_eq_true rfl, Nat.le_of_ble_eq_true rfl, Nat.le_of_ble_eq_true rfl⟩ (Nat.le_of_ble_eq_true rfl) dX11_ramp_18 (rfl : _ = 0) (rfl : _ = 0) rfl ?_
  rintro _ _ ⟨rfl, rfl⟩
  refine g_is (ws' := [((Q 0), .inr (12, [vR (Q 1), vR (Q 2), vR (Q 3), vR (Q 4), vR (Q 5), vI pn, vR (Q 6), vL f0, vL f1, vL f2, vL f3, vL px, vL py, vL pb, vI rg, vI wr, vR (Q 7), vI rn, vR (Q 8), vI wn])), ((Q 1), cL E 310 a), ((Q 2), cL E 310 s2), ((Q 3), cL E 620 s3), ((Q 4), cZ E 2 s4), ((Q 5), cI E 80 tx), ((Q 6), cI E 24 cosT), ((Q 7), cI E 16 rr), ((Q 8), cI E 120 ww)]) (st' := [vI (bP ((-20000 ≤ va ∧ va ≤ 20000) ∧ (-20000 ≤ vb ∧ vb ≤ 20000) ∧ (-20000 ≤ ia ∧ ia ≤ 20000) ∧ (-20000 ≤ ib ∧ ib ≤ 20000)))]) rfl rfl ?_
  refine g_ifb_ne C (tgt := 27) dX11_ramp_21 (by decide) rfl (fun c_2 => ?_) (fun c_2 => ?_)
  · refine g_aload_n C 0 rfl dX11_ramp_27 rfl ?_
    refine g_bipush C (by decide) dX11_ramp_28 rfl ?_
    refine g_aload_n C 0 rfl dX11_ramp_30 rfl ?_
    refine g_get C 0 fd_X11_ramp_7 rfl rfl rfl dX11_ramp_31 rfl ?_
    refine g_iconst C dX11_ramp_34 rfl ?_
    refine g_lald C 1 rfl (by decide) (by decide) (by decide) rfl dX11_ramp_35 rfl ?_
    refine g_aload_n C 0 rfl dX11_ramp_36 rfl ?_
    refine g_get C 0 fd_X11_ramp_7 rfl rfl rfl dX11_ramp_37 rfl ?_
    refine g_iconst C dX11_ramp_40 rfl ?_
    refine g_lald C 1 rfl (by decide) (by decide) (by decide) rfl dX11_ramp_41 rfl ?_
    refine g_aload_n C 0 rfl dX11_ramp_42 rfl ?_
    refine g_get C 0 fd_X11_ramp_7 rfl rfl rfl dX11_ramp_43 rfl ?_
    refine g_iconst C dX11_ramp_46 rfl ?_
    refine g_lald C 1 rfl (by decide) (by decide) (by decide) rfl dX11_ramp_47 rfl ?_
    refine g_aload_n C 0 rfl dX11_ramp_48 rfl ?_
    refine g_get C 0 fd_X11_ramp_7 rfl rfl rfl dX11_ramp_49 rfl ?_
    refine g_iconst C dX11_ramp_52 rfl ?_
    refine g_lald C 1 rfl (by decide) (by decide) (by decide) rfl dX11_ramp_53 rfl ?_
    refine g_callV C (b := (Q 0)) (As := [vI 6, vL (a 0), vL (a 1), vL (a 2), vL (a 3)]) (wc := [((Q 0), .inr (12, [vR (Q 1), vR (Q 2), vR (Q 3), vR (Q 4), vR (Q 5), vI pn, vR (Q 6), vL f0, vL f1, vL f2, vL f3, vL px, vL py, vL pb, vI rg, vI wr, vR (Q 7), vI rn, vR (Q 8), vI wn])), ((Q 1), cL E 310 a)]) (wr := [((Q 2), cL E 310 s2), ((Q 3), cL E 620 s3), ((Q 4), cZ E 2 s4), ((Q 5), cI E 80 tx), ((Q 6), cI E 24 cosT), ((Q 7), cI E 16 rr), ((Q 8), cI E 120 ww)]) (st := []) gX11_ramp_X11_putFour (q9 := 0) (ci := 12) rfl rfl rfl (K_m_putFour l E Q pn f0 f1 f2 f3 px py pb rg wr rn wn a 6 (a 0) (a 1) (a 2) (a 3) ⟨by decide, by decide⟩) hyd_X11_putFour rfl [0, 1] [2, 3, 4, 5, 6, 7, 8] rfl rfl rfl rfl rfl (by decide) ⟨rfl, rfl⟩ ⟨Nat.le_of_ble_eq_true rfl, Nat.le_of_ble_eq_true rfl, Nat.le_of_ble_eq_true rfl, Nat.le_of_ble_eq_true rfl⟩ (Nat.le_of_ble_eq_true rfl) dX11_ramp_54 (rfl : _ = 0) (rfl : _ = 0) rfl ?_
    rintro _ _ ⟨rfl, rfl⟩
    refine g_is (ws' := [((Q 2), cL E 310 s2), ((Q 3), cL E 620 s3), ((Q 4), cZ E 2 s4), ((Q 5), cI E 80 tx), ((Q 6), cI E 24 cosT), ((Q 7), cI E 16 rr), ((Q 8), cI E 120 ww), ((Q 0), .inr (12, [vR (Q 1), vR (Q 2), vR (Q 3), vR (Q 4), vR (Q 5), vI pn, vR (Q 6), vL f0, vL f1, vL f2, vL f3, vL px, vL py, vL pb, vI rg, vI wr, vR (Q 7), vI rn, vR (Q 8), vI wn])), ((Q 1), cL E 310 (ua (ua (ua (ua a 6 (a 0)) (6 + 1) (a 1)) (6 + 2) (a 2)) (6 + 3) (a 3)))]) (st' := []) rfl rfl ?_
    refine g_sub (ws' := [((Q 0), .inr (12, [vR (Q 1), vR (Q 2), vR (Q 3), vR (Q 4), vR (Q 5), vI pn, vR (Q 6), vL f0, vL f1, vL f2, vL f3, vL px, vL py, vL pb, vI rg, vI wr, vR (Q 7), vI rn, vR (Q 8), vI wn])), ((Q 1), cL E 310 (ua (ua (ua (ua a 6 (a 0)) (6 + 1) (a 1)) (6 + 2) (a 2)) (6 + 3) (a 3))), ((Q 2), cL E 310 s2), ((Q 3), cL E 620 s3), ((Q 4), cZ E 2 s4), ((Q 5), cI E 80 tx), ((Q 6), cI E 24 cosT), ((Q 7), cI E 16 rr), ((Q 8), cI E 120 ww)]) [7, 8, 0, 1, 2, 3, 4, 5, 6] rfl rfl rfl ?_
    refine g_aload_n C 0 rfl dX11_ramp_57 rfl ?_
    refine g_bipush C (by decide) dX11_ramp_58 rfl ?_
    refine g_iload_n C 2 rfl dX11_ramp_60 rfl ?_
    refine g_i2l C (b_va) rfl dX11_ramp_61 rfl ?_
    refine g_iload_n C 3 rfl dX11_ramp_62 rfl ?_
    refine g_i2l C (b_vb) rfl dX11_ramp_63 rfl ?_
    refine g_iload C 4 rfl dX11_ramp_64 rfl ?_
    refine g_i2l C (b_ia) rfl dX11_ramp_66 rfl ?_
    refine g_iload C 5 rfl dX11_ramp_67 rfl ?_
    refine g_i2l C (b_ib) rfl dX11_ramp_69 rfl ?_
    refine g_callV C (b := (Q 0)) (As := [vI 10, vL va, vL vb, vL ia, vL ib]) (wc := [((Q 0), .inr (12, [vR (Q 1), vR (Q 2), vR (Q 3), vR (Q 4), vR (Q 5), vI pn, vR (Q 6), vL f0, vL f1, vL f2, vL f3, vL px, vL py, vL pb, vI rg, vI wr, vR (Q 7), vI rn, vR (Q 8), vI wn])), ((Q 1), cL E 310 (ua (ua (ua (ua a 6 (a 0)) (6 + 1) (a 1)) (6 + 2) (a 2)) (6 + 3) (a 3)))]) (wr := [((Q 2), cL E 310 s2), ((Q 3), cL E 620 s3), ((Q 4), cZ E 2 s4), ((Q 5), cI E 80 tx), ((Q 6), cI E 24 cosT), ((Q 7), cI E 16 rr), ((Q 8), cI E 120 ww)]) (st := []) gX11_ramp_X11_putFour (q9 := 0) (ci := 12) rfl rfl rfl (K_m_putFour l E Q pn f0 f1 f2 f3 px py pb rg wr rn wn (ua (ua (ua (ua a 6 (a 0)) (6 + 1) (a 1)) (6 + 2) (a 2)) (6 + 3) (a 3)) 10 va vb ia ib ⟨by decide, by decide⟩) hyd_X11_putFour rfl [0, 1] [2, 3, 4, 5, 6, 7, 8] rfl rfl rfl rfl rfl (by decide) ⟨rfl, rfl⟩ ⟨Nat.le_of_ble_eq_true rfl, Nat.le_of_ble_eq_true rfl, Nat.le_of_ble_eq_true rfl, Nat.le_of_ble_eq_true rfl⟩ (Nat.le_of_ble_eq_true rfl) dX11_ramp_70 (rfl : _ = 0) (rfl : _ = 0) rfl ?_
    rintro _ _ ⟨rfl, rfl⟩
    refine g_is (ws' := [((Q 2), cL E 310 s2), ((Q 3), cL E 620 s3), ((Q 4), cZ E 2 s4), ((Q 5), cI E 80 tx), ((Q 6), cI E 24 cosT), ((Q 7), cI E 16 rr), ((Q 8), cI E 120 ww), ((Q 0), .inr (12, [vR (Q 1), vR (Q 2), vR (Q 3), vR (Q 4), vR (Q 5), vI pn, vR (Q 6), vL f0, vL f1, vL f2, vL f3, vL px, vL py, vL pb, vI rg, vI wr, vR (Q 7), vI rn, vR (Q 8), vI wn])), ((Q 1), cL E 310 (ua (ua (ua (ua (ua (ua (ua (ua a 6 (a 0)) (6 + 1) (a 1)) (6 + 2) (a 2)) (6 + 3) (a 3)) 10 va) (10 + 1) vb) (10 + 2) ia) (10 + 3) ib))]) (st' := []) rfl rfl ?_
    refine g_sub (ws' := [((Q 0), .inr (12, [vR (Q 1), vR (Q 2), vR (Q 3), vR (Q 4), vR (Q 5), vI pn, vR (Q 6), vL f0, vL f1, vL f2, vL f3, vL px, vL py, vL pb, vI rg, vI wr, vR (Q 7), vI rn, vR (Q 8), vI wn])), ((Q 1), cL E 310 (ua (ua (ua (ua (ua (ua (ua (ua a 6 (a 0)) (6 + 1) (a 1)) (6 + 2) (a 2)) (6 + 3) (a 3)) 10 va) (10 + 1) vb) (10 + 2) ia) (10 + 3) ib)), ((Q 2), cL E 310 s2), ((Q 3), cL E 620 s3), ((Q 4), cZ E 2 s4), ((Q 5), cI E 80 tx), ((Q 6), cI E 24 cosT), ((Q 7), cI E 16 rr), ((Q 8), cI E 120 ww)]) [7, 8, 0, 1, 2, 3, 4, 5, 6] rfl rfl rfl ?_
    refine g_aload_n C 0 rfl dX11_ramp_73 rfl ?_
    refine g_get C 0 fd_X11_ramp_7 rfl rfl rfl dX11_ramp_74 rfl ?_
    refine g_iconst C dX11_ramp_77 rfl ?_
    refine g_iload_n C 1 rfl dX11_ramp_78 rfl ?_
    refine g_i2l C (b_m) rfl dX11_ramp_79 rfl ?_
    refine g_last C 1 rfl (by decide) (by decide) (by decide) (ws' := [((Q 0), .inr (12, [vR (Q 1), vR (Q 2), vR (Q 3), vR (Q 4), vR (Q 5), vI pn, vR (Q 6), vL f0, vL f1, vL f2, vL f3, vL px, vL py, vL pb, vI rg, vI wr, vR (Q 7), vI rn, vR (Q 8), vI wn])), ((Q 1), cL E 310 (ua (ua (ua (ua (ua (ua (ua (ua (ua a 6 (a 0)) (6 + 1) (a 1)) (6 + 2) (a 2)) (6 + 3) (a 3)) 10 va) (10 + 1) vb) (10 + 2) ia) (10 + 3) ib) 4 m)), ((Q 2), cL E 310 s2), ((Q 3), cL E 620 s3), ((Q 4), cZ E 2 s4), ((Q 5), cI E 80 tx), ((Q 6), cI E 24 cosT), ((Q 7), cI E 16 rr), ((Q 8), cI E 120 ww)]) rfl dX11_ramp_80 rfl ?_
    refine g_aload_n C 0 rfl dX11_ramp_81 rfl ?_
    refine g_get C 0 fd_X11_ramp_7 rfl rfl rfl dX11_ramp_82 rfl ?_
    refine g_iconst C dX11_ramp_85 rfl ?_
    refine g_iload_n C 1 rfl dX11_ramp_86 rfl ?_
    refine g_i2l C (b_m) rfl dX11_ramp_87 rfl ?_
    refine g_last C 1 rfl (by decide) (by decide) (by decide) (ws' := [((Q 0), .inr (12, [vR (Q 1), vR (Q 2), vR (Q 3), vR (Q 4), vR (Q 5), vI pn, vR (Q 6), vL f0, vL f1, vL f2, vL f3, vL px, vL py, vL pb, vI rg, vI wr, vR (Q 7), vI rn, vR (Q 8), vI wn])), ((Q 1), cL E 310 (ua (ua (ua (ua (ua (ua (ua (ua (ua (ua a 6 (a 0)) (6 + 1) (a 1)) (6 + 2) (a 2)) (6 + 3) (a 3)) 10 va) (10 + 1) vb) (10 + 2) ia) (10 + 3) ib) 4 m) 5 m)), ((Q 2), cL E 310 s2), ((Q 3), cL E 620 s3), ((Q 4), cZ E 2 s4), ((Q 5), cI E 80 tx), ((Q 6), cI E 24 cosT), ((Q 7), cI E 16 rr), ((Q 8), cI E 120 ww)]) rfl dX11_ramp_88 rfl ?_
    refine g_aload_n C 0 rfl dX11_ramp_89 rfl ?_
    refine g_get C 0 fd_X11_ramp_7 rfl rfl rfl dX11_ramp_90 rfl ?_
    refine g_bipush C (by decide) dX11_ramp_93 rfl ?_
    refine g_lald C 1 rfl (by decide) (by decide) (by decide) (r := ((ua (ua (ua (ua (ua (ua (ua (ua a 6 (a 0)) (6 + 1) (a 1)) (6 + 2) (a 2)) (6 + 3) (a 3)) 10 va) (10 + 1) vb) (10 + 2) ia) (10 + 3) ib) 35)) (by first | rfl | (simp [ua, sh, sh2]; done)) dX11_ramp_95 rfl ?_
    refine g_l2i C rfl dX11_ramp_96 rfl ?_
    refine g_top (v' := vI (q_ramp a m va vb ia ib)) (congrArg (fun z_ : Int => vI z_) (show (q_ramp a m va vb ia ib) = ((ua (ua (ua (ua (ua (ua (ua (ua a 6 (a 0)) (6 + 1) (a 1)) (6 + 2) (a 2)) (6 + 3) (a 3)) 10 va) (10 + 1) vb) (10 + 2) ia) (10 + 3) ib) 35) by unfold q_ramp; (repeat' split) <;> first | rfl | omega | contradiction)) ?_
    refine g_ws (ws' := [((Q 0), .inr (12, [vR (Q 1), vR (Q 2), vR (Q 3), vR (Q 4), vR (Q 5), vI pn, vR (Q 6), vL f0, vL f1, vL f2, vL f3, vL px, vL py, vL pb, vI rg, vI wr, vR (Q 7), vI rn, vR (Q 8), vI wn])), ((Q 1), cL E 310 (n_ramp a m va vb ia ib)), ((Q 2), cL E 310 s2), ((Q 3), cL E 620 s3), ((Q 4), cZ E 2 s4), ((Q 5), cI E 80 tx), ((Q 6), cI E 24 cosT), ((Q 7), cI E 16 rr), ((Q 8), cI E 120 ww)]) (congrArg (fun z_ : Nat → Int64 => ([((Q 0), .inr (12, [vR (Q 1), vR (Q 2), vR (Q 3), vR (Q 4), vR (Q 5), vI pn, vR (Q 6), vL f0, vL f1, vL f2, vL f3, vL px, vL py, vL pb, vI rg, vI wr, vR (Q 7), vI rn, vR (Q 8), vI wn])), ((Q 1), .inl (E.2.1 1, 310, .inr (.inl z_))), ((Q 2), cL E 310 s2), ((Q 3), cL E 620 s3), ((Q 4), cZ E 2 s4), ((Q 5), cI E 80 tx), ((Q 6), cI E 24 cosT), ((Q 7), cI E 16 rr), ((Q 8), cI E 120 ww)] : va_W)) (show AL 310 (n_ramp a m va vb ia ib) = AL 310 (ua (ua (ua (ua (ua (ua (ua (ua (ua (ua a 6 (a 0)) (6 + 1) (a 1)) (6 + 2) (a 2)) (6 + 3) (a 3)) 10 va) (10 + 1) vb) (10 + 2) ia) (10 + 3) ib) 4 m) 5 m) from AL_c (fun k_ k0_ k1_ => by unfold n_ramp s_bgn; (repeat' split) <;> first | rfl | omega | contradiction))) ?_
    exact g_iret C hr rfl (Nat.le_of_ble_eq_true rfl) (Nat.le_of_ble_eq_true rfl) dX11_ramp_97 ⟨rfl, rfl⟩
  refine g_bipush C (by decide) dX11_ramp_24 rfl ?_
  refine g_top (v' := vI (q_ramp a m va vb ia ib)) (congrArg (fun z_ : Int => vI z_) (show (q_ramp a m va vb ia ib) = (-2) by unfold q_ramp; (repeat' split) <;> first | rfl | omega | contradiction)) ?_
  refine g_ws (ws' := [((Q 0), .inr (12, [vR (Q 1), vR (Q 2), vR (Q 3), vR (Q 4), vR (Q 5), vI pn, vR (Q 6), vL f0, vL f1, vL f2, vL f3, vL px, vL py, vL pb, vI rg, vI wr, vR (Q 7), vI rn, vR (Q 8), vI wn])), ((Q 1), cL E 310 (n_ramp a m va vb ia ib)), ((Q 2), cL E 310 s2), ((Q 3), cL E 620 s3), ((Q 4), cZ E 2 s4), ((Q 5), cI E 80 tx), ((Q 6), cI E 24 cosT), ((Q 7), cI E 16 rr), ((Q 8), cI E 120 ww)]) (congrArg (fun z_ : Nat → Int64 => ([((Q 0), .inr (12, [vR (Q 1), vR (Q 2), vR (Q 3), vR (Q 4), vR (Q 5), vI pn, vR (Q 6), vL f0, vL f1, vL f2, vL f3, vL px, vL py, vL pb, vI rg, vI wr, vR (Q 7), vI rn, vR (Q 8), vI wn])), ((Q 1), .inl (E.2.1 1, 310, .inr (.inl z_))), ((Q 2), cL E 310 s2), ((Q 3), cL E 620 s3), ((Q 4), cZ E 2 s4), ((Q 5), cI E 80 tx), ((Q 6), cI E 24 cosT), ((Q 7), cI E 16 rr), ((Q 8), cI E 120 ww)] : va_W)) (show AL 310 (n_ramp a m va vb ia ib) = AL 310 a from AL_c (fun k_ k0_ k1_ => by unfold n_ramp s_bgn; (repeat' split) <;> first | rfl | omega | contradiction))) ?_
  exact g_iret C hr rfl (Nat.le_of_ble_eq_true rfl) (Nat.le_of_ble_eq_true rfl) dX11_ramp_26 ⟨rfl, rfl⟩

theorem w_X11_network_k132 : Cond.constantLong RX11 132 (3) ∈ wsX11_network := by decide +kernel
theorem w_X11_network_k46 : Cond.constantLong RX11 46 (20000) ∈ wsX11_network := by decide +kernel
theorem in_X11_network_X11 : ∀ w ∈ u_ws RX11 TX11 20, w ∈ wsX11_network := by decide +kernel
theorem fd_X11_network_7 : fdk wsX11_network RX11 7 "ZoneRelayModel" RX11 TX11 20 0 := ⟨in_X11_network_X11, by decide +kernel, by decide, rfl⟩
abbrev rm_M_net : Room := { frames := 1, cells := 0, slots := 0, locals := 25 }
set_option maxHeartbeats 1000000 in
set_option maxRecDepth 100000 in
theorem M_net (l : Launch) (E : Ev) (Q : Nat → Nat) (pn f0 f1 f2 f3 px py pb rg wr rn wn : Int) (a s2 s3 s4 tx rr ww : Int → Int) (B p r x : Int) (hI : Inv a B) (hB : B ≤ 2900000) (b_p : bi p) (b_r : bi r) (b_x : bi x) : Mc l yX11_network wsX11_network rm_M_net E [vR (Q 0), vI p, vI r, vI x] [((Q 0), .inr (12, [vR (Q 1), vR (Q 2), vR (Q 3), vR (Q 4), vR (Q 5), vI pn, vR (Q 6), vL f0, vL f1, vL f2, vL f3, vL px, vL py, vL pb, vI rg, vI wr, vR (Q 7), vI rn, vR (Q 8), vI wn])), ((Q 1), cL E 310 a), ((Q 2), cL E 310 s2), ((Q 3), cL E 620 s3), ((Q 4), cZ E 2 s4), ((Q 5), cI E 80 tx), ((Q 6), cI E 24 cosT), ((Q 7), cI E 16 rr), ((Q 8), cI E 120 ww)] 0 0 (fun v9 w9 => v9 = some (vI (q_net a p r x)) ∧ w9 = [((Q 0), .inr (12, [vR (Q 1), vR (Q 2), vR (Q 3), vR (Q 4), vR (Q 5), vI pn, vR (Q 6), vL f0, vL f1, vL f2, vL f3, vL px, vL py, vL pb, vI rg, vI wr, vR (Q 7), vI rn, vR (Q 8), vI wn])), ((Q 1), cL E 310 (n_net a p r x)), ((Q 2), cL E 310 s2), ((Q 3), cL E 620 s3), ((Q 4), cZ E 2 s4), ((Q 5), cI E 80 tx), ((Q 6), cI E 24 cosT), ((Q 7), cI E 16 rr), ((Q 8), cI E 120 ww)]) := by
  refine Mc.intro (cc := cX11_network) (maxL := 7) (ret := (some .int)) (lv0 := [(0, vR (Q 0)), (1, vI p), (2, vI r), (3, vI x)]) (by decide +kernel) rfl rfl (Nat.le_of_ble_eq_true rfl) ?_
  intro p9 e9 s9 m9 args9 below9 meth9 c9 A9 C hr hmn
  have C : Cx p9 s9 m9 args9 meth9 c9 E A9 7 cX11_network wsX11_network RX11 := C
  have hI0 := hI
  obtain ⟨iP, i4, iR, iE, iN, ⟨i21, i22, i23, i24, i25, i26, i27, i28⟩, iD, iW, i35, iS, iM, i90, i91, i94, i95, i96, i97, iT, iK, i104, iPn, iPc⟩ := hI
  refine g_iload_n C 1 rfl dX11_network_0 rfl ?_
  refine g_if_ne C (tgt := 28) (b_p) dX11_network_1 (by decide) rfl (fun c_1 => ?_) (fun c_1 => ?_)
  · refine g_iload_n C 1 rfl dX11_network_28 rfl ?_
    refine g_i2l C (b_p) rfl dX11_network_29 rfl ?_
    refine g_lconst1 C dX11_network_30 rfl ?_
    refine g_ldc2 C (x := 3) w_X11_network_k132 (by decide) dX11_network_31 rfl ?_
    refine g_callS C (As := [vL p, vL 1, vL 3]) (wc := []) (wr := [((Q 0), .inr (12, [vR (Q 1), vR (Q 2), vR (Q 3), vR (Q 4), vR (Q 5), vI pn, vR (Q 6), vL f0, vL f1, vL f2, vL f3, vL px, vL py, vL pb, vI rg, vI wr, vR (Q 7), vI rn, vR (Q 8), vI wn])), ((Q 1), cL E 310 a), ((Q 2), cL E 310 s2), ((Q 3), cL E 620 s3), ((Q 4), cZ E 2 s4), ((Q 5), cI E 80 tx), ((Q 6), cI E 24 cosT), ((Q 7), cI E 16 rr), ((Q 8), cI E 120 ww)]) (st := []) gX11_network_X11_in rfl (K_m_in l E p 1 3 ⟨by omega, by omega⟩ ⟨by omega, by omega⟩ ⟨by omega, by omega⟩) hyd_X11_in rfl [] [0, 1, 2, 3, 4, 5, 6, 7, 8] rfl rfl rfl rfl rfl (by decide) ⟨rfl, rfl⟩ ⟨Nat.le_of_ble_eq_true rfl, Nat.le_of_ble_eq_true rfl, Nat.le_of_ble_eq_true rfl, Nat.le_of_ble_eq_true rfl⟩ (Nat.le_of_ble_eq_true rfl) dX11_network_34 (rfl : _ = 0) (rfl : _ = 0) rfl ?_
    rintro _ _ ⟨rfl, rfl⟩
    refine g_is (ws' := [((Q 0), .inr (12, [vR (Q 1), vR (Q 2), vR (Q 3), vR (Q 4), vR (Q 5), vI pn, vR (Q 6), vL f0, vL f1, vL f2, vL f3, vL px, vL py, vL pb, vI rg, vI wr, vR (Q 7), vI rn, vR (Q 8), vI wn])), ((Q 1), cL E 310 a), ((Q 2), cL E 310 s2), ((Q 3), cL E 620 s3), ((Q 4), cZ E 2 s4), ((Q 5), cI E 80 tx), ((Q 6), cI E 24 cosT), ((Q 7), cI E 16 rr), ((Q 8), cI E 120 ww)]) (st' := [vI (bP (1 ≤ p ∧ p ≤ 3))]) rfl rfl ?_
    refine g_ifb_eq C (tgt := 68) dX11_network_37 (by decide) rfl (fun c_2 => ?_) (fun c_2 => ?_)
    · refine g_iconst C dX11_network_68 rfl ?_
      refine g_istore C (lv' := [(0, vR (Q 0)), (1, vI p), (2, vI r), (3, vI x), (4, vI 0)]) [1, 2, 3, 4, 0] (by decide) rfl rfl dX11_network_69 rfl ?_
      refine g_iload C 4 rfl dX11_network_71 rfl ?_
      refine g_if_ne C (tgt := 79) ⟨by decide, by decide⟩ dX11_network_73 (by decide) rfl (fun c_3 => ?_) (fun c_3 => ?_)
      · exact absurd c_3 (by decide)
      refine g_bipush C (by decide) dX11_network_76 rfl ?_
      refine g_top (v' := vI (q_net a p r x)) (congrArg (fun z_ : Int => vI z_) (show (q_net a p r x) = (-2) by unfold q_net; (repeat' split) <;> first | rfl | omega | contradiction | (congr 1; omega))) ?_
      refine g_ws (ws' := [((Q 0), .inr (12, [vR (Q 1), vR (Q 2), vR (Q 3), vR (Q 4), vR (Q 5), vI pn, vR (Q 6), vL f0, vL f1, vL f2, vL f3, vL px, vL py, vL pb, vI rg, vI wr, vR (Q 7), vI rn, vR (Q 8), vI wn])), ((Q 1), cL E 310 (n_net a p r x)), ((Q 2), cL E 310 s2), ((Q 3), cL E 620 s3), ((Q 4), cZ E 2 s4), ((Q 5), cI E 80 tx), ((Q 6), cI E 24 cosT), ((Q 7), cI E 16 rr), ((Q 8), cI E 120 ww)]) (congrArg (fun z_ : Nat → Int64 => ([((Q 0), .inr (12, [vR (Q 1), vR (Q 2), vR (Q 3), vR (Q 4), vR (Q 5), vI pn, vR (Q 6), vL f0, vL f1, vL f2, vL f3, vL px, vL py, vL pb, vI rg, vI wr, vR (Q 7), vI rn, vR (Q 8), vI wn])), ((Q 1), .inl (E.2.1 1, 310, .inr (.inl z_))), ((Q 2), cL E 310 s2), ((Q 3), cL E 620 s3), ((Q 4), cZ E 2 s4), ((Q 5), cI E 80 tx), ((Q 6), cI E 24 cosT), ((Q 7), cI E 16 rr), ((Q 8), cI E 120 ww)] : va_W)) (show AL 310 (n_net a p r x) = AL 310 a from AL_c (fun k_ k0_ k1_ => by unfold n_net; (repeat' split) <;> first | rfl | omega | contradiction | (unfold ua; (repeat' split) <;> first | rfl | omega)))) ?_
      exact g_iret C hr rfl (Nat.le_of_ble_eq_true rfl) (Nat.le_of_ble_eq_true rfl) dX11_network_78 ⟨rfl, rfl⟩
    refine g_iload_n C 2 rfl dX11_network_40 rfl ?_
    refine g_i2l C (b_r) rfl dX11_network_41 rfl ?_
    refine g_lconst0 C dX11_network_42 rfl ?_
    refine g_ldc2 C (x := 20000) w_X11_network_k46 (by decide) dX11_network_43 rfl ?_
    refine g_callS C (As := [vL r, vL 0, vL 20000]) (wc := []) (wr := [((Q 0), .inr (12, [vR (Q 1), vR (Q 2), vR (Q 3), vR (Q 4), vR (Q 5), vI pn, vR (Q 6), vL f0, vL f1, vL f2, vL f3, vL px, vL py, vL pb, vI rg, vI wr, vR (Q 7), vI rn, vR (Q 8), vI wn])), ((Q 1), cL E 310 a), ((Q 2), cL E 310 s2), ((Q 3), cL E 620 s3), ((Q 4), cZ E 2 s4), ((Q 5), cI E 80 tx), ((Q 6), cI E 24 cosT), ((Q 7), cI E 16 rr), ((Q 8), cI E 120 ww)]) (st := []) gX11_network_X11_in rfl (K_m_in l E r 0 20000 ⟨by omega, by omega⟩ ⟨by omega, by omega⟩ ⟨by omega, by omega⟩) hyd_X11_in rfl [] [0, 1, 2, 3, 4, 5, 6, 7, 8] rfl rfl rfl rfl rfl (by decide) ⟨rfl, rfl⟩ ⟨Nat.le_of_ble_eq_true rfl, Nat.le_of_ble_eq_true rfl, Nat.le_of_ble_eq_true rfl, Nat.le_of_ble_eq_true rfl⟩ (Nat.le_of_ble_eq_true rfl) dX11_network_46 (rfl : _ = 0) (rfl : _ = 0) rfl ?_
    rintro _ _ ⟨rfl, rfl⟩
    refine g_is (ws' := [((Q 0), .inr (12, [vR (Q 1), vR (Q 2), vR (Q 3), vR (Q 4), vR (Q 5), vI pn, vR (Q 6), vL f0, vL f1, vL f2, vL f3, vL px, vL py, vL pb, vI rg, vI wr, vR (Q 7), vI rn, vR (Q 8), vI wn])), ((Q 1), cL E 310 a), ((Q 2), cL E 310 s2), ((Q 3), cL E 620 s3), ((Q 4), cZ E 2 s4), ((Q 5), cI E 80 tx), ((Q 6), cI E 24 cosT), ((Q 7), cI E 16 rr), ((Q 8), cI E 120 ww)]) (st' := [vI (bP (0 ≤ r ∧ r ≤ 20000))]) rfl rfl ?_
    refine g_ifb_eq C (tgt := 68) dX11_network_49 (by decide) rfl (fun c_4 => ?_) (fun c_4 => ?_)
    · refine g_iconst C dX11_network_68 rfl ?_
      refine g_istore C (lv' := [(0, vR (Q 0)), (1, vI p), (2, vI r), (3, vI x), (4, vI 0)]) [1, 2, 3, 4, 0] (by decide) rfl rfl dX11_network_69 rfl ?_
      refine g_iload C 4 rfl dX11_network_71 rfl ?_
      refine g_if_ne C (tgt := 79) ⟨by decide, by decide⟩ dX11_network_73 (by decide) rfl (fun c_5 => ?_) (fun c_5 => ?_)
      · exact absurd c_5 (by decide)
      refine g_bipush C (by decide) dX11_network_76 rfl ?_
      refine g_top (v' := vI (q_net a p r x)) (congrArg (fun z_ : Int => vI z_) (show (q_net a p r x) = (-2) by unfold q_net; (repeat' split) <;> first | rfl | omega | contradiction | (congr 1; omega))) ?_
      refine g_ws (ws' := [((Q 0), .inr (12, [vR (Q 1), vR (Q 2), vR (Q 3), vR (Q 4), vR (Q 5), vI pn, vR (Q 6), vL f0, vL f1, vL f2, vL f3, vL px, vL py, vL pb, vI rg, vI wr, vR (Q 7), vI rn, vR (Q 8), vI wn])), ((Q 1), cL E 310 (n_net a p r x)), ((Q 2), cL E 310 s2), ((Q 3), cL E 620 s3), ((Q 4), cZ E 2 s4), ((Q 5), cI E 80 tx), ((Q 6), cI E 24 cosT), ((Q 7), cI E 16 rr), ((Q 8), cI E 120 ww)]) (congrArg (fun z_ : Nat → Int64 => ([((Q 0), .inr (12, [vR (Q 1), vR (Q 2), vR (Q 3), vR (Q 4), vR (Q 5), vI pn, vR (Q 6), vL f0, vL f1, vL f2, vL f3, vL px, vL py, vL pb, vI rg, vI wr, vR (Q 7), vI rn, vR (Q 8), vI wn])), ((Q 1), .inl (E.2.1 1, 310, .inr (.inl z_))), ((Q 2), cL E 310 s2), ((Q 3), cL E 620 s3), ((Q 4), cZ E 2 s4), ((Q 5), cI E 80 tx), ((Q 6), cI E 24 cosT), ((Q 7), cI E 16 rr), ((Q 8), cI E 120 ww)] : va_W)) (show AL 310 (n_net a p r x) = AL 310 a from AL_c (fun k_ k0_ k1_ => by unfold n_net; (repeat' split) <;> first | rfl | omega | contradiction | (unfold ua; (repeat' split) <;> first | rfl | omega)))) ?_
      exact g_iret C hr rfl (Nat.le_of_ble_eq_true rfl) (Nat.le_of_ble_eq_true rfl) dX11_network_78 ⟨rfl, rfl⟩
    refine g_iload_n C 3 rfl dX11_network_52 rfl ?_
    refine g_i2l C (b_x) rfl dX11_network_53 rfl ?_
    refine g_lconst0 C dX11_network_54 rfl ?_
    refine g_ldc2 C (x := 20000) w_X11_network_k46 (by decide) dX11_network_55 rfl ?_
    refine g_callS C (As := [vL x, vL 0, vL 20000]) (wc := []) (wr := [((Q 0), .inr (12, [vR (Q 1), vR (Q 2), vR (Q 3), vR (Q 4), vR (Q 5), vI pn, vR (Q 6), vL f0, vL f1, vL f2, vL f3, vL px, vL py, vL pb, vI rg, vI wr, vR (Q 7), vI rn, vR (Q 8), vI wn])), ((Q 1), cL E 310 a), ((Q 2), cL E 310 s2), ((Q 3), cL E 620 s3), ((Q 4), cZ E 2 s4), ((Q 5), cI E 80 tx), ((Q 6), cI E 24 cosT), ((Q 7), cI E 16 rr), ((Q 8), cI E 120 ww)]) (st := []) gX11_network_X11_in rfl (K_m_in l E x 0 20000 ⟨by omega, by omega⟩ ⟨by omega, by omega⟩ ⟨by omega, by omega⟩) hyd_X11_in rfl [] [0, 1, 2, 3, 4, 5, 6, 7, 8] rfl rfl rfl rfl rfl (by decide) ⟨rfl, rfl⟩ ⟨Nat.le_of_ble_eq_true rfl, Nat.le_of_ble_eq_true rfl, Nat.le_of_ble_eq_true rfl, Nat.le_of_ble_eq_true rfl⟩ (Nat.le_of_ble_eq_true rfl) dX11_network_58 (rfl : _ = 0) (rfl : _ = 0) rfl ?_
    rintro _ _ ⟨rfl, rfl⟩
    refine g_is (ws' := [((Q 0), .inr (12, [vR (Q 1), vR (Q 2), vR (Q 3), vR (Q 4), vR (Q 5), vI pn, vR (Q 6), vL f0, vL f1, vL f2, vL f3, vL px, vL py, vL pb, vI rg, vI wr, vR (Q 7), vI rn, vR (Q 8), vI wn])), ((Q 1), cL E 310 a), ((Q 2), cL E 310 s2), ((Q 3), cL E 620 s3), ((Q 4), cZ E 2 s4), ((Q 5), cI E 80 tx), ((Q 6), cI E 24 cosT), ((Q 7), cI E 16 rr), ((Q 8), cI E 120 ww)]) (st' := [vI (bP (0 ≤ x ∧ x ≤ 20000))]) rfl rfl ?_
    refine g_ifb_eq C (tgt := 68) dX11_network_61 (by decide) rfl (fun c_6 => ?_) (fun c_6 => ?_)
    · refine g_iconst C dX11_network_68 rfl ?_
      refine g_istore C (lv' := [(0, vR (Q 0)), (1, vI p), (2, vI r), (3, vI x), (4, vI 0)]) [1, 2, 3, 4, 0] (by decide) rfl rfl dX11_network_69 rfl ?_
      refine g_iload C 4 rfl dX11_network_71 rfl ?_
      refine g_if_ne C (tgt := 79) ⟨by decide, by decide⟩ dX11_network_73 (by decide) rfl (fun c_7 => ?_) (fun c_7 => ?_)
      · exact absurd c_7 (by decide)
      refine g_bipush C (by decide) dX11_network_76 rfl ?_
      refine g_top (v' := vI (q_net a p r x)) (congrArg (fun z_ : Int => vI z_) (show (q_net a p r x) = (-2) by unfold q_net; (repeat' split) <;> first | rfl | omega | contradiction | (congr 1; omega))) ?_
      refine g_ws (ws' := [((Q 0), .inr (12, [vR (Q 1), vR (Q 2), vR (Q 3), vR (Q 4), vR (Q 5), vI pn, vR (Q 6), vL f0, vL f1, vL f2, vL f3, vL px, vL py, vL pb, vI rg, vI wr, vR (Q 7), vI rn, vR (Q 8), vI wn])), ((Q 1), cL E 310 (n_net a p r x)), ((Q 2), cL E 310 s2), ((Q 3), cL E 620 s3), ((Q 4), cZ E 2 s4), ((Q 5), cI E 80 tx), ((Q 6), cI E 24 cosT), ((Q 7), cI E 16 rr), ((Q 8), cI E 120 ww)]) (congrArg (fun z_ : Nat → Int64 => ([((Q 0), .inr (12, [vR (Q 1), vR (Q 2), vR (Q 3), vR (Q 4), vR (Q 5), vI pn, vR (Q 6), vL f0, vL f1, vL f2, vL f3, vL px, vL py, vL pb, vI rg, vI wr, vR (Q 7), vI rn, vR (Q 8), vI wn])), ((Q 1), .inl (E.2.1 1, 310, .inr (.inl z_))), ((Q 2), cL E 310 s2), ((Q 3), cL E 620 s3), ((Q 4), cZ E 2 s4), ((Q 5), cI E 80 tx), ((Q 6), cI E 24 cosT), ((Q 7), cI E 16 rr), ((Q 8), cI E 120 ww)] : va_W)) (show AL 310 (n_net a p r x) = AL 310 a from AL_c (fun k_ k0_ k1_ => by unfold n_net; (repeat' split) <;> first | rfl | omega | contradiction | (unfold ua; (repeat' split) <;> first | rfl | omega)))) ?_
      exact g_iret C hr rfl (Nat.le_of_ble_eq_true rfl) (Nat.le_of_ble_eq_true rfl) dX11_network_78 ⟨rfl, rfl⟩
    refine g_iconst C dX11_network_64 rfl ?_
    refine g_goto C (pc' := 69) dX11_network_65 (by decide) ?_
    refine g_istore C (lv' := [(0, vR (Q 0)), (1, vI p), (2, vI r), (3, vI x), (4, vI 1)]) [1, 2, 3, 4, 0] (by decide) rfl rfl dX11_network_69 rfl ?_
    refine g_iload C 4 rfl dX11_network_71 rfl ?_
    refine g_if_ne C (tgt := 79) ⟨by decide, by decide⟩ dX11_network_73 (by decide) rfl (fun c_8 => ?_) (fun c_8 => ?_)
    · refine g_iload_n C 1 rfl dX11_network_79 rfl ?_
      refine g_if_ne C (tgt := 88) (b_p) dX11_network_80 (by decide) rfl (fun c_9 => ?_) (fun c_9 => ?_)
      · refine g_bipush C (by decide) dX11_network_88 rfl ?_
        refine g_iconst C dX11_network_90 rfl ?_
        refine g_iload_n C 1 rfl dX11_network_91 rfl ?_
        refine g_imul C rfl dX11_network_92 rfl ?_
        refine g_iadd C rfl dX11_network_93 rfl ?_
        refine g_iconst C dX11_network_94 rfl ?_
        refine g_isub C rfl dX11_network_95 rfl ?_
        refine g_istore C (lv' := [(0, vR (Q 0)), (1, vI p), (2, vI r), (3, vI x), (4, vI 1), (5, vI ((14 + (2 * p)) - 1))]) [1, 2, 3, 4, 5, 0] (by decide) rfl rfl dX11_network_96 rfl ?_
        refine g_aload_n C 0 rfl dX11_network_98 rfl ?_
        refine g_get C 0 fd_X11_network_7 rfl rfl rfl dX11_network_99 rfl ?_
        refine g_iload C 5 rfl dX11_network_102 rfl ?_
        refine g_lald C 1 rfl (by omega) (by omega) (by decide) rfl dX11_network_104 rfl ?_
        refine g_l2i C rfl dX11_network_105 rfl ?_
        refine g_istore C (lv' := [(0, vR (Q 0)), (1, vI p), (2, vI r), (3, vI x), (4, vI 1), (5, vI ((14 + (2 * p)) - 1)), (6, vI (a ((14 + (2 * p)) - 1)))]) [1, 2, 3, 4, 5, 6, 0] (by decide) rfl rfl dX11_network_106 rfl ?_
        refine g_aload_n C 0 rfl dX11_network_108 rfl ?_
        refine g_get C 0 fd_X11_network_7 rfl rfl rfl dX11_network_109 rfl ?_
        refine g_iload C 5 rfl dX11_network_112 rfl ?_
        refine g_iload_n C 2 rfl dX11_network_114 rfl ?_
        refine g_i2l C (b_r) rfl dX11_network_115 rfl ?_
        refine g_last C 1 rfl (by omega) (by omega) (by decide) (ws' := [((Q 0), .inr (12, [vR (Q 1), vR (Q 2), vR (Q 3), vR (Q 4), vR (Q 5), vI pn, vR (Q 6), vL f0, vL f1, vL f2, vL f3, vL px, vL py, vL pb, vI rg, vI wr, vR (Q 7), vI rn, vR (Q 8), vI wn])), ((Q 1), cL E 310 (ua a ((14 + (2 * p)) - 1) r)), ((Q 2), cL E 310 s2), ((Q 3), cL E 620 s3), ((Q 4), cZ E 2 s4), ((Q 5), cI E 80 tx), ((Q 6), cI E 24 cosT), ((Q 7), cI E 16 rr), ((Q 8), cI E 120 ww)]) rfl dX11_network_116 rfl ?_
        refine g_iload_n C 1 rfl dX11_network_117 rfl ?_
        refine g_if_le C (tgt := 132) (b_p) dX11_network_118 (by decide) rfl (fun c_10 => ?_) (fun c_10 => ?_)
        · refine g_iload C 6 rfl dX11_network_132 rfl ?_
          refine g_top (v' := vI (q_net a p r x)) (congrArg (fun z_ : Int => vI z_) (show (q_net a p r x) = (a ((14 + (2 * p)) - 1)) by unfold q_net; (repeat' split) <;> first | rfl | omega | contradiction | (congr 1; omega))) ?_
          refine g_ws (ws' := [((Q 0), .inr (12, [vR (Q 1), vR (Q 2), vR (Q 3), vR (Q 4), vR (Q 5), vI pn, vR (Q 6), vL f0, vL f1, vL f2, vL f3, vL px, vL py, vL pb, vI rg, vI wr, vR (Q 7), vI rn, vR (Q 8), vI wn])), ((Q 1), cL E 310 (n_net a p r x)), ((Q 2), cL E 310 s2), ((Q 3), cL E 620 s3), ((Q 4), cZ E 2 s4), ((Q 5), cI E 80 tx), ((Q 6), cI E 24 cosT), ((Q 7), cI E 16 rr), ((Q 8), cI E 120 ww)]) (congrArg (fun z_ : Nat → Int64 => ([((Q 0), .inr (12, [vR (Q 1), vR (Q 2), vR (Q 3), vR (Q 4), vR (Q 5), vI pn, vR (Q 6), vL f0, vL f1, vL f2, vL f3, vL px, vL py, vL pb, vI rg, vI wr, vR (Q 7), vI rn, vR (Q 8), vI wn])), ((Q 1), .inl (E.2.1 1, 310, .inr (.inl z_))), ((Q 2), cL E 310 s2), ((Q 3), cL E 620 s3), ((Q 4), cZ E 2 s4), ((Q 5), cI E 80 tx), ((Q 6), cI E 24 cosT), ((Q 7), cI E 16 rr), ((Q 8), cI E 120 ww)] : va_W)) (show AL 310 (n_net a p r x) = AL 310 (ua a ((14 + (2 * p)) - 1) r) from AL_c (fun k_ k0_ k1_ => by unfold n_net; (repeat' split) <;> first | rfl | omega | contradiction | (unfold ua; (repeat' split) <;> first | rfl | omega)))) ?_
          exact g_iret C hr rfl (Nat.le_of_ble_eq_true rfl) (Nat.le_of_ble_eq_true rfl) dX11_network_134 ⟨rfl, rfl⟩
        refine g_aload_n C 0 rfl dX11_network_121 rfl ?_
        refine g_get C 0 fd_X11_network_7 rfl rfl rfl dX11_network_122 rfl ?_
        refine g_iload C 5 rfl dX11_network_125 rfl ?_
        refine g_iconst C dX11_network_127 rfl ?_
        refine g_iadd C rfl dX11_network_128 rfl ?_
        refine g_iload_n C 3 rfl dX11_network_129 rfl ?_
        refine g_i2l C (b_x) rfl dX11_network_130 rfl ?_
        refine g_last C 1 rfl (by omega) (by omega) (by decide) (ws' := [((Q 0), .inr (12, [vR (Q 1), vR (Q 2), vR (Q 3), vR (Q 4), vR (Q 5), vI pn, vR (Q 6), vL f0, vL f1, vL f2, vL f3, vL px, vL py, vL pb, vI rg, vI wr, vR (Q 7), vI rn, vR (Q 8), vI wn])), ((Q 1), cL E 310 (ua (ua a ((14 + (2 * p)) - 1) r) (((14 + (2 * p)) - 1) + 1) x)), ((Q 2), cL E 310 s2), ((Q 3), cL E 620 s3), ((Q 4), cZ E 2 s4), ((Q 5), cI E 80 tx), ((Q 6), cI E 24 cosT), ((Q 7), cI E 16 rr), ((Q 8), cI E 120 ww)]) rfl dX11_network_131 rfl ?_
        refine g_iload C 6 rfl dX11_network_132 rfl ?_
        refine g_top (v' := vI (q_net a p r x)) (congrArg (fun z_ : Int => vI z_) (show (q_net a p r x) = (a ((14 + (2 * p)) - 1)) by unfold q_net; (repeat' split) <;> first | rfl | omega | contradiction | (congr 1; omega))) ?_
        refine g_ws (ws' := [((Q 0), .inr (12, [vR (Q 1), vR (Q 2), vR (Q 3), vR (Q 4), vR (Q 5), vI pn, vR (Q 6), vL f0, vL f1, vL f2, vL f3, vL px, vL py, vL pb, vI rg, vI wr, vR (Q 7), vI rn, vR (Q 8), vI wn])), ((Q 1), cL E 310 (n_net a p r x)), ((Q 2), cL E 310 s2), ((Q 3), cL E 620 s3), ((Q 4), cZ E 2 s4), ((Q 5), cI E 80 tx), ((Q 6), cI E 24 cosT), ((Q 7), cI E 16 rr), ((Q 8), cI E 120 ww)]) (congrArg (fun z_ : Nat → Int64 => ([((Q 0), .inr (12, [vR (Q 1), vR (Q 2), vR (Q 3), vR (Q 4), vR (Q 5), vI pn, vR (Q 6), vL f0, vL f1, vL f2, vL f3, vL px, vL py, vL pb, vI rg, vI wr, vR (Q 7), vI rn, vR (Q 8), vI wn])), ((Q 1), .inl (E.2.1 1, 310, .inr (.inl z_))), ((Q 2), cL E 310 s2), ((Q 3), cL E 620 s3), ((Q 4), cZ E 2 s4), ((Q 5), cI E 80 tx), ((Q 6), cI E 24 cosT), ((Q 7), cI E 16 rr), ((Q 8), cI E 120 ww)] : va_W)) (show AL 310 (n_net a p r x) = AL 310 (ua (ua a ((14 + (2 * p)) - 1) r) (((14 + (2 * p)) - 1) + 1) x) from AL_c (fun k_ k0_ k1_ => by unfold n_net; (repeat' split) <;> first | rfl | omega | contradiction | (unfold ua; (repeat' split) <;> first | rfl | omega)))) ?_
        exact g_iret C hr rfl (Nat.le_of_ble_eq_true rfl) (Nat.le_of_ble_eq_true rfl) dX11_network_134 ⟨rfl, rfl⟩
      refine g_bipush C (by decide) dX11_network_83 rfl ?_
      refine g_goto C (pc' := 96) dX11_network_85 (by decide) ?_
      refine g_istore C (lv' := [(0, vR (Q 0)), (1, vI p), (2, vI r), (3, vI x), (4, vI 1), (5, vI 14)]) [1, 2, 3, 4, 5, 0] (by decide) rfl rfl dX11_network_96 rfl ?_
      refine g_aload_n C 0 rfl dX11_network_98 rfl ?_
      refine g_get C 0 fd_X11_network_7 rfl rfl rfl dX11_network_99 rfl ?_
      refine g_iload C 5 rfl dX11_network_102 rfl ?_
      refine g_lald C 1 rfl (by decide) (by decide) (by decide) rfl dX11_network_104 rfl ?_
      refine g_l2i C rfl dX11_network_105 rfl ?_
      refine g_istore C (lv' := [(0, vR (Q 0)), (1, vI p), (2, vI r), (3, vI x), (4, vI 1), (5, vI 14), (6, vI (a 14))]) [1, 2, 3, 4, 5, 6, 0] (by decide) rfl rfl dX11_network_106 rfl ?_
      refine g_aload_n C 0 rfl dX11_network_108 rfl ?_
      refine g_get C 0 fd_X11_network_7 rfl rfl rfl dX11_network_109 rfl ?_
      refine g_iload C 5 rfl dX11_network_112 rfl ?_
      refine g_iload_n C 2 rfl dX11_network_114 rfl ?_
      refine g_i2l C (b_r) rfl dX11_network_115 rfl ?_
      refine g_last C 1 rfl (by decide) (by decide) (by decide) (ws' := [((Q 0), .inr (12, [vR (Q 1), vR (Q 2), vR (Q 3), vR (Q 4), vR (Q 5), vI pn, vR (Q 6), vL f0, vL f1, vL f2, vL f3, vL px, vL py, vL pb, vI rg, vI wr, vR (Q 7), vI rn, vR (Q 8), vI wn])), ((Q 1), cL E 310 (ua a 14 r)), ((Q 2), cL E 310 s2), ((Q 3), cL E 620 s3), ((Q 4), cZ E 2 s4), ((Q 5), cI E 80 tx), ((Q 6), cI E 24 cosT), ((Q 7), cI E 16 rr), ((Q 8), cI E 120 ww)]) rfl dX11_network_116 rfl ?_
      refine g_iload_n C 1 rfl dX11_network_117 rfl ?_
      refine g_if_le C (tgt := 132) (b_p) dX11_network_118 (by decide) rfl (fun c_11 => ?_) (fun c_11 => ?_)
      · refine g_iload C 6 rfl dX11_network_132 rfl ?_
        refine g_top (v' := vI (q_net a p r x)) (congrArg (fun z_ : Int => vI z_) (show (q_net a p r x) = (a 14) by unfold q_net; (repeat' split) <;> first | rfl | omega | contradiction | (congr 1; omega))) ?_
        refine g_ws (ws' := [((Q 0), .inr (12, [vR (Q 1), vR (Q 2), vR (Q 3), vR (Q 4), vR (Q 5), vI pn, vR (Q 6), vL f0, vL f1, vL f2, vL f3, vL px, vL py, vL pb, vI rg, vI wr, vR (Q 7), vI rn, vR (Q 8), vI wn])), ((Q 1), cL E 310 (n_net a p r x)), ((Q 2), cL E 310 s2), ((Q 3), cL E 620 s3), ((Q 4), cZ E 2 s4), ((Q 5), cI E 80 tx), ((Q 6), cI E 24 cosT), ((Q 7), cI E 16 rr), ((Q 8), cI E 120 ww)]) (congrArg (fun z_ : Nat → Int64 => ([((Q 0), .inr (12, [vR (Q 1), vR (Q 2), vR (Q 3), vR (Q 4), vR (Q 5), vI pn, vR (Q 6), vL f0, vL f1, vL f2, vL f3, vL px, vL py, vL pb, vI rg, vI wr, vR (Q 7), vI rn, vR (Q 8), vI wn])), ((Q 1), .inl (E.2.1 1, 310, .inr (.inl z_))), ((Q 2), cL E 310 s2), ((Q 3), cL E 620 s3), ((Q 4), cZ E 2 s4), ((Q 5), cI E 80 tx), ((Q 6), cI E 24 cosT), ((Q 7), cI E 16 rr), ((Q 8), cI E 120 ww)] : va_W)) (show AL 310 (n_net a p r x) = AL 310 (ua a 14 r) from AL_c (fun k_ k0_ k1_ => by unfold n_net; (repeat' split) <;> first | rfl | omega | contradiction | (unfold ua; (repeat' split) <;> first | rfl | omega)))) ?_
        exact g_iret C hr rfl (Nat.le_of_ble_eq_true rfl) (Nat.le_of_ble_eq_true rfl) dX11_network_134 ⟨rfl, rfl⟩
      refine g_aload_n C 0 rfl dX11_network_121 rfl ?_
      refine g_get C 0 fd_X11_network_7 rfl rfl rfl dX11_network_122 rfl ?_
      refine g_iload C 5 rfl dX11_network_125 rfl ?_
      refine g_iconst C dX11_network_127 rfl ?_
      refine g_iadd C (r := 15) (by decide) dX11_network_128 rfl ?_
      refine g_iload_n C 3 rfl dX11_network_129 rfl ?_
      refine g_i2l C (b_x) rfl dX11_network_130 rfl ?_
      refine g_last C 1 rfl (by decide) (by decide) (by decide) (ws' := [((Q 0), .inr (12, [vR (Q 1), vR (Q 2), vR (Q 3), vR (Q 4), vR (Q 5), vI pn, vR (Q 6), vL f0, vL f1, vL f2, vL f3, vL px, vL py, vL pb, vI rg, vI wr, vR (Q 7), vI rn, vR (Q 8), vI wn])), ((Q 1), cL E 310 (ua (ua a 14 r) 15 x)), ((Q 2), cL E 310 s2), ((Q 3), cL E 620 s3), ((Q 4), cZ E 2 s4), ((Q 5), cI E 80 tx), ((Q 6), cI E 24 cosT), ((Q 7), cI E 16 rr), ((Q 8), cI E 120 ww)]) rfl dX11_network_131 rfl ?_
      refine g_iload C 6 rfl dX11_network_132 rfl ?_
      refine g_top (v' := vI (q_net a p r x)) (congrArg (fun z_ : Int => vI z_) (show (q_net a p r x) = (a 14) by unfold q_net; (repeat' split) <;> first | rfl | omega | contradiction | (congr 1; omega))) ?_
      refine g_ws (ws' := [((Q 0), .inr (12, [vR (Q 1), vR (Q 2), vR (Q 3), vR (Q 4), vR (Q 5), vI pn, vR (Q 6), vL f0, vL f1, vL f2, vL f3, vL px, vL py, vL pb, vI rg, vI wr, vR (Q 7), vI rn, vR (Q 8), vI wn])), ((Q 1), cL E 310 (n_net a p r x)), ((Q 2), cL E 310 s2), ((Q 3), cL E 620 s3), ((Q 4), cZ E 2 s4), ((Q 5), cI E 80 tx), ((Q 6), cI E 24 cosT), ((Q 7), cI E 16 rr), ((Q 8), cI E 120 ww)]) (congrArg (fun z_ : Nat → Int64 => ([((Q 0), .inr (12, [vR (Q 1), vR (Q 2), vR (Q 3), vR (Q 4), vR (Q 5), vI pn, vR (Q 6), vL f0, vL f1, vL f2, vL f3, vL px, vL py, vL pb, vI rg, vI wr, vR (Q 7), vI rn, vR (Q 8), vI wn])), ((Q 1), .inl (E.2.1 1, 310, .inr (.inl z_))), ((Q 2), cL E 310 s2), ((Q 3), cL E 620 s3), ((Q 4), cZ E 2 s4), ((Q 5), cI E 80 tx), ((Q 6), cI E 24 cosT), ((Q 7), cI E 16 rr), ((Q 8), cI E 120 ww)] : va_W)) (show AL 310 (n_net a p r x) = AL 310 (ua (ua a 14 r) 15 x) from AL_c (fun k_ k0_ k1_ => by unfold n_net; (repeat' split) <;> first | rfl | omega | contradiction | (unfold ua; (repeat' split) <;> first | rfl | omega)))) ?_
      exact g_iret C hr rfl (Nat.le_of_ble_eq_true rfl) (Nat.le_of_ble_eq_true rfl) dX11_network_134 ⟨rfl, rfl⟩
    exact absurd c_8 (by decide)
  refine g_iload_n C 2 rfl dX11_network_4 rfl ?_
  refine g_i2l C (b_r) rfl dX11_network_5 rfl ?_
  refine g_lconst1 C dX11_network_6 rfl ?_
  refine g_ldc2 C (x := 20000) w_X11_network_k46 (by decide) dX11_network_7 rfl ?_
  refine g_callS C (As := [vL r, vL 1, vL 20000]) (wc := []) (wr := [((Q 0), .inr (12, [vR (Q 1), vR (Q 2), vR (Q 3), vR (Q 4), vR (Q 5), vI pn, vR (Q 6), vL f0, vL f1, vL f2, vL f3, vL px, vL py, vL pb, vI rg, vI wr, vR (Q 7), vI rn, vR (Q 8), vI wn])), ((Q 1), cL E 310 a), ((Q 2), cL E 310 s2), ((Q 3), cL E 620 s3), ((Q 4), cZ E 2 s4), ((Q 5), cI E 80 tx), ((Q 6), cI E 24 cosT), ((Q 7), cI E 16 rr), ((Q 8), cI E 120 ww)]) (st := []) gX11_network_X11_in rfl (K_m_in l E r 1 20000 ⟨by omega, by omega⟩ ⟨by omega, by omega⟩ ⟨by omega, by omega⟩) hyd_X11_in rfl [] [0, 1, 2, 3, 4, 5, 6, 7, 8] rfl rfl rfl rfl rfl (by decide) ⟨rfl, rfl⟩ ⟨Nat.le_of_ble_eq_true rfl, Nat.le_of_ble_eq_true rfl, Nat.le_of_ble_eq_true rfl, Nat.le_of_ble_eq_true rfl⟩ (Nat.le_of_ble_eq_true rfl) dX11_network_10 (rfl : _ = 0) (rfl : _ = 0) rfl ?_
  rintro _ _ ⟨rfl, rfl⟩
  refine g_is (ws' := [((Q 0), .inr (12, [vR (Q 1), vR (Q 2), vR (Q 3), vR (Q 4), vR (Q 5), vI pn, vR (Q 6), vL f0, vL f1, vL f2, vL f3, vL px, vL py, vL pb, vI rg, vI wr, vR (Q 7), vI rn, vR (Q 8), vI wn])), ((Q 1), cL E 310 a), ((Q 2), cL E 310 s2), ((Q 3), cL E 620 s3), ((Q 4), cZ E 2 s4), ((Q 5), cI E 80 tx), ((Q 6), cI E 24 cosT), ((Q 7), cI E 16 rr), ((Q 8), cI E 120 ww)]) (st' := [vI (bP (1 ≤ r ∧ r ≤ 20000))]) rfl rfl ?_
  refine g_ifb_eq C (tgt := 24) dX11_network_13 (by decide) rfl (fun c_12 => ?_) (fun c_12 => ?_)
  · refine g_iconst C dX11_network_24 rfl ?_
    refine g_goto C (pc' := 69) dX11_network_25 (by decide) ?_
    refine g_istore C (lv' := [(0, vR (Q 0)), (1, vI p), (2, vI r), (3, vI x), (4, vI 0)]) [1, 2, 3, 4, 0] (by decide) rfl rfl dX11_network_69 rfl ?_
    refine g_iload C 4 rfl dX11_network_71 rfl ?_
    refine g_if_ne C (tgt := 79) ⟨by decide, by decide⟩ dX11_network_73 (by decide) rfl (fun c_13 => ?_) (fun c_13 => ?_)
    · exact absurd c_13 (by decide)
    refine g_bipush C (by decide) dX11_network_76 rfl ?_
    refine g_top (v' := vI (q_net a p r x)) (congrArg (fun z_ : Int => vI z_) (show (q_net a p r x) = (-2) by unfold q_net; (repeat' split) <;> first | rfl | omega | contradiction | (congr 1; omega))) ?_
    refine g_ws (ws' := [((Q 0), .inr (12, [vR (Q 1), vR (Q 2), vR (Q 3), vR (Q 4), vR (Q 5), vI pn, vR (Q 6), vL f0, vL f1, vL f2, vL f3, vL px, vL py, vL pb, vI rg, vI wr, vR (Q 7), vI rn, vR (Q 8), vI wn])), ((Q 1), cL E 310 (n_net a p r x)), ((Q 2), cL E 310 s2), ((Q 3), cL E 620 s3), ((Q 4), cZ E 2 s4), ((Q 5), cI E 80 tx), ((Q 6), cI E 24 cosT), ((Q 7), cI E 16 rr), ((Q 8), cI E 120 ww)]) (congrArg (fun z_ : Nat → Int64 => ([((Q 0), .inr (12, [vR (Q 1), vR (Q 2), vR (Q 3), vR (Q 4), vR (Q 5), vI pn, vR (Q 6), vL f0, vL f1, vL f2, vL f3, vL px, vL py, vL pb, vI rg, vI wr, vR (Q 7), vI rn, vR (Q 8), vI wn])), ((Q 1), .inl (E.2.1 1, 310, .inr (.inl z_))), ((Q 2), cL E 310 s2), ((Q 3), cL E 620 s3), ((Q 4), cZ E 2 s4), ((Q 5), cI E 80 tx), ((Q 6), cI E 24 cosT), ((Q 7), cI E 16 rr), ((Q 8), cI E 120 ww)] : va_W)) (show AL 310 (n_net a p r x) = AL 310 a from AL_c (fun k_ k0_ k1_ => by unfold n_net; (repeat' split) <;> first | rfl | omega | contradiction | (unfold ua; (repeat' split) <;> first | rfl | omega)))) ?_
    exact g_iret C hr rfl (Nat.le_of_ble_eq_true rfl) (Nat.le_of_ble_eq_true rfl) dX11_network_78 ⟨rfl, rfl⟩
  refine g_iload_n C 3 rfl dX11_network_16 rfl ?_
  refine g_if_ne C (tgt := 24) (b_x) dX11_network_17 (by decide) rfl (fun c_14 => ?_) (fun c_14 => ?_)
  · refine g_iconst C dX11_network_24 rfl ?_
    refine g_goto C (pc' := 69) dX11_network_25 (by decide) ?_
    refine g_istore C (lv' := [(0, vR (Q 0)), (1, vI p), (2, vI r), (3, vI x), (4, vI 0)]) [1, 2, 3, 4, 0] (by decide) rfl rfl dX11_network_69 rfl ?_
    refine g_iload C 4 rfl dX11_network_71 rfl ?_
    refine g_if_ne C (tgt := 79) ⟨by decide, by decide⟩ dX11_network_73 (by decide) rfl (fun c_15 => ?_) (fun c_15 => ?_)
    · exact absurd c_15 (by decide)
    refine g_bipush C (by decide) dX11_network_76 rfl ?_
    refine g_top (v' := vI (q_net a p r x)) (congrArg (fun z_ : Int => vI z_) (show (q_net a p r x) = (-2) by unfold q_net; (repeat' split) <;> first | rfl | omega | contradiction | (congr 1; omega))) ?_
    refine g_ws (ws' := [((Q 0), .inr (12, [vR (Q 1), vR (Q 2), vR (Q 3), vR (Q 4), vR (Q 5), vI pn, vR (Q 6), vL f0, vL f1, vL f2, vL f3, vL px, vL py, vL pb, vI rg, vI wr, vR (Q 7), vI rn, vR (Q 8), vI wn])), ((Q 1), cL E 310 (n_net a p r x)), ((Q 2), cL E 310 s2), ((Q 3), cL E 620 s3), ((Q 4), cZ E 2 s4), ((Q 5), cI E 80 tx), ((Q 6), cI E 24 cosT), ((Q 7), cI E 16 rr), ((Q 8), cI E 120 ww)]) (congrArg (fun z_ : Nat → Int64 => ([((Q 0), .inr (12, [vR (Q 1), vR (Q 2), vR (Q 3), vR (Q 4), vR (Q 5), vI pn, vR (Q 6), vL f0, vL f1, vL f2, vL f3, vL px, vL py, vL pb, vI rg, vI wr, vR (Q 7), vI rn, vR (Q 8), vI wn])), ((Q 1), .inl (E.2.1 1, 310, .inr (.inl z_))), ((Q 2), cL E 310 s2), ((Q 3), cL E 620 s3), ((Q 4), cZ E 2 s4), ((Q 5), cI E 80 tx), ((Q 6), cI E 24 cosT), ((Q 7), cI E 16 rr), ((Q 8), cI E 120 ww)] : va_W)) (show AL 310 (n_net a p r x) = AL 310 a from AL_c (fun k_ k0_ k1_ => by unfold n_net; (repeat' split) <;> first | rfl | omega | contradiction | (unfold ua; (repeat' split) <;> first | rfl | omega)))) ?_
    exact g_iret C hr rfl (Nat.le_of_ble_eq_true rfl) (Nat.le_of_ble_eq_true rfl) dX11_network_78 ⟨rfl, rfl⟩
  refine g_iconst C dX11_network_20 rfl ?_
  refine g_goto C (pc' := 69) dX11_network_21 (by decide) ?_
  refine g_istore C (lv' := [(0, vR (Q 0)), (1, vI p), (2, vI r), (3, vI x), (4, vI 1)]) [1, 2, 3, 4, 0] (by decide) rfl rfl dX11_network_69 rfl ?_
  refine g_iload C 4 rfl dX11_network_71 rfl ?_
  refine g_if_ne C (tgt := 79) ⟨by decide, by decide⟩ dX11_network_73 (by decide) rfl (fun c_16 => ?_) (fun c_16 => ?_)
  · refine g_iload_n C 1 rfl dX11_network_79 rfl ?_
    refine g_if_ne C (tgt := 88) (b_p) dX11_network_80 (by decide) rfl (fun c_17 => ?_) (fun c_17 => ?_)
    · refine g_bipush C (by decide) dX11_network_88 rfl ?_
      refine g_iconst C dX11_network_90 rfl ?_
      refine g_iload_n C 1 rfl dX11_network_91 rfl ?_
      refine g_imul C rfl dX11_network_92 rfl ?_
      refine g_iadd C rfl dX11_network_93 rfl ?_
      refine g_iconst C dX11_network_94 rfl ?_
      refine g_isub C rfl dX11_network_95 rfl ?_
      refine g_istore C (lv' := [(0, vR (Q 0)), (1, vI p), (2, vI r), (3, vI x), (4, vI 1), (5, vI ((14 + (2 * p)) - 1))]) [1, 2, 3, 4, 5, 0] (by decide) rfl rfl dX11_network_96 rfl ?_
      refine g_aload_n C 0 rfl dX11_network_98 rfl ?_
      refine g_get C 0 fd_X11_network_7 rfl rfl rfl dX11_network_99 rfl ?_
      refine g_iload C 5 rfl dX11_network_102 rfl ?_
      refine g_lald C 1 rfl (by omega) (by omega) (by decide) rfl dX11_network_104 rfl ?_
      refine g_l2i C rfl dX11_network_105 rfl ?_
      refine g_istore C (lv' := [(0, vR (Q 0)), (1, vI p), (2, vI r), (3, vI x), (4, vI 1), (5, vI ((14 + (2 * p)) - 1)), (6, vI (a ((14 + (2 * p)) - 1)))]) [1, 2, 3, 4, 5, 6, 0] (by decide) rfl rfl dX11_network_106 rfl ?_
      refine g_aload_n C 0 rfl dX11_network_108 rfl ?_
      refine g_get C 0 fd_X11_network_7 rfl rfl rfl dX11_network_109 rfl ?_
      refine g_iload C 5 rfl dX11_network_112 rfl ?_
      refine g_iload_n C 2 rfl dX11_network_114 rfl ?_
      refine g_i2l C (b_r) rfl dX11_network_115 rfl ?_
      refine g_last C 1 rfl (by omega) (by omega) (by decide) (ws' := [((Q 0), .inr (12, [vR (Q 1), vR (Q 2), vR (Q 3), vR (Q 4), vR (Q 5), vI pn, vR (Q 6), vL f0, vL f1, vL f2, vL f3, vL px, vL py, vL pb, vI rg, vI wr, vR (Q 7), vI rn, vR (Q 8), vI wn])), ((Q 1), cL E 310 (ua a ((14 + (2 * p)) - 1) r)), ((Q 2), cL E 310 s2), ((Q 3), cL E 620 s3), ((Q 4), cZ E 2 s4), ((Q 5), cI E 80 tx), ((Q 6), cI E 24 cosT), ((Q 7), cI E 16 rr), ((Q 8), cI E 120 ww)]) rfl dX11_network_116 rfl ?_
      refine g_iload_n C 1 rfl dX11_network_117 rfl ?_
      refine g_if_le C (tgt := 132) (b_p) dX11_network_118 (by decide) rfl (fun c_18 => ?_) (fun c_18 => ?_)
      · refine g_iload C 6 rfl dX11_network_132 rfl ?_
        refine g_top (v' := vI (q_net a p r x)) (congrArg (fun z_ : Int => vI z_) (show (q_net a p r x) = (a ((14 + (2 * p)) - 1)) by unfold q_net; (repeat' split) <;> first | rfl | omega | contradiction | (congr 1; omega))) ?_
        refine g_ws (ws' := [((Q 0), .inr (12, [vR (Q 1), vR (Q 2), vR (Q 3), vR (Q 4), vR (Q 5), vI pn, vR (Q 6), vL f0, vL f1, vL f2, vL f3, vL px, vL py, vL pb, vI rg, vI wr, vR (Q 7), vI rn, vR (Q 8), vI wn])), ((Q 1), cL E 310 (n_net a p r x)), ((Q 2), cL E 310 s2), ((Q 3), cL E 620 s3), ((Q 4), cZ E 2 s4), ((Q 5), cI E 80 tx), ((Q 6), cI E 24 cosT), ((Q 7), cI E 16 rr), ((Q 8), cI E 120 ww)]) (congrArg (fun z_ : Nat → Int64 => ([((Q 0), .inr (12, [vR (Q 1), vR (Q 2), vR (Q 3), vR (Q 4), vR (Q 5), vI pn, vR (Q 6), vL f0, vL f1, vL f2, vL f3, vL px, vL py, vL pb, vI rg, vI wr, vR (Q 7), vI rn, vR (Q 8), vI wn])), ((Q 1), .inl (E.2.1 1, 310, .inr (.inl z_))), ((Q 2), cL E 310 s2), ((Q 3), cL E 620 s3), ((Q 4), cZ E 2 s4), ((Q 5), cI E 80 tx), ((Q 6), cI E 24 cosT), ((Q 7), cI E 16 rr), ((Q 8), cI E 120 ww)] : va_W)) (show AL 310 (n_net a p r x) = AL 310 (ua a ((14 + (2 * p)) - 1) r) from AL_c (fun k_ k0_ k1_ => by unfold n_net; (repeat' split) <;> first | rfl | omega | contradiction | (unfold ua; (repeat' split) <;> first | rfl | omega)))) ?_
        exact g_iret C hr rfl (Nat.le_of_ble_eq_true rfl) (Nat.le_of_ble_eq_true rfl) dX11_network_134 ⟨rfl, rfl⟩
      refine g_aload_n C 0 rfl dX11_network_121 rfl ?_
      refine g_get C 0 fd_X11_network_7 rfl rfl rfl dX11_network_122 rfl ?_
      refine g_iload C 5 rfl dX11_network_125 rfl ?_
      refine g_iconst C dX11_network_127 rfl ?_
      refine g_iadd C rfl dX11_network_128 rfl ?_
      refine g_iload_n C 3 rfl dX11_network_129 rfl ?_
      refine g_i2l C (b_x) rfl dX11_network_130 rfl ?_
      refine g_last C 1 rfl (by omega) (by omega) (by decide) (ws' := [((Q 0), .inr (12, [vR (Q 1), vR (Q 2), vR (Q 3), vR (Q 4), vR (Q 5), vI pn, vR (Q 6), vL f0, vL f1, vL f2, vL f3, vL px, vL py, vL pb, vI rg, vI wr, vR (Q 7), vI rn, vR (Q 8), vI wn])), ((Q 1), cL E 310 (ua (ua a ((14 + (2 * p)) - 1) r) (((14 + (2 * p)) - 1) + 1) x)), ((Q 2), cL E 310 s2), ((Q 3), cL E 620 s3), ((Q 4), cZ E 2 s4), ((Q 5), cI E 80 tx), ((Q 6), cI E 24 cosT), ((Q 7), cI E 16 rr), ((Q 8), cI E 120 ww)]) rfl dX11_network_131 rfl ?_
      refine g_iload C 6 rfl dX11_network_132 rfl ?_
      refine g_top (v' := vI (q_net a p r x)) (congrArg (fun z_ : Int => vI z_) (show (q_net a p r x) = (a ((14 + (2 * p)) - 1)) by unfold q_net; (repeat' split) <;> first | rfl | omega | contradiction | (congr 1; omega))) ?_
      refine g_ws (ws' := [((Q 0), .inr (12, [vR (Q 1), vR (Q 2), vR (Q 3), vR (Q 4), vR (Q 5), vI pn, vR (Q 6), vL f0, vL f1, vL f2, vL f3, vL px, vL py, vL pb, vI rg, vI wr, vR (Q 7), vI rn, vR (Q 8), vI wn])), ((Q 1), cL E 310 (n_net a p r x)), ((Q 2), cL E 310 s2), ((Q 3), cL E 620 s3), ((Q 4), cZ E 2 s4), ((Q 5), cI E 80 tx), ((Q 6), cI E 24 cosT), ((Q 7), cI E 16 rr), ((Q 8), cI E 120 ww)]) (congrArg (fun z_ : Nat → Int64 => ([((Q 0), .inr (12, [vR (Q 1), vR (Q 2), vR (Q 3), vR (Q 4), vR (Q 5), vI pn, vR (Q 6), vL f0, vL f1, vL f2, vL f3, vL px, vL py, vL pb, vI rg, vI wr, vR (Q 7), vI rn, vR (Q 8), vI wn])), ((Q 1), .inl (E.2.1 1, 310, .inr (.inl z_))), ((Q 2), cL E 310 s2), ((Q 3), cL E 620 s3), ((Q 4), cZ E 2 s4), ((Q 5), cI E 80 tx), ((Q 6), cI E 24 cosT), ((Q 7), cI E 16 rr), ((Q 8), cI E 120 ww)] : va_W)) (show AL 310 (n_net a p r x) = AL 310 (ua (ua a ((14 + (2 * p)) - 1) r) (((14 + (2 * p)) - 1) + 1) x) from AL_c (fun k_ k0_ k1_ => by unfold n_net; (repeat' split) <;> first | rfl | omega | contradiction | (unfold ua; (repeat' split) <;> first | rfl | omega)))) ?_
      exact g_iret C hr rfl (Nat.le_of_ble_eq_true rfl) (Nat.le_of_ble_eq_true rfl) dX11_network_134 ⟨rfl, rfl⟩
    refine g_bipush C (by decide) dX11_network_83 rfl ?_
    refine g_goto C (pc' := 96) dX11_network_85 (by decide) ?_
    refine g_istore C (lv' := [(0, vR (Q 0)), (1, vI p), (2, vI r), (3, vI x), (4, vI 1), (5, vI 14)]) [1, 2, 3, 4, 5, 0] (by decide) rfl rfl dX11_network_96 rfl ?_
    refine g_aload_n C 0 rfl dX11_network_98 rfl ?_
    refine g_get C 0 fd_X11_network_7 rfl rfl rfl dX11_network_99 rfl ?_
    refine g_iload C 5 rfl dX11_network_102 rfl ?_
    refine g_lald C 1 rfl (by decide) (by decide) (by decide) rfl dX11_network_104 rfl ?_
    refine g_l2i C rfl dX11_network_105 rfl ?_
    refine g_istore C (lv' := [(0, vR (Q 0)), (1, vI p), (2, vI r), (3, vI x), (4, vI 1), (5, vI 14), (6, vI (a 14))]) [1, 2, 3, 4, 5, 6, 0] (by decide) rfl rfl dX11_network_106 rfl ?_
    refine g_aload_n C 0 rfl dX11_network_108 rfl ?_
    refine g_get C 0 fd_X11_network_7 rfl rfl rfl dX11_network_109 rfl ?_
    refine g_iload C 5 rfl dX11_network_112 rfl ?_
    refine g_iload_n C 2 rfl dX11_network_114 rfl ?_
    refine g_i2l C (b_r) rfl dX11_network_115 rfl ?_
    refine g_last C 1 rfl (by decide) (by decide) (by decide) (ws' := [((Q 0), .inr (12, [vR (Q 1), vR (Q 2), vR (Q 3), vR (Q 4), vR (Q 5), vI pn, vR (Q 6), vL f0, vL f1, vL f2, vL f3, vL px, vL py, vL pb, vI rg, vI wr, vR (Q 7), vI rn, vR (Q 8), vI wn])), ((Q 1), cL E 310 (ua a 14 r)), ((Q 2), cL E 310 s2), ((Q 3), cL E 620 s3), ((Q 4), cZ E 2 s4), ((Q 5), cI E 80 tx), ((Q 6), cI E 24 cosT), ((Q 7), cI E 16 rr), ((Q 8), cI E 120 ww)]) rfl dX11_network_116 rfl ?_
    refine g_iload_n C 1 rfl dX11_network_117 rfl ?_
    refine g_if_le C (tgt := 132) (b_p) dX11_network_118 (by decide) rfl (fun c_19 => ?_) (fun c_19 => ?_)
    · refine g_iload C 6 rfl dX11_network_132 rfl ?_
      refine g_top (v' := vI (q_net a p r x)) (congrArg (fun z_ : Int => vI z_) (show (q_net a p r x) = (a 14) by unfold q_net; (repeat' split) <;> first | rfl | omega | contradiction | (congr 1; omega))) ?_
      refine g_ws (ws' := [((Q 0), .inr (12, [vR (Q 1), vR (Q 2), vR (Q 3), vR (Q 4), vR (Q 5), vI pn, vR (Q 6), vL f0, vL f1, vL f2, vL f3, vL px, vL py, vL pb, vI rg, vI wr, vR (Q 7), vI rn, vR (Q 8), vI wn])), ((Q 1), cL E 310 (n_net a p r x)), ((Q 2), cL E 310 s2), ((Q 3), cL E 620 s3), ((Q 4), cZ E 2 s4), ((Q 5), cI E 80 tx), ((Q 6), cI E 24 cosT), ((Q 7), cI E 16 rr), ((Q 8), cI E 120 ww)]) (congrArg (fun z_ : Nat → Int64 => ([((Q 0), .inr (12, [vR (Q 1), vR (Q 2), vR (Q 3), vR (Q 4), vR (Q 5), vI pn, vR (Q 6), vL f0, vL f1, vL f2, vL f3, vL px, vL py, vL pb, vI rg, vI wr, vR (Q 7), vI rn, vR (Q 8), vI wn])), ((Q 1), .inl (E.2.1 1, 310, .inr (.inl z_))), ((Q 2), cL E 310 s2), ((Q 3), cL E 620 s3), ((Q 4), cZ E 2 s4), ((Q 5), cI E 80 tx), ((Q 6), cI E 24 cosT), ((Q 7), cI E 16 rr), ((Q 8), cI E 120 ww)] : va_W)) (show AL 310 (n_net a p r x) = AL 310 (ua a 14 r) from AL_c (fun k_ k0_ k1_ => by unfold n_net; (repeat' split) <;> first | rfl | omega | contradiction | (unfold ua; (repeat' split) <;> first | rfl | omega)))) ?_
      exact g_iret C hr rfl (Nat.le_of_ble_eq_true rfl) (Nat.le_of_ble_eq_true rfl) dX11_network_134 ⟨rfl, rfl⟩
    refine g_aload_n C 0 rfl dX11_network_121 rfl ?_
    refine g_get C 0 fd_X11_network_7 rfl rfl rfl dX11_network_122 rfl ?_
    refine g_iload C 5 rfl dX11_network_125 rfl ?_
    refine g_iconst C dX11_network_127 rfl ?_
    refine g_iadd C (r := 15) (by decide) dX11_network_128 rfl ?_
    refine g_iload_n C 3 rfl dX11_network_129 rfl ?_
    refine g_i2l C (b_x) rfl dX11_network_130 rfl ?_
    refine g_last C 1 rfl (by decide) (by decide) (by decide) (ws' := [((Q 0), .inr (12, [vR (Q 1), vR (Q 2), vR (Q 3), vR (Q 4), vR (Q 5), vI pn, vR (Q 6), vL f0, vL f1, vL f2, vL f3, vL px, vL py, vL pb, vI rg, vI wr, vR (Q 7), vI rn, vR (Q 8), vI wn])), ((Q 1), cL E 310 (ua (ua a 14 r) 15 x)), ((Q 2), cL E 310 s2), ((Q 3), cL E 620 s3), ((Q 4), cZ E 2 s4), ((Q 5), cI E 80 tx), ((Q 6), cI E 24 cosT), ((Q 7), cI E 16 rr), ((Q 8), cI E 120 ww)]) rfl dX11_network_131 rfl ?_
    refine g_iload C 6 rfl dX11_network_132 rfl ?_
    refine g_top (v' := vI (q_net a p r x)) (congrArg (fun z_ : Int => vI z_) (show (q_net a p r x) = (a 14) by unfold q_net; (repeat' split) <;> first | rfl | omega | contradiction | (congr 1; omega))) ?_
    refine g_ws (ws' := [((Q 0), .inr (12, [vR (Q 1), vR (Q 2), vR (Q 3), vR (Q 4), vR (Q 5), vI pn, vR (Q 6), vL f0, vL f1, vL f2, vL f3, vL px, vL py, vL pb, vI rg, vI wr, vR (Q 7), vI rn, vR (Q 8), vI wn])), ((Q 1), cL E 310 (n_net a p r x)), ((Q 2), cL E 310 s2), ((Q 3), cL E 620 s3), ((Q 4), cZ E 2 s4), ((Q 5), cI E 80 tx), ((Q 6), cI E 24 cosT), ((Q 7), cI E 16 rr), ((Q 8), cI E 120 ww)]) (congrArg (fun z_ : Nat → Int64 => ([((Q 0), .inr (12, [vR (Q 1), vR (Q 2), vR (Q 3), vR (Q 4), vR (Q 5), vI pn, vR (Q 6), vL f0, vL f1, vL f2, vL f3, vL px, vL py, vL pb, vI rg, vI wr, vR (Q 7), vI rn, vR (Q 8), vI wn])), ((Q 1), .inl (E.2.1 1, 310, .inr (.inl z_))), ((Q 2), cL E 310 s2), ((Q 3), cL E 620 s3), ((Q 4), cZ E 2 s4), ((Q 5), cI E 80 tx), ((Q 6), cI E 24 cosT), ((Q 7), cI E 16 rr), ((Q 8), cI E 120 ww)] : va_W)) (show AL 310 (n_net a p r x) = AL 310 (ua (ua a 14 r) 15 x) from AL_c (fun k_ k0_ k1_ => by unfold n_net; (repeat' split) <;> first | rfl | omega | contradiction | (unfold ua; (repeat' split) <;> first | rfl | omega)))) ?_
    exact g_iret C hr rfl (Nat.le_of_ble_eq_true rfl) (Nat.le_of_ble_eq_true rfl) dX11_network_134 ⟨rfl, rfl⟩
  exact absurd c_16 (by decide)

theorem hyd_X11_isFault : yX11_isFault.cls ≠ "java/lang/invoke/MethodHandle" ∧ yX11_isFault.cls ≠ "java/lang/invoke/VarHandle" ∧ (parseMethodDescriptor yX11_isFault.desc).map (fun d => d.parameters.length) = some 2 := by decide +kernel
theorem hyd_X11_findsFault : yX11_findsFault.cls ≠ "java/lang/invoke/MethodHandle" ∧ yX11_findsFault.cls ≠ "java/lang/invoke/VarHandle" ∧ (parseMethodDescriptor yX11_findsFault.desc).map (fun d => d.parameters.length) = some 2 := by decide +kernel
theorem hyd_X11_applyFound : yX11_applyFound.cls ≠ "java/lang/invoke/MethodHandle" ∧ yX11_applyFound.cls ≠ "java/lang/invoke/VarHandle" ∧ (parseMethodDescriptor yX11_applyFound.desc).map (fun d => d.parameters.length) = some 0 := by decide +kernel
theorem in_X11_fault_X11 : ∀ w ∈ u_ws RX11 TX11 20, w ∈ wsX11_fault := by decide +kernel
theorem fd_X11_fault_7 : fdk wsX11_fault RX11 7 "ZoneRelayModel" RX11 TX11 20 0 := ⟨in_X11_fault_X11, by decide +kernel, by decide, rfl⟩
abbrev rm_M_fault : Room := { frames := 3, cells := 0, slots := 0, locals := 83 }
set_option maxHeartbeats 1000000 in
set_option maxRecDepth 100000 in
theorem M_fault (l : Launch) (E : Ev) (Q : Nat → Nat) (pn f0 f1 f2 f3 px py pb rg wr rn wn : Int) (a s2 s3 s4 tx rr ww : Int → Int) (B p q : Int) (hI : Inv a B) (hB : B ≤ 2900000) (b_p : bi p) (b_q : bi q) : Mc l yX11_fault wsX11_fault rm_M_fault E [vR (Q 0), vI p, vI q] [((Q 0), .inr (12, [vR (Q 1), vR (Q 2), vR (Q 3), vR (Q 4), vR (Q 5), vI pn, vR (Q 6), vL f0, vL f1, vL f2, vL f3, vL px, vL py, vL pb, vI rg, vI wr, vR (Q 7), vI rn, vR (Q 8), vI wn])), ((Q 1), cL E 310 a), ((Q 2), cL E 310 s2), ((Q 3), cL E 620 s3), ((Q 4), cZ E 2 s4), ((Q 5), cI E 80 tx), ((Q 6), cI E 24 cosT), ((Q 7), cI E 16 rr), ((Q 8), cI E 120 ww)] 0 0 (fun v9 w9 => ∃ (g0 : Int) (g1 : Int) (g2 : Int) (g3 : Int), v9 = some (vI (q_fault a p q)) ∧ w9 = [((Q 0), .inr (12, [vR (Q 1), vR (Q 2), vR (Q 3), vR (Q 4), vR (Q 5), vI pn, vR (Q 6), vL g0, vL g1, vL g2, vL g3, vL px, vL py, vL pb, vI rg, vI wr, vR (Q 7), vI rn, vR (Q 8), vI wn])), ((Q 1), cL E 310 (n_fault a p q)), ((Q 2), cL E 310 s2), ((Q 3), cL E 620 s3), ((Q 4), cZ E 2 s4), ((Q 5), cI E 80 tx), ((Q 6), cI E 24 cosT), ((Q 7), cI E 16 rr), ((Q 8), cI E 120 ww)]) := by
  refine Mc.intro (cc := cX11_fault) (maxL := 3) (ret := (some .int)) (lv0 := [(0, vR (Q 0)), (1, vI p), (2, vI q)]) (by decide +kernel) rfl rfl (Nat.le_of_ble_eq_true rfl) ?_
  intro p9 e9 s9 m9 args9 below9 meth9 c9 A9 C hr hmn
  have C : Cx p9 s9 m9 args9 meth9 c9 E A9 3 cX11_fault wsX11_fault RX11 := C
  have hI0 := hI
  obtain ⟨iP, i4, iR, iE, iN, ⟨i21, i22, i23, i24, i25, i26, i27, i28⟩, iD, iW, i35, iS, iM, i90, i91, i94, i95, i96, i97, iT, iK, i104, iPn, iPc⟩ := hI
  refine g_iload_n C 1 rfl dX11_fault_0 rfl ?_
  refine g_iload_n C 2 rfl dX11_fault_1 rfl ?_
  refine g_callS C (As := [vI p, vI q]) (wc := []) (wr := [((Q 0), .inr (12, [vR (Q 1), vR (Q 2), vR (Q 3), vR (Q 4), vR (Q 5), vI pn, vR (Q 6), vL f0, vL f1, vL f2, vL f3, vL px, vL py, vL pb, vI rg, vI wr, vR (Q 7), vI rn, vR (Q 8), vI wn])), ((Q 1), cL E 310 a), ((Q 2), cL E 310 s2), ((Q 3), cL E 620 s3), ((Q 4), cZ E 2 s4), ((Q 5), cI E 80 tx), ((Q 6), cI E 24 cosT), ((Q 7), cI E 16 rr), ((Q 8), cI E 120 ww)]) (st := []) gX11_fault_X11_isFault rfl (K_m_isFault l E p q b_p b_q) hyd_X11_isFault rfl [] [0, 1, 2, 3, 4, 5, 6, 7, 8] rfl rfl rfl rfl rfl (by decide) ⟨rfl, rfl⟩ ⟨Nat.le_of_ble_eq_true rfl, Nat.le_of_ble_eq_true rfl, Nat.le_of_ble_eq_true rfl, Nat.le_of_ble_eq_true rfl⟩ (Nat.le_of_ble_eq_true rfl) dX11_fault_2 (rfl : _ = 0) (rfl : _ = 0) rfl ?_
  rintro _ _ ⟨rfl, rfl⟩
  refine g_is (ws' := [((Q 0), .inr (12, [vR (Q 1), vR (Q 2), vR (Q 3), vR (Q 4), vR (Q 5), vI pn, vR (Q 6), vL f0, vL f1, vL f2, vL f3, vL px, vL py, vL pb, vI rg, vI wr, vR (Q 7), vI rn, vR (Q 8), vI wn])), ((Q 1), cL E 310 a), ((Q 2), cL E 310 s2), ((Q 3), cL E 620 s3), ((Q 4), cZ E 2 s4), ((Q 5), cI E 80 tx), ((Q 6), cI E 24 cosT), ((Q 7), cI E 16 rr), ((Q 8), cI E 120 ww)]) (st' := [vI (bP ((0 ≤ p ∧ p ≤ 1000) ∧ (0 ≤ q ∧ q ≤ 20000)))]) rfl rfl ?_
  refine g_ifb_ne C (tgt := 11) dX11_fault_5 (by decide) rfl (fun c_1 => ?_) (fun c_1 => ?_)
  · by_cases hDz : slD (a 15) (a 16) (Int.tdiv (a 17 * p) 1000 + q) (Int.tdiv (a 18 * p) 1000) = 0
    · refine g_aload_n C 0 rfl dX11_fault_11 rfl ?_
      refine g_iload_n C 1 rfl dX11_fault_12 rfl ?_
      refine g_iload_n C 2 rfl dX11_fault_13 rfl ?_
      refine g_callV C (b := (Q 0)) (As := [vI p, vI q]) (wc := [((Q 0), .inr (12, [vR (Q 1), vR (Q 2), vR (Q 3), vR (Q 4), vR (Q 5), vI pn, vR (Q 6), vL f0, vL f1, vL f2, vL f3, vL px, vL py, vL pb, vI rg, vI wr, vR (Q 7), vI rn, vR (Q 8), vI wn])), ((Q 1), cL E 310 a)]) (wr := [((Q 2), cL E 310 s2), ((Q 3), cL E 620 s3), ((Q 4), cZ E 2 s4), ((Q 5), cI E 80 tx), ((Q 6), cI E 24 cosT), ((Q 7), cI E 16 rr), ((Q 8), cI E 120 ww)]) (st := []) gX11_fault_X11_findsFault (q9 := 0) (ci := 12) rfl rfl rfl (K_m_fF0 l E Q pn f0 f1 f2 f3 px py pb rg wr rn wn a p q ⟨by omega, by omega⟩ (iN 15 (by decide) (by decide)) (iN 16 (by decide) (by decide)) (iN 17 (by decide) (by decide)) (iN 18 (by decide) (by decide)) (by omega) (by omega) hDz) hyd_X11_findsFault rfl [0, 1] [2, 3, 4, 5, 6, 7, 8] rfl rfl rfl rfl rfl (by decide) ⟨rfl, rfl⟩ ⟨Nat.le_of_ble_eq_true rfl, Nat.le_of_ble_eq_true rfl, Nat.le_of_ble_eq_true rfl, Nat.le_of_ble_eq_true rfl⟩ (Nat.le_of_ble_eq_true rfl) dX11_fault_14 (rfl : _ = 0) (rfl : _ = 0) rfl ?_
      rintro _ _ ⟨rfl, rfl⟩
      refine g_is (ws' := [((Q 2), cL E 310 s2), ((Q 3), cL E 620 s3), ((Q 4), cZ E 2 s4), ((Q 5), cI E 80 tx), ((Q 6), cI E 24 cosT), ((Q 7), cI E 16 rr), ((Q 8), cI E 120 ww), ((Q 0), .inr (12, [vR (Q 1), vR (Q 2), vR (Q 3), vR (Q 4), vR (Q 5), vI pn, vR (Q 6), vL f0, vL f1, vL f2, vL f3, vL px, vL py, vL pb, vI rg, vI wr, vR (Q 7), vI rn, vR (Q 8), vI wn])), ((Q 1), cL E 310 a)]) (st' := [vI 0]) rfl rfl ?_
      refine g_sub (ws' := [((Q 0), .inr (12, [vR (Q 1), vR (Q 2), vR (Q 3), vR (Q 4), vR (Q 5), vI pn, vR (Q 6), vL f0, vL f1, vL f2, vL f3, vL px, vL py, vL pb, vI rg, vI wr, vR (Q 7), vI rn, vR (Q 8), vI wn])), ((Q 1), cL E 310 a), ((Q 2), cL E 310 s2), ((Q 3), cL E 620 s3), ((Q 4), cZ E 2 s4), ((Q 5), cI E 80 tx), ((Q 6), cI E 24 cosT), ((Q 7), cI E 16 rr), ((Q 8), cI E 120 ww)]) [7, 8, 0, 1, 2, 3, 4, 5, 6] rfl rfl rfl ?_
      refine g_if_ne C (tgt := 23) ⟨by decide, by decide⟩ dX11_fault_17 (by decide) rfl (fun c_2 => ?_) (fun c_2 => ?_)
      · exact absurd c_2 (by decide)
      refine g_bipush C (by decide) dX11_fault_20 rfl ?_
      refine g_top (v' := vI (q_fault a p q)) (congrArg (fun z_ : Int => vI z_) (show (q_fault a p q) = (-5) by unfold q_fault sD fzR fzX; (repeat' split) <;> first | rfl | omega | contradiction)) ?_
      refine g_ws (ws' := [((Q 0), .inr (12, [vR (Q 1), vR (Q 2), vR (Q 3), vR (Q 4), vR (Q 5), vI pn, vR (Q 6), vL f0, vL f1, vL f2, vL f3, vL px, vL py, vL pb, vI rg, vI wr, vR (Q 7), vI rn, vR (Q 8), vI wn])), ((Q 1), cL E 310 (n_fault a p q)), ((Q 2), cL E 310 s2), ((Q 3), cL E 620 s3), ((Q 4), cZ E 2 s4), ((Q 5), cI E 80 tx), ((Q 6), cI E 24 cosT), ((Q 7), cI E 16 rr), ((Q 8), cI E 120 ww)]) (congrArg (fun z_ : Nat → Int64 => ([((Q 0), .inr (12, [vR (Q 1), vR (Q 2), vR (Q 3), vR (Q 4), vR (Q 5), vI pn, vR (Q 6), vL f0, vL f1, vL f2, vL f3, vL px, vL py, vL pb, vI rg, vI wr, vR (Q 7), vI rn, vR (Q 8), vI wn])), ((Q 1), .inl (E.2.1 1, 310, .inr (.inl z_))), ((Q 2), cL E 310 s2), ((Q 3), cL E 620 s3), ((Q 4), cZ E 2 s4), ((Q 5), cI E 80 tx), ((Q 6), cI E 24 cosT), ((Q 7), cI E 16 rr), ((Q 8), cI E 120 ww)] : va_W)) (show AL 310 (n_fault a p q) = AL 310 a from AL_c (fun k_ k0_ k1_ => by unfold n_fault sD fzR fzX; (repeat' split) <;> first | rfl | omega | contradiction))) ?_
      exact g_iret C hr rfl (Nat.le_of_ble_eq_true rfl) (Nat.le_of_ble_eq_true rfl) dX11_fault_22 ⟨f0, f1, f2, f3, rfl, rfl⟩
    · refine g_aload_n C 0 rfl dX11_fault_11 rfl ?_
      refine g_iload_n C 1 rfl dX11_fault_12 rfl ?_
      refine g_iload_n C 2 rfl dX11_fault_13 rfl ?_
      refine g_callV C (b := (Q 0)) (As := [vI p, vI q]) (wc := [((Q 0), .inr (12, [vR (Q 1), vR (Q 2), vR (Q 3), vR (Q 4), vR (Q 5), vI pn, vR (Q 6), vL f0, vL f1, vL f2, vL f3, vL px, vL py, vL pb, vI rg, vI wr, vR (Q 7), vI rn, vR (Q 8), vI wn])), ((Q 1), cL E 310 a)]) (wr := [((Q 2), cL E 310 s2), ((Q 3), cL E 620 s3), ((Q 4), cZ E 2 s4), ((Q 5), cI E 80 tx), ((Q 6), cI E 24 cosT), ((Q 7), cI E 16 rr), ((Q 8), cI E 120 ww)]) (st := []) gX11_fault_X11_findsFault (q9 := 0) (ci := 12) rfl rfl rfl (K_m_fF1 l E Q pn f0 f1 f2 f3 px py pb rg wr rn wn a p q ⟨by omega, by omega⟩ (iN 15 (by decide) (by decide)) (iN 16 (by decide) (by decide)) (iN 17 (by decide) (by decide)) (iN 18 (by decide) (by decide)) (by omega) (by omega) hDz) hyd_X11_findsFault rfl [0, 1] [2, 3, 4, 5, 6, 7, 8] rfl rfl rfl rfl rfl (by decide) ⟨rfl, rfl⟩ ⟨Nat.le_of_ble_eq_true rfl, Nat.le_of_ble_eq_true rfl, Nat.le_of_ble_eq_true rfl, Nat.le_of_ble_eq_true rfl⟩ (Nat.le_of_ble_eq_true rfl) dX11_fault_14 (rfl : _ = 0) (rfl : _ = 0) rfl ?_
      rintro _ _ ⟨rfl, rfl⟩
      refine g_is (ws' := [((Q 2), cL E 310 s2), ((Q 3), cL E 620 s3), ((Q 4), cZ E 2 s4), ((Q 5), cI E 80 tx), ((Q 6), cI E 24 cosT), ((Q 7), cI E 16 rr), ((Q 8), cI E 120 ww), ((Q 0), .inr (12, [vR (Q 1), vR (Q 2), vR (Q 3), vR (Q 4), vR (Q 5), vI pn, vR (Q 6), vL (lim (slVa (a 14) (a 15) (a 16) ((Int.tdiv ((a 17) * p) 1000) + q) (Int.tdiv ((a 18) * p) 1000))), vL (lim (slVb (a 14) (a 15) (a 16) ((Int.tdiv ((a 17) * p) 1000) + q) (Int.tdiv ((a 18) * p) 1000))), vL (lim (slIa (a 14) (a 15) (a 16) ((Int.tdiv ((a 17) * p) 1000) + q) (Int.tdiv ((a 18) * p) 1000))), vL (lim (slIb (a 14) (a 15) (a 16) ((Int.tdiv ((a 17) * p) 1000) + q) (Int.tdiv ((a 18) * p) 1000))), vL px, vL py, vL pb, vI rg, vI wr, vR (Q 7), vI rn, vR (Q 8), vI wn])), ((Q 1), cL E 310 a)]) (st' := [vI 1]) rfl rfl ?_
      refine g_sub (ws' := [((Q 0), .inr (12, [vR (Q 1), vR (Q 2), vR (Q 3), vR (Q 4), vR (Q 5), vI pn, vR (Q 6), vL (lim (slVa (a 14) (a 15) (a 16) ((Int.tdiv ((a 17) * p) 1000) + q) (Int.tdiv ((a 18) * p) 1000))), vL (lim (slVb (a 14) (a 15) (a 16) ((Int.tdiv ((a 17) * p) 1000) + q) (Int.tdiv ((a 18) * p) 1000))), vL (lim (slIa (a 14) (a 15) (a 16) ((Int.tdiv ((a 17) * p) 1000) + q) (Int.tdiv ((a 18) * p) 1000))), vL (lim (slIb (a 14) (a 15) (a 16) ((Int.tdiv ((a 17) * p) 1000) + q) (Int.tdiv ((a 18) * p) 1000))), vL px, vL py, vL pb, vI rg, vI wr, vR (Q 7), vI rn, vR (Q 8), vI wn])), ((Q 1), cL E 310 a), ((Q 2), cL E 310 s2), ((Q 3), cL E 620 s3), ((Q 4), cZ E 2 s4), ((Q 5), cI E 80 tx), ((Q 6), cI E 24 cosT), ((Q 7), cI E 16 rr), ((Q 8), cI E 120 ww)]) [7, 8, 0, 1, 2, 3, 4, 5, 6] rfl rfl rfl ?_
      refine g_if_ne C (tgt := 23) ⟨by decide, by decide⟩ dX11_fault_17 (by decide) rfl (fun c_3 => ?_) (fun c_3 => ?_)
      · refine g_aload_n C 0 rfl dX11_fault_23 rfl ?_
        refine g_callV C (b := (Q 0)) (As := []) (wc := [((Q 0), .inr (12, [vR (Q 1), vR (Q 2), vR (Q 3), vR (Q 4), vR (Q 5), vI pn, vR (Q 6), vL (lim (slVa (a 14) (a 15) (a 16) ((Int.tdiv ((a 17) * p) 1000) + q) (Int.tdiv ((a 18) * p) 1000))), vL (lim (slVb (a 14) (a 15) (a 16) ((Int.tdiv ((a 17) * p) 1000) + q) (Int.tdiv ((a 18) * p) 1000))), vL (lim (slIa (a 14) (a 15) (a 16) ((Int.tdiv ((a 17) * p) 1000) + q) (Int.tdiv ((a 18) * p) 1000))), vL (lim (slIb (a 14) (a 15) (a 16) ((Int.tdiv ((a 17) * p) 1000) + q) (Int.tdiv ((a 18) * p) 1000))), vL px, vL py, vL pb, vI rg, vI wr, vR (Q 7), vI rn, vR (Q 8), vI wn])), ((Q 1), cL E 310 a)]) (wr := [((Q 2), cL E 310 s2), ((Q 3), cL E 620 s3), ((Q 4), cZ E 2 s4), ((Q 5), cI E 80 tx), ((Q 6), cI E 24 cosT), ((Q 7), cI E 16 rr), ((Q 8), cI E 120 ww)]) (st := []) gX11_fault_X11_applyFound (q9 := 0) (ci := 12) rfl rfl rfl (K_m_applyF l E Q pn (lim (slVa (a 14) (a 15) (a 16) ((Int.tdiv ((a 17) * p) 1000) + q) (Int.tdiv ((a 18) * p) 1000))) (lim (slVb (a 14) (a 15) (a 16) ((Int.tdiv ((a 17) * p) 1000) + q) (Int.tdiv ((a 18) * p) 1000))) (lim (slIa (a 14) (a 15) (a 16) ((Int.tdiv ((a 17) * p) 1000) + q) (Int.tdiv ((a 18) * p) 1000))) (lim (slIb (a 14) (a 15) (a 16) ((Int.tdiv ((a 17) * p) 1000) + q) (Int.tdiv ((a 18) * p) 1000))) px py pb rg wr rn wn a ) hyd_X11_applyFound rfl [0, 1] [2, 3, 4, 5, 6, 7, 8] rfl rfl rfl rfl rfl (by decide) ⟨rfl, rfl⟩ ⟨Nat.le_of_ble_eq_true rfl, Nat.le_of_ble_eq_true rfl, Nat.le_of_ble_eq_true rfl, Nat.le_of_ble_eq_true rfl⟩ (Nat.le_of_ble_eq_true rfl) dX11_fault_24 (rfl : _ = 0) (rfl : _ = 0) rfl ?_
        rintro _ _ ⟨rfl, rfl⟩
        refine g_is (ws' := [((Q 2), cL E 310 s2), ((Q 3), cL E 620 s3), ((Q 4), cZ E 2 s4), ((Q 5), cI E 80 tx), ((Q 6), cI E 24 cosT), ((Q 7), cI E 16 rr), ((Q 8), cI E 120 ww), ((Q 0), .inr (12, [vR (Q 1), vR (Q 2), vR (Q 3), vR (Q 4), vR (Q 5), vI pn, vR (Q 6), vL (lim (slVa (a 14) (a 15) (a 16) ((Int.tdiv ((a 17) * p) 1000) + q) (Int.tdiv ((a 18) * p) 1000))), vL (lim (slVb (a 14) (a 15) (a 16) ((Int.tdiv ((a 17) * p) 1000) + q) (Int.tdiv ((a 18) * p) 1000))), vL (lim (slIa (a 14) (a 15) (a 16) ((Int.tdiv ((a 17) * p) 1000) + q) (Int.tdiv ((a 18) * p) 1000))), vL (lim (slIb (a 14) (a 15) (a 16) ((Int.tdiv ((a 17) * p) 1000) + q) (Int.tdiv ((a 18) * p) 1000))), vL px, vL py, vL pb, vI rg, vI wr, vR (Q 7), vI rn, vR (Q 8), vI wn])), ((Q 1), cL E 310 (ua (ua (ua (ua (ua a 0 (lim (slVa (a 14) (a 15) (a 16) ((Int.tdiv ((a 17) * p) 1000) + q) (Int.tdiv ((a 18) * p) 1000)))) (0 + 1) (lim (slVb (a 14) (a 15) (a 16) ((Int.tdiv ((a 17) * p) 1000) + q) (Int.tdiv ((a 18) * p) 1000)))) (0 + 2) (lim (slIa (a 14) (a 15) (a 16) ((Int.tdiv ((a 17) * p) 1000) + q) (Int.tdiv ((a 18) * p) 1000)))) (0 + 3) (lim (slIb (a 14) (a 15) (a 16) ((Int.tdiv ((a 17) * p) 1000) + q) (Int.tdiv ((a 18) * p) 1000)))) 4 0))]) (st' := []) rfl rfl ?_
        refine g_sub (ws' := [((Q 0), .inr (12, [vR (Q 1), vR (Q 2), vR (Q 3), vR (Q 4), vR (Q 5), vI pn, vR (Q 6), vL (lim (slVa (a 14) (a 15) (a 16) ((Int.tdiv ((a 17) * p) 1000) + q) (Int.tdiv ((a 18) * p) 1000))), vL (lim (slVb (a 14) (a 15) (a 16) ((Int.tdiv ((a 17) * p) 1000) + q) (Int.tdiv ((a 18) * p) 1000))), vL (lim (slIa (a 14) (a 15) (a 16) ((Int.tdiv ((a 17) * p) 1000) + q) (Int.tdiv ((a 18) * p) 1000))), vL (lim (slIb (a 14) (a 15) (a 16) ((Int.tdiv ((a 17) * p) 1000) + q) (Int.tdiv ((a 18) * p) 1000))), vL px, vL py, vL pb, vI rg, vI wr, vR (Q 7), vI rn, vR (Q 8), vI wn])), ((Q 1), cL E 310 (ua (ua (ua (ua (ua a 0 (lim (slVa (a 14) (a 15) (a 16) ((Int.tdiv ((a 17) * p) 1000) + q) (Int.tdiv ((a 18) * p) 1000)))) (0 + 1) (lim (slVb (a 14) (a 15) (a 16) ((Int.tdiv ((a 17) * p) 1000) + q) (Int.tdiv ((a 18) * p) 1000)))) (0 + 2) (lim (slIa (a 14) (a 15) (a 16) ((Int.tdiv ((a 17) * p) 1000) + q) (Int.tdiv ((a 18) * p) 1000)))) (0 + 3) (lim (slIb (a 14) (a 15) (a 16) ((Int.tdiv ((a 17) * p) 1000) + q) (Int.tdiv ((a 18) * p) 1000)))) 4 0)), ((Q 2), cL E 310 s2), ((Q 3), cL E 620 s3), ((Q 4), cZ E 2 s4), ((Q 5), cI E 80 tx), ((Q 6), cI E 24 cosT), ((Q 7), cI E 16 rr), ((Q 8), cI E 120 ww)]) [7, 8, 0, 1, 2, 3, 4, 5, 6] rfl rfl rfl ?_
        refine g_aload_n C 0 rfl dX11_fault_27 rfl ?_
        refine g_get C 0 fd_X11_fault_7 rfl rfl rfl dX11_fault_28 rfl ?_
        refine g_bipush C (by decide) dX11_fault_31 rfl ?_
        refine g_lald C 1 rfl (by decide) (by decide) (by decide) (r := ((ua (ua (ua (ua a 0 (lim (slVa (a 14) (a 15) (a 16) ((Int.tdiv ((a 17) * p) 1000) + q) (Int.tdiv ((a 18) * p) 1000)))) (0 + 1) (lim (slVb (a 14) (a 15) (a 16) ((Int.tdiv ((a 17) * p) 1000) + q) (Int.tdiv ((a 18) * p) 1000)))) (0 + 2) (lim (slIa (a 14) (a 15) (a 16) ((Int.tdiv ((a 17) * p) 1000) + q) (Int.tdiv ((a 18) * p) 1000)))) (0 + 3) (lim (slIb (a 14) (a 15) (a 16) ((Int.tdiv ((a 17) * p) 1000) + q) (Int.tdiv ((a 18) * p) 1000)))) 35)) (by first | rfl | (simp [ua, sh, sh2]; done)) dX11_fault_33 rfl ?_
        refine g_l2i C rfl dX11_fault_34 rfl ?_
        refine g_top (v' := vI (q_fault a p q)) (congrArg (fun z_ : Int => vI z_) (show (q_fault a p q) = ((ua (ua (ua (ua a 0 (lim (slVa (a 14) (a 15) (a 16) ((Int.tdiv ((a 17) * p) 1000) + q) (Int.tdiv ((a 18) * p) 1000)))) (0 + 1) (lim (slVb (a 14) (a 15) (a 16) ((Int.tdiv ((a 17) * p) 1000) + q) (Int.tdiv ((a 18) * p) 1000)))) (0 + 2) (lim (slIa (a 14) (a 15) (a 16) ((Int.tdiv ((a 17) * p) 1000) + q) (Int.tdiv ((a 18) * p) 1000)))) (0 + 3) (lim (slIb (a 14) (a 15) (a 16) ((Int.tdiv ((a 17) * p) 1000) + q) (Int.tdiv ((a 18) * p) 1000)))) 35) by unfold q_fault sD fzR fzX; (repeat' split) <;> first | rfl | omega | contradiction)) ?_
        refine g_ws (ws' := [((Q 0), .inr (12, [vR (Q 1), vR (Q 2), vR (Q 3), vR (Q 4), vR (Q 5), vI pn, vR (Q 6), vL (lim (slVa (a 14) (a 15) (a 16) ((Int.tdiv ((a 17) * p) 1000) + q) (Int.tdiv ((a 18) * p) 1000))), vL (lim (slVb (a 14) (a 15) (a 16) ((Int.tdiv ((a 17) * p) 1000) + q) (Int.tdiv ((a 18) * p) 1000))), vL (lim (slIa (a 14) (a 15) (a 16) ((Int.tdiv ((a 17) * p) 1000) + q) (Int.tdiv ((a 18) * p) 1000))), vL (lim (slIb (a 14) (a 15) (a 16) ((Int.tdiv ((a 17) * p) 1000) + q) (Int.tdiv ((a 18) * p) 1000))), vL px, vL py, vL pb, vI rg, vI wr, vR (Q 7), vI rn, vR (Q 8), vI wn])), ((Q 1), cL E 310 (n_fault a p q)), ((Q 2), cL E 310 s2), ((Q 3), cL E 620 s3), ((Q 4), cZ E 2 s4), ((Q 5), cI E 80 tx), ((Q 6), cI E 24 cosT), ((Q 7), cI E 16 rr), ((Q 8), cI E 120 ww)]) (congrArg (fun z_ : Nat → Int64 => ([((Q 0), .inr (12, [vR (Q 1), vR (Q 2), vR (Q 3), vR (Q 4), vR (Q 5), vI pn, vR (Q 6), vL (lim (slVa (a 14) (a 15) (a 16) ((Int.tdiv ((a 17) * p) 1000) + q) (Int.tdiv ((a 18) * p) 1000))), vL (lim (slVb (a 14) (a 15) (a 16) ((Int.tdiv ((a 17) * p) 1000) + q) (Int.tdiv ((a 18) * p) 1000))), vL (lim (slIa (a 14) (a 15) (a 16) ((Int.tdiv ((a 17) * p) 1000) + q) (Int.tdiv ((a 18) * p) 1000))), vL (lim (slIb (a 14) (a 15) (a 16) ((Int.tdiv ((a 17) * p) 1000) + q) (Int.tdiv ((a 18) * p) 1000))), vL px, vL py, vL pb, vI rg, vI wr, vR (Q 7), vI rn, vR (Q 8), vI wn])), ((Q 1), .inl (E.2.1 1, 310, .inr (.inl z_))), ((Q 2), cL E 310 s2), ((Q 3), cL E 620 s3), ((Q 4), cZ E 2 s4), ((Q 5), cI E 80 tx), ((Q 6), cI E 24 cosT), ((Q 7), cI E 16 rr), ((Q 8), cI E 120 ww)] : va_W)) (show AL 310 (n_fault a p q) = AL 310 (ua (ua (ua (ua (ua a 0 (lim (slVa (a 14) (a 15) (a 16) ((Int.tdiv ((a 17) * p) 1000) + q) (Int.tdiv ((a 18) * p) 1000)))) (0 + 1) (lim (slVb (a 14) (a 15) (a 16) ((Int.tdiv ((a 17) * p) 1000) + q) (Int.tdiv ((a 18) * p) 1000)))) (0 + 2) (lim (slIa (a 14) (a 15) (a 16) ((Int.tdiv ((a 17) * p) 1000) + q) (Int.tdiv ((a 18) * p) 1000)))) (0 + 3) (lim (slIb (a 14) (a 15) (a 16) ((Int.tdiv ((a 17) * p) 1000) + q) (Int.tdiv ((a 18) * p) 1000)))) 4 0) from AL_c (fun k_ k0_ k1_ => by unfold n_fault sD fzR fzX; (repeat' split) <;> first | rfl | omega | contradiction))) ?_
        exact g_iret C hr rfl (Nat.le_of_ble_eq_true rfl) (Nat.le_of_ble_eq_true rfl) dX11_fault_35 ⟨(lim (slVa (a 14) (a 15) (a 16) ((Int.tdiv ((a 17) * p) 1000) + q) (Int.tdiv ((a 18) * p) 1000))), (lim (slVb (a 14) (a 15) (a 16) ((Int.tdiv ((a 17) * p) 1000) + q) (Int.tdiv ((a 18) * p) 1000))), (lim (slIa (a 14) (a 15) (a 16) ((Int.tdiv ((a 17) * p) 1000) + q) (Int.tdiv ((a 18) * p) 1000))), (lim (slIb (a 14) (a 15) (a 16) ((Int.tdiv ((a 17) * p) 1000) + q) (Int.tdiv ((a 18) * p) 1000))), rfl, rfl⟩
      exact absurd c_3 (by decide)
  refine g_bipush C (by decide) dX11_fault_8 rfl ?_
  refine g_top (v' := vI (q_fault a p q)) (congrArg (fun z_ : Int => vI z_) (show (q_fault a p q) = (-2) by unfold q_fault sD fzR fzX; (repeat' split) <;> first | rfl | omega | contradiction)) ?_
  refine g_ws (ws' := [((Q 0), .inr (12, [vR (Q 1), vR (Q 2), vR (Q 3), vR (Q 4), vR (Q 5), vI pn, vR (Q 6), vL f0, vL f1, vL f2, vL f3, vL px, vL py, vL pb, vI rg, vI wr, vR (Q 7), vI rn, vR (Q 8), vI wn])), ((Q 1), cL E 310 (n_fault a p q)), ((Q 2), cL E 310 s2), ((Q 3), cL E 620 s3), ((Q 4), cZ E 2 s4), ((Q 5), cI E 80 tx), ((Q 6), cI E 24 cosT), ((Q 7), cI E 16 rr), ((Q 8), cI E 120 ww)]) (congrArg (fun z_ : Nat → Int64 => ([((Q 0), .inr (12, [vR (Q 1), vR (Q 2), vR (Q 3), vR (Q 4), vR (Q 5), vI pn, vR (Q 6), vL f0, vL f1, vL f2, vL f3, vL px, vL py, vL pb, vI rg, vI wr, vR (Q 7), vI rn, vR (Q 8), vI wn])), ((Q 1), .inl (E.2.1 1, 310, .inr (.inl z_))), ((Q 2), cL E 310 s2), ((Q 3), cL E 620 s3), ((Q 4), cZ E 2 s4), ((Q 5), cI E 80 tx), ((Q 6), cI E 24 cosT), ((Q 7), cI E 16 rr), ((Q 8), cI E 120 ww)] : va_W)) (show AL 310 (n_fault a p q) = AL 310 a from AL_c (fun k_ k0_ k1_ => by unfold n_fault sD fzR fzX; (repeat' split) <;> first | rfl | omega | contradiction))) ?_
  exact g_iret C hr rfl (Nat.le_of_ble_eq_true rfl) (Nat.le_of_ble_eq_true rfl) dX11_fault_10 ⟨f0, f1, f2, f3, rfl, rfl⟩

theorem hyd_X11_findsHealthy : yX11_findsHealthy.cls ≠ "java/lang/invoke/MethodHandle" ∧ yX11_findsHealthy.cls ≠ "java/lang/invoke/VarHandle" ∧ (parseMethodDescriptor yX11_findsHealthy.desc).map (fun d => d.parameters.length) = some 0 := by decide +kernel
theorem in_X11_healthy_X11 : ∀ w ∈ u_ws RX11 TX11 20, w ∈ wsX11_healthy := by decide +kernel
theorem fd_X11_healthy_7 : fdk wsX11_healthy RX11 7 "ZoneRelayModel" RX11 TX11 20 0 := ⟨in_X11_healthy_X11, by decide +kernel, by decide, rfl⟩
abbrev rm_M_heal : Room := { frames := 3, cells := 0, slots := 0, locals := 81 }
set_option maxHeartbeats 1000000 in
set_option maxRecDepth 100000 in
theorem M_heal (l : Launch) (E : Ev) (Q : Nat → Nat) (pn f0 f1 f2 f3 px py pb rg wr rn wn : Int) (a s2 s3 s4 tx rr ww : Int → Int) (B : Int) (hI : Inv a B) (hB : B ≤ 2900000) : Mc l yX11_healthy wsX11_healthy rm_M_heal E [vR (Q 0)] [((Q 0), .inr (12, [vR (Q 1), vR (Q 2), vR (Q 3), vR (Q 4), vR (Q 5), vI pn, vR (Q 6), vL f0, vL f1, vL f2, vL f3, vL px, vL py, vL pb, vI rg, vI wr, vR (Q 7), vI rn, vR (Q 8), vI wn])), ((Q 1), cL E 310 a), ((Q 2), cL E 310 s2), ((Q 3), cL E 620 s3), ((Q 4), cZ E 2 s4), ((Q 5), cI E 80 tx), ((Q 6), cI E 24 cosT), ((Q 7), cI E 16 rr), ((Q 8), cI E 120 ww)] 0 0 (fun v9 w9 => ∃ (g0 : Int) (g1 : Int) (g2 : Int) (g3 : Int), v9 = some (vI (q_heal a)) ∧ w9 = [((Q 0), .inr (12, [vR (Q 1), vR (Q 2), vR (Q 3), vR (Q 4), vR (Q 5), vI pn, vR (Q 6), vL g0, vL g1, vL g2, vL g3, vL px, vL py, vL pb, vI rg, vI wr, vR (Q 7), vI rn, vR (Q 8), vI wn])), ((Q 1), cL E 310 (n_heal a)), ((Q 2), cL E 310 s2), ((Q 3), cL E 620 s3), ((Q 4), cZ E 2 s4), ((Q 5), cI E 80 tx), ((Q 6), cI E 24 cosT), ((Q 7), cI E 16 rr), ((Q 8), cI E 120 ww)]) := by
  refine Mc.intro (cc := cX11_healthy) (maxL := 1) (ret := (some .int)) (lv0 := [(0, vR (Q 0))]) (by decide +kernel) rfl rfl (Nat.le_of_ble_eq_true rfl) ?_
  intro p9 e9 s9 m9 args9 below9 meth9 c9 A9 C hr hmn
  have C : Cx p9 s9 m9 args9 meth9 c9 E A9 1 cX11_healthy wsX11_healthy RX11 := C
  have hI0 := hI
  obtain ⟨iP, i4, iR, iE, iN, ⟨i21, i22, i23, i24, i25, i26, i27, i28⟩, iD, iW, i35, iS, iM, i90, i91, i94, i95, i96, i97, iT, iK, i104, iPn, iPc⟩ := hI
  by_cases hDz : slD (a 15) (a 16) (a 17 + a 19) (a 18 + a 20) = 0
  · refine g_aload_n C 0 rfl dX11_healthy_0 rfl ?_
    refine g_callV C (b := (Q 0)) (As := []) (wc := [((Q 0), .inr (12, [vR (Q 1), vR (Q 2), vR (Q 3), vR (Q 4), vR (Q 5), vI pn, vR (Q 6), vL f0, vL f1, vL f2, vL f3, vL px, vL py, vL pb, vI rg, vI wr, vR (Q 7), vI rn, vR (Q 8), vI wn])), ((Q 1), cL E 310 a)]) (wr := [((Q 2), cL E 310 s2), ((Q 3), cL E 620 s3), ((Q 4), cZ E 2 s4), ((Q 5), cI E 80 tx), ((Q 6), cI E 24 cosT), ((Q 7), cI E 16 rr), ((Q 8), cI E 120 ww)]) (st := []) gX11_healthy_X11_findsHealthy (q9 := 0) (ci := 12) rfl rfl rfl (K_m_fH0 l E Q pn f0 f1 f2 f3 px py pb rg wr rn wn a ⟨by omega, by omega⟩ (iN 15 (by decide) (by decide)) (iN 16 (by decide) (by decide)) (iN 17 (by decide) (by decide)) (iN 18 (by decide) (by decide)) (iN 19 (by decide) (by decide)) (iN 20 (by decide) (by decide)) hDz) hyd_X11_findsHealthy rfl [0, 1] [2, 3, 4, 5, 6, 7, 8] rfl rfl rfl rfl rfl (by decide) ⟨rfl, rfl⟩ ⟨Nat.le_of_ble_eq_true rfl, Nat.le_of_ble_eq_true rfl, Nat.le_of_ble_eq_true rfl, Nat.le_of_ble_eq_true rfl⟩ (Nat.le_of_ble_eq_true rfl) dX11_healthy_1 (rfl : _ = 0) (rfl : _ = 0) rfl ?_
    rintro _ _ ⟨rfl, rfl⟩
    refine g_is (ws' := [((Q 2), cL E 310 s2), ((Q 3), cL E 620 s3), ((Q 4), cZ E 2 s4), ((Q 5), cI E 80 tx), ((Q 6), cI E 24 cosT), ((Q 7), cI E 16 rr), ((Q 8), cI E 120 ww), ((Q 0), .inr (12, [vR (Q 1), vR (Q 2), vR (Q 3), vR (Q 4), vR (Q 5), vI pn, vR (Q 6), vL f0, vL f1, vL f2, vL f3, vL px, vL py, vL pb, vI rg, vI wr, vR (Q 7), vI rn, vR (Q 8), vI wn])), ((Q 1), cL E 310 a)]) (st' := [vI 0]) rfl rfl ?_
    refine g_sub (ws' := [((Q 0), .inr (12, [vR (Q 1), vR (Q 2), vR (Q 3), vR (Q 4), vR (Q 5), vI pn, vR (Q 6), vL f0, vL f1, vL f2, vL f3, vL px, vL py, vL pb, vI rg, vI wr, vR (Q 7), vI rn, vR (Q 8), vI wn])), ((Q 1), cL E 310 a), ((Q 2), cL E 310 s2), ((Q 3), cL E 620 s3), ((Q 4), cZ E 2 s4), ((Q 5), cI E 80 tx), ((Q 6), cI E 24 cosT), ((Q 7), cI E 16 rr), ((Q 8), cI E 120 ww)]) [7, 8, 0, 1, 2, 3, 4, 5, 6] rfl rfl rfl ?_
    refine g_if_ne C (tgt := 10) ⟨by decide, by decide⟩ dX11_healthy_4 (by decide) rfl (fun c_1 => ?_) (fun c_1 => ?_)
    · exact absurd c_1 (by decide)
    refine g_bipush C (by decide) dX11_healthy_7 rfl ?_
    refine g_top (v' := vI (q_heal a)) (congrArg (fun z_ : Int => vI z_) (show (q_heal a) = (-5) by unfold q_heal sD; (repeat' split) <;> first | rfl | omega | contradiction)) ?_
    refine g_ws (ws' := [((Q 0), .inr (12, [vR (Q 1), vR (Q 2), vR (Q 3), vR (Q 4), vR (Q 5), vI pn, vR (Q 6), vL f0, vL f1, vL f2, vL f3, vL px, vL py, vL pb, vI rg, vI wr, vR (Q 7), vI rn, vR (Q 8), vI wn])), ((Q 1), cL E 310 (n_heal a)), ((Q 2), cL E 310 s2), ((Q 3), cL E 620 s3), ((Q 4), cZ E 2 s4), ((Q 5), cI E 80 tx), ((Q 6), cI E 24 cosT), ((Q 7), cI E 16 rr), ((Q 8), cI E 120 ww)]) (congrArg (fun z_ : Nat → Int64 => ([((Q 0), .inr (12, [vR (Q 1), vR (Q 2), vR (Q 3), vR (Q 4), vR (Q 5), vI pn, vR (Q 6), vL f0, vL f1, vL f2, vL f3, vL px, vL py, vL pb, vI rg, vI wr, vR (Q 7), vI rn, vR (Q 8), vI wn])), ((Q 1), .inl (E.2.1 1, 310, .inr (.inl z_))), ((Q 2), cL E 310 s2), ((Q 3), cL E 620 s3), ((Q 4), cZ E 2 s4), ((Q 5), cI E 80 tx), ((Q 6), cI E 24 cosT), ((Q 7), cI E 16 rr), ((Q 8), cI E 120 ww)] : va_W)) (show AL 310 (n_heal a) = AL 310 a from AL_c (fun k_ k0_ k1_ => by unfold n_heal sD; (repeat' split) <;> first | rfl | omega | contradiction))) ?_
    exact g_iret C hr rfl (Nat.le_of_ble_eq_true rfl) (Nat.le_of_ble_eq_true rfl) dX11_healthy_9 ⟨f0, f1, f2, f3, rfl, rfl⟩
  · refine g_aload_n C 0 rfl dX11_healthy_0 rfl ?_
    refine g_callV C (b := (Q 0)) (As := []) (wc := [((Q 0), .inr (12, [vR (Q 1), vR (Q 2), vR (Q 3), vR (Q 4), vR (Q 5), vI pn, vR (Q 6), vL f0, vL f1, vL f2, vL f3, vL px, vL py, vL pb, vI rg, vI wr, vR (Q 7), vI rn, vR (Q 8), vI wn])), ((Q 1), cL E 310 a)]) (wr := [((Q 2), cL E 310 s2), ((Q 3), cL E 620 s3), ((Q 4), cZ E 2 s4), ((Q 5), cI E 80 tx), ((Q 6), cI E 24 cosT), ((Q 7), cI E 16 rr), ((Q 8), cI E 120 ww)]) (st := []) gX11_healthy_X11_findsHealthy (q9 := 0) (ci := 12) rfl rfl rfl (K_m_fH1 l E Q pn f0 f1 f2 f3 px py pb rg wr rn wn a ⟨by omega, by omega⟩ (iN 15 (by decide) (by decide)) (iN 16 (by decide) (by decide)) (iN 17 (by decide) (by decide)) (iN 18 (by decide) (by decide)) (iN 19 (by decide) (by decide)) (iN 20 (by decide) (by decide)) hDz) hyd_X11_findsHealthy rfl [0, 1] [2, 3, 4, 5, 6, 7, 8] rfl rfl rfl rfl rfl (by decide) ⟨rfl, rfl⟩ ⟨Nat.le_of_ble_eq_true rfl, Nat.le_of_ble_eq_true rfl, Nat.le_of_ble_eq_true rfl, Nat.le_of_ble_eq_true rfl⟩ (Nat.le_of_ble_eq_true rfl) dX11_healthy_1 (rfl : _ = 0) (rfl : _ = 0) rfl ?_
    rintro _ _ ⟨rfl, rfl⟩
    refine g_is (ws' := [((Q 2), cL E 310 s2), ((Q 3), cL E 620 s3), ((Q 4), cZ E 2 s4), ((Q 5), cI E 80 tx), ((Q 6), cI E 24 cosT), ((Q 7), cI E 16 rr), ((Q 8), cI E 120 ww), ((Q 0), .inr (12, [vR (Q 1), vR (Q 2), vR (Q 3), vR (Q 4), vR (Q 5), vI pn, vR (Q 6), vL (lim (slVa (a 14) (a 15) (a 16) ((a 17) + (a 19)) ((a 18) + (a 20)))), vL (lim (slVb (a 14) (a 15) (a 16) ((a 17) + (a 19)) ((a 18) + (a 20)))), vL (lim (slIa (a 14) (a 15) (a 16) ((a 17) + (a 19)) ((a 18) + (a 20)))), vL (lim (slIb (a 14) (a 15) (a 16) ((a 17) + (a 19)) ((a 18) + (a 20)))), vL px, vL py, vL pb, vI rg, vI wr, vR (Q 7), vI rn, vR (Q 8), vI wn])), ((Q 1), cL E 310 a)]) (st' := [vI 1]) rfl rfl ?_
    refine g_sub (ws' := [((Q 0), .inr (12, [vR (Q 1), vR (Q 2), vR (Q 3), vR (Q 4), vR (Q 5), vI pn, vR (Q 6), vL (lim (slVa (a 14) (a 15) (a 16) ((a 17) + (a 19)) ((a 18) + (a 20)))), vL (lim (slVb (a 14) (a 15) (a 16) ((a 17) + (a 19)) ((a 18) + (a 20)))), vL (lim (slIa (a 14) (a 15) (a 16) ((a 17) + (a 19)) ((a 18) + (a 20)))), vL (lim (slIb (a 14) (a 15) (a 16) ((a 17) + (a 19)) ((a 18) + (a 20)))), vL px, vL py, vL pb, vI rg, vI wr, vR (Q 7), vI rn, vR (Q 8), vI wn])), ((Q 1), cL E 310 a), ((Q 2), cL E 310 s2), ((Q 3), cL E 620 s3), ((Q 4), cZ E 2 s4), ((Q 5), cI E 80 tx), ((Q 6), cI E 24 cosT), ((Q 7), cI E 16 rr), ((Q 8), cI E 120 ww)]) [7, 8, 0, 1, 2, 3, 4, 5, 6] rfl rfl rfl ?_
    refine g_if_ne C (tgt := 10) ⟨by decide, by decide⟩ dX11_healthy_4 (by decide) rfl (fun c_2 => ?_) (fun c_2 => ?_)
    · refine g_aload_n C 0 rfl dX11_healthy_10 rfl ?_
      refine g_callV C (b := (Q 0)) (As := []) (wc := [((Q 0), .inr (12, [vR (Q 1), vR (Q 2), vR (Q 3), vR (Q 4), vR (Q 5), vI pn, vR (Q 6), vL (lim (slVa (a 14) (a 15) (a 16) ((a 17) + (a 19)) ((a 18) + (a 20)))), vL (lim (slVb (a 14) (a 15) (a 16) ((a 17) + (a 19)) ((a 18) + (a 20)))), vL (lim (slIa (a 14) (a 15) (a 16) ((a 17) + (a 19)) ((a 18) + (a 20)))), vL (lim (slIb (a 14) (a 15) (a 16) ((a 17) + (a 19)) ((a 18) + (a 20)))), vL px, vL py, vL pb, vI rg, vI wr, vR (Q 7), vI rn, vR (Q 8), vI wn])), ((Q 1), cL E 310 a)]) (wr := [((Q 2), cL E 310 s2), ((Q 3), cL E 620 s3), ((Q 4), cZ E 2 s4), ((Q 5), cI E 80 tx), ((Q 6), cI E 24 cosT), ((Q 7), cI E 16 rr), ((Q 8), cI E 120 ww)]) (st := []) gX11_healthy_X11_applyFound (q9 := 0) (ci := 12) rfl rfl rfl (K_m_applyF l E Q pn (lim (slVa (a 14) (a 15) (a 16) ((a 17) + (a 19)) ((a 18) + (a 20)))) (lim (slVb (a 14) (a 15) (a 16) ((a 17) + (a 19)) ((a 18) + (a 20)))) (lim (slIa (a 14) (a 15) (a 16) ((a 17) + (a 19)) ((a 18) + (a 20)))) (lim (slIb (a 14) (a 15) (a 16) ((a 17) + (a 19)) ((a 18) + (a 20)))) px py pb rg wr rn wn a ) hyd_X11_applyFound rfl [0, 1] [2, 3, 4, 5, 6, 7, 8] rfl rfl rfl rfl rfl (by decide) ⟨rfl, rfl⟩ ⟨Nat.le_of_ble_eq_true rfl, Nat.le_of_ble_eq_true rfl, Nat.le_of_ble_eq_true rfl, Nat.le_of_ble_eq_true rfl⟩ (Nat.le_of_ble_eq_true rfl) dX11_healthy_11 (rfl : _ = 0) (rfl : _ = 0) rfl ?_
      rintro _ _ ⟨rfl, rfl⟩
      refine g_is (ws' := [((Q 2), cL E 310 s2), ((Q 3), cL E 620 s3), ((Q 4), cZ E 2 s4), ((Q 5), cI E 80 tx), ((Q 6), cI E 24 cosT), ((Q 7), cI E 16 rr), ((Q 8), cI E 120 ww), ((Q 0), .inr (12, [vR (Q 1), vR (Q 2), vR (Q 3), vR (Q 4), vR (Q 5), vI pn, vR (Q 6), vL (lim (slVa (a 14) (a 15) (a 16) ((a 17) + (a 19)) ((a 18) + (a 20)))), vL (lim (slVb (a 14) (a 15) (a 16) ((a 17) + (a 19)) ((a 18) + (a 20)))), vL (lim (slIa (a 14) (a 15) (a 16) ((a 17) + (a 19)) ((a 18) + (a 20)))), vL (lim (slIb (a 14) (a 15) (a 16) ((a 17) + (a 19)) ((a 18) + (a 20)))), vL px, vL py, vL pb, vI rg, vI wr, vR (Q 7), vI rn, vR (Q 8), vI wn])), ((Q 1), cL E 310 (ua (ua (ua (ua (ua a 0 (lim (slVa (a 14) (a 15) (a 16) ((a 17) + (a 19)) ((a 18) + (a 20))))) (0 + 1) (lim (slVb (a 14) (a 15) (a 16) ((a 17) + (a 19)) ((a 18) + (a 20))))) (0 + 2) (lim (slIa (a 14) (a 15) (a 16) ((a 17) + (a 19)) ((a 18) + (a 20))))) (0 + 3) (lim (slIb (a 14) (a 15) (a 16) ((a 17) + (a 19)) ((a 18) + (a 20))))) 4 0))]) (st' := []) rfl rfl ?_
      refine g_sub (ws' := [((Q 0), .inr (12, [vR (Q 1), vR (Q 2), vR (Q 3), vR (Q 4), vR (Q 5), vI pn, vR (Q 6), vL (lim (slVa (a 14) (a 15) (a 16) ((a 17) + (a 19)) ((a 18) + (a 20)))), vL (lim (slVb (a 14) (a 15) (a 16) ((a 17) + (a 19)) ((a 18) + (a 20)))), vL (lim (slIa (a 14) (a 15) (a 16) ((a 17) + (a 19)) ((a 18) + (a 20)))), vL (lim (slIb (a 14) (a 15) (a 16) ((a 17) + (a 19)) ((a 18) + (a 20)))), vL px, vL py, vL pb, vI rg, vI wr, vR (Q 7), vI rn, vR (Q 8), vI wn])), ((Q 1), cL E 310 (ua (ua (ua (ua (ua a 0 (lim (slVa (a 14) (a 15) (a 16) ((a 17) + (a 19)) ((a 18) + (a 20))))) (0 + 1) (lim (slVb (a 14) (a 15) (a 16) ((a 17) + (a 19)) ((a 18) + (a 20))))) (0 + 2) (lim (slIa (a 14) (a 15) (a 16) ((a 17) + (a 19)) ((a 18) + (a 20))))) (0 + 3) (lim (slIb (a 14) (a 15) (a 16) ((a 17) + (a 19)) ((a 18) + (a 20))))) 4 0)), ((Q 2), cL E 310 s2), ((Q 3), cL E 620 s3), ((Q 4), cZ E 2 s4), ((Q 5), cI E 80 tx), ((Q 6), cI E 24 cosT), ((Q 7), cI E 16 rr), ((Q 8), cI E 120 ww)]) [7, 8, 0, 1, 2, 3, 4, 5, 6] rfl rfl rfl ?_
      refine g_aload_n C 0 rfl dX11_healthy_14 rfl ?_
      refine g_get C 0 fd_X11_healthy_7 rfl rfl rfl dX11_healthy_15 rfl ?_
      refine g_bipush C (by decide) dX11_healthy_18 rfl ?_
      refine g_lald C 1 rfl (by decide) (by decide) (by decide) (r := ((ua (ua (ua (ua a 0 (lim (slVa (a 14) (a 15) (a 16) ((a 17) + (a 19)) ((a 18) + (a 20))))) (0 + 1) (lim (slVb (a 14) (a 15) (a 16) ((a 17) + (a 19)) ((a 18) + (a 20))))) (0 + 2) (lim (slIa (a 14) (a 15) (a 16) ((a 17) + (a 19)) ((a 18) + (a 20))))) (0 + 3) (lim (slIb (a 14) (a 15) (a 16) ((a 17) + (a 19)) ((a 18) + (a 20))))) 35)) (by first | rfl | (simp [ua, sh, sh2]; done)) dX11_healthy_20 rfl ?_
      refine g_l2i C rfl dX11_healthy_21 rfl ?_
      refine g_top (v' := vI (q_heal a)) (congrArg (fun z_ : Int => vI z_) (show (q_heal a) = ((ua (ua (ua (ua a 0 (lim (slVa (a 14) (a 15) (a 16) ((a 17) + (a 19)) ((a 18) + (a 20))))) (0 + 1) (lim (slVb (a 14) (a 15) (a 16) ((a 17) + (a 19)) ((a 18) + (a 20))))) (0 + 2) (lim (slIa (a 14) (a 15) (a 16) ((a 17) + (a 19)) ((a 18) + (a 20))))) (0 + 3) (lim (slIb (a 14) (a 15) (a 16) ((a 17) + (a 19)) ((a 18) + (a 20))))) 35) by unfold q_heal sD; (repeat' split) <;> first | rfl | omega | contradiction)) ?_
      refine g_ws (ws' := [((Q 0), .inr (12, [vR (Q 1), vR (Q 2), vR (Q 3), vR (Q 4), vR (Q 5), vI pn, vR (Q 6), vL (lim (slVa (a 14) (a 15) (a 16) ((a 17) + (a 19)) ((a 18) + (a 20)))), vL (lim (slVb (a 14) (a 15) (a 16) ((a 17) + (a 19)) ((a 18) + (a 20)))), vL (lim (slIa (a 14) (a 15) (a 16) ((a 17) + (a 19)) ((a 18) + (a 20)))), vL (lim (slIb (a 14) (a 15) (a 16) ((a 17) + (a 19)) ((a 18) + (a 20)))), vL px, vL py, vL pb, vI rg, vI wr, vR (Q 7), vI rn, vR (Q 8), vI wn])), ((Q 1), cL E 310 (n_heal a)), ((Q 2), cL E 310 s2), ((Q 3), cL E 620 s3), ((Q 4), cZ E 2 s4), ((Q 5), cI E 80 tx), ((Q 6), cI E 24 cosT), ((Q 7), cI E 16 rr), ((Q 8), cI E 120 ww)]) (congrArg (fun z_ : Nat → Int64 => ([((Q 0), .inr (12, [vR (Q 1), vR (Q 2), vR (Q 3), vR (Q 4), vR (Q 5), vI pn, vR (Q 6), vL (lim (slVa (a 14) (a 15) (a 16) ((a 17) + (a 19)) ((a 18) + (a 20)))), vL (lim (slVb (a 14) (a 15) (a 16) ((a 17) + (a 19)) ((a 18) + (a 20)))), vL (lim (slIa (a 14) (a 15) (a 16) ((a 17) + (a 19)) ((a 18) + (a 20)))), vL (lim (slIb (a 14) (a 15) (a 16) ((a 17) + (a 19)) ((a 18) + (a 20)))), vL px, vL py, vL pb, vI rg, vI wr, vR (Q 7), vI rn, vR (Q 8), vI wn])), ((Q 1), .inl (E.2.1 1, 310, .inr (.inl z_))), ((Q 2), cL E 310 s2), ((Q 3), cL E 620 s3), ((Q 4), cZ E 2 s4), ((Q 5), cI E 80 tx), ((Q 6), cI E 24 cosT), ((Q 7), cI E 16 rr), ((Q 8), cI E 120 ww)] : va_W)) (show AL 310 (n_heal a) = AL 310 (ua (ua (ua (ua (ua a 0 (lim (slVa (a 14) (a 15) (a 16) ((a 17) + (a 19)) ((a 18) + (a 20))))) (0 + 1) (lim (slVb (a 14) (a 15) (a 16) ((a 17) + (a 19)) ((a 18) + (a 20))))) (0 + 2) (lim (slIa (a 14) (a 15) (a 16) ((a 17) + (a 19)) ((a 18) + (a 20))))) (0 + 3) (lim (slIb (a 14) (a 15) (a 16) ((a 17) + (a 19)) ((a 18) + (a 20))))) 4 0) from AL_c (fun k_ k0_ k1_ => by unfold n_heal sD; (repeat' split) <;> first | rfl | omega | contradiction))) ?_
      exact g_iret C hr rfl (Nat.le_of_ble_eq_true rfl) (Nat.le_of_ble_eq_true rfl) dX11_healthy_22 ⟨(lim (slVa (a 14) (a 15) (a 16) ((a 17) + (a 19)) ((a 18) + (a 20)))), (lim (slVb (a 14) (a 15) (a 16) ((a 17) + (a 19)) ((a 18) + (a 20)))), (lim (slIa (a 14) (a 15) (a 16) ((a 17) + (a 19)) ((a 18) + (a 20)))), (lim (slIb (a 14) (a 15) (a 16) ((a 17) + (a 19)) ((a 18) + (a 20)))), rfl, rfl⟩
    exact absurd c_2 (by decide)

theorem w_X11_phasor_k54 : Cond.constantLong RX11 54 (4) ∈ wsX11_phasor := by decide +kernel
theorem w_X11_phasor_k170 : Cond.constantLong RX11 170 (-1000000000000000002) ∈ wsX11_phasor := by decide +kernel
theorem in_X11_phasor_X11 : ∀ w ∈ u_ws RX11 TX11 20, w ∈ wsX11_phasor := by decide +kernel
theorem fd_X11_phasor_7 : fdk wsX11_phasor RX11 7 "ZoneRelayModel" RX11 TX11 20 0 := ⟨in_X11_phasor_X11, by decide +kernel, by decide, rfl⟩
abbrev rm_M_phasor : Room := { frames := 1, cells := 0, slots := 0, locals := 25 }
set_option maxHeartbeats 1000000 in
set_option maxRecDepth 100000 in
theorem M_phasor (l : Launch) (E : Ev) (Q : Nat → Nat) (pn f0 f1 f2 f3 px py pb rg wr rn wn : Int) (a s2 s3 s4 tx rr ww : Int → Int) (B w : Int) (hI : Inv a B) (hB : B ≤ 2900000) (b_w : bi w) : Mc l yX11_phasor wsX11_phasor rm_M_phasor E [vR (Q 0), vI w] [((Q 0), .inr (12, [vR (Q 1), vR (Q 2), vR (Q 3), vR (Q 4), vR (Q 5), vI pn, vR (Q 6), vL f0, vL f1, vL f2, vL f3, vL px, vL py, vL pb, vI rg, vI wr, vR (Q 7), vI rn, vR (Q 8), vI wn])), ((Q 1), cL E 310 a), ((Q 2), cL E 310 s2), ((Q 3), cL E 620 s3), ((Q 4), cZ E 2 s4), ((Q 5), cI E 80 tx), ((Q 6), cI E 24 cosT), ((Q 7), cI E 16 rr), ((Q 8), cI E 120 ww)] 0 0 (fun v9 w9 => v9 = some (vL (q_phasor a w)) ∧ w9 = [((Q 0), .inr (12, [vR (Q 1), vR (Q 2), vR (Q 3), vR (Q 4), vR (Q 5), vI pn, vR (Q 6), vL f0, vL f1, vL f2, vL f3, vL px, vL py, vL pb, vI rg, vI wr, vR (Q 7), vI rn, vR (Q 8), vI wn])), ((Q 1), cL E 310 a), ((Q 2), cL E 310 s2), ((Q 3), cL E 620 s3), ((Q 4), cZ E 2 s4), ((Q 5), cI E 80 tx), ((Q 6), cI E 24 cosT), ((Q 7), cI E 16 rr), ((Q 8), cI E 120 ww)]) := by
  refine Mc.intro (cc := cX11_phasor) (maxL := 2) (ret := (some .long)) (lv0 := [(0, vR (Q 0)), (1, vI w)]) (by decide +kernel) rfl rfl (Nat.le_of_ble_eq_true rfl) ?_
  intro p9 e9 s9 m9 args9 below9 meth9 c9 A9 C hr hmn
  have C : Cx p9 s9 m9 args9 meth9 c9 E A9 2 cX11_phasor wsX11_phasor RX11 := C
  have hI0 := hI
  obtain ⟨iP, i4, iR, iE, iN, ⟨i21, i22, i23, i24, i25, i26, i27, i28⟩, iD, iW, i35, iS, iM, i90, i91, i94, i95, i96, i97, iT, iK, i104, iPn, iPc⟩ := hI
  refine g_iload_n C 1 rfl dX11_phasor_0 rfl ?_
  refine g_i2l C (b_w) rfl dX11_phasor_1 rfl ?_
  refine g_lconst0 C dX11_phasor_2 rfl ?_
  refine g_ldc2 C (x := 4) w_X11_phasor_k54 (by decide) dX11_phasor_3 rfl ?_
  refine g_callS C (As := [vL w, vL 0, vL 4]) (wc := []) (wr := [((Q 0), .inr (12, [vR (Q 1), vR (Q 2), vR (Q 3), vR (Q 4), vR (Q 5), vI pn, vR (Q 6), vL f0, vL f1, vL f2, vL f3, vL px, vL py, vL pb, vI rg, vI wr, vR (Q 7), vI rn, vR (Q 8), vI wn])), ((Q 1), cL E 310 a), ((Q 2), cL E 310 s2), ((Q 3), cL E 620 s3), ((Q 4), cZ E 2 s4), ((Q 5), cI E 80 tx), ((Q 6), cI E 24 cosT), ((Q 7), cI E 16 rr), ((Q 8), cI E 120 ww)]) (st := []) gX11_phasor_X11_in rfl (K_m_in l E w 0 4 ⟨by omega, by omega⟩ ⟨by omega, by omega⟩ ⟨by omega, by omega⟩) hyd_X11_in rfl [] [0, 1, 2, 3, 4, 5, 6, 7, 8] rfl rfl rfl rfl rfl (by decide) ⟨rfl, rfl⟩ ⟨Nat.le_of_ble_eq_true rfl, Nat.le_of_ble_eq_true rfl, Nat.le_of_ble_eq_true rfl, Nat.le_of_ble_eq_true rfl⟩ (Nat.le_of_ble_eq_true rfl) dX11_phasor_6 (rfl : _ = 0) (rfl : _ = 0) rfl ?_
  rintro _ _ ⟨rfl, rfl⟩
  refine g_is (ws' := [((Q 0), .inr (12, [vR (Q 1), vR (Q 2), vR (Q 3), vR (Q 4), vR (Q 5), vI pn, vR (Q 6), vL f0, vL f1, vL f2, vL f3, vL px, vL py, vL pb, vI rg, vI wr, vR (Q 7), vI rn, vR (Q 8), vI wn])), ((Q 1), cL E 310 a), ((Q 2), cL E 310 s2), ((Q 3), cL E 620 s3), ((Q 4), cZ E 2 s4), ((Q 5), cI E 80 tx), ((Q 6), cI E 24 cosT), ((Q 7), cI E 16 rr), ((Q 8), cI E 120 ww)]) (st' := [vI (bP (0 ≤ w ∧ w ≤ 4))]) rfl rfl ?_
  refine g_ifb_eq C (tgt := 23) dX11_phasor_9 (by decide) rfl (fun c_1 => ?_) (fun c_1 => ?_)
  · refine g_ldc2 C (x := (-1000000000000000002)) w_X11_phasor_k170 (by decide) dX11_phasor_23 rfl ?_
    refine g_top (v' := vL (q_phasor a w)) (congrArg (fun z_ : Int => vL z_) (show (q_phasor a w) = (-1000000000000000002) by unfold q_phasor; (repeat' split) <;> first | rfl | omega | contradiction | (congr 1; omega))) ?_
    exact g_lret C hr (Nat.le_of_ble_eq_true rfl) (Nat.le_of_ble_eq_true rfl) dX11_phasor_26 ⟨rfl, rfl⟩
  refine g_aload_n C 0 rfl dX11_phasor_12 rfl ?_
  refine g_get C 0 fd_X11_phasor_7 rfl rfl rfl dX11_phasor_13 rfl ?_
  refine g_iconst C dX11_phasor_16 rfl ?_
  refine g_iload_n C 1 rfl dX11_phasor_17 rfl ?_
  refine g_iadd C rfl dX11_phasor_18 rfl ?_
  refine g_lald C 1 rfl (by omega) (by omega) (by decide) rfl dX11_phasor_19 rfl ?_
  refine g_goto C (pc' := 26) dX11_phasor_20 (by decide) ?_
  refine g_top (v' := vL (q_phasor a w)) (congrArg (fun z_ : Int => vL z_) (show (q_phasor a w) = (a (0 + w)) by unfold q_phasor; (repeat' split) <;> first | rfl | omega | contradiction | (congr 1; omega))) ?_
  exact g_lret C hr (Nat.le_of_ble_eq_true rfl) (Nat.le_of_ble_eq_true rfl) dX11_phasor_26 ⟨rfl, rfl⟩

theorem w_X11_pass_k48 : Cond.constantLong RX11 48 (5000) ∈ wsX11_pass := by decide +kernel
theorem in_X11_pass_X11 : ∀ w ∈ u_ws RX11 TX11 20, w ∈ wsX11_pass := by decide +kernel
theorem fd_X11_pass_7 : fdk wsX11_pass RX11 7 "ZoneRelayModel" RX11 TX11 20 0 := ⟨in_X11_pass_X11, by decide +kernel, by decide, rfl⟩
theorem w_X11_pass_k238 : Cond.constantLong RX11 238 (100000000) ∈ wsX11_pass := by decide +kernel
abbrev rm_M_pass : Room := { frames := 9, cells := 0, slots := 0, locals := 228 }
set_option maxHeartbeats 1000000 in
set_option maxRecDepth 100000 in
theorem M_pass (l : Launch) (E : Ev) (Q : Nat → Nat) (pn f0 f1 f2 f3 px py pb rg wr rn wn : Int) (a s2 s3 s4 tx rr ww : Int → Int) (B m : Int) (hI : Inv a B) (hB : B ≤ 2900000) (b_m : bi m) : Mc l yX11_pass wsX11_pass rm_M_pass E [vR (Q 0), vI m] [((Q 0), .inr (12, [vR (Q 1), vR (Q 2), vR (Q 3), vR (Q 4), vR (Q 5), vI pn, vR (Q 6), vL f0, vL f1, vL f2, vL f3, vL px, vL py, vL pb, vI rg, vI wr, vR (Q 7), vI rn, vR (Q 8), vI wn])), ((Q 1), cL E 310 a), ((Q 2), cL E 310 s2), ((Q 3), cL E 620 s3), ((Q 4), cZ E 2 s4), ((Q 5), cI E 80 tx), ((Q 6), cI E 24 cosT), ((Q 7), cI E 16 rr), ((Q 8), cI E 120 ww)] 0 0 (fun v9 w9 => ∃ (x2 : Int) (y2 : Int) (d2 : Int), v9 = some (vI (q_pass a m)) ∧ w9 = [((Q 0), .inr (12, [vR (Q 1), vR (Q 2), vR (Q 3), vR (Q 4), vR (Q 5), vI pn, vR (Q 6), vL f0, vL f1, vL f2, vL f3, vL x2, vL y2, vL d2, vI rg, vI wr, vR (Q 7), vI rn, vR (Q 8), vI wn])), ((Q 1), cL E 310 (n_pass a m)), ((Q 2), cL E 310 s2), ((Q 3), cL E 620 s3), ((Q 4), cZ E 2 s4), ((Q 5), cI E 80 tx), ((Q 6), cI E 24 cosT), ((Q 7), cI E 16 rr), ((Q 8), cI E 120 ww)]) := by
  refine Mc.intro (cc := cX11_pass) (maxL := 3) (ret := (some .int)) (lv0 := [(0, vR (Q 0)), (1, vI m)]) (by decide +kernel) rfl rfl (Nat.le_of_ble_eq_true rfl) ?_
  intro p9 e9 s9 m9 args9 below9 meth9 c9 A9 C hr hmn
  have C : Cx p9 s9 m9 args9 meth9 c9 E A9 3 cX11_pass wsX11_pass RX11 := C
  have hI0 := hI
  obtain ⟨iP, i4, iR, iE, iN, ⟨i21, i22, i23, i24, i25, i26, i27, i28⟩, iD, iW, i35, iS, iM, i90, i91, i94, i95, i96, i97, iT, iK, i104, iPn, iPc⟩ := hI
  refine g_iload_n C 1 rfl dX11_pass_0 rfl ?_
  refine g_i2l C (b_m) rfl dX11_pass_1 rfl ?_
  refine g_lconst1 C dX11_pass_2 rfl ?_
  refine g_ldc2 C (x := 5000) w_X11_pass_k48 (by decide) dX11_pass_3 rfl ?_
  refine g_callS C (As := [vL m, vL 1, vL 5000]) (wc := []) (wr := [((Q 0), .inr (12, [vR (Q 1), vR (Q 2), vR (Q 3), vR (Q 4), vR (Q 5), vI pn, vR (Q 6), vL f0, vL f1, vL f2, vL f3, vL px, vL py, vL pb, vI rg, vI wr, vR (Q 7), vI rn, vR (Q 8), vI wn])), ((Q 1), cL E 310 a), ((Q 2), cL E 310 s2), ((Q 3), cL E 620 s3), ((Q 4), cZ E 2 s4), ((Q 5), cI E 80 tx), ((Q 6), cI E 24 cosT), ((Q 7), cI E 16 rr), ((Q 8), cI E 120 ww)]) (st := []) gX11_pass_X11_in rfl (K_m_in l E m 1 5000 ⟨by omega, by omega⟩ ⟨by omega, by omega⟩ ⟨by omega, by omega⟩) hyd_X11_in rfl [] [0, 1, 2, 3, 4, 5, 6, 7, 8] rfl rfl rfl rfl rfl (by decide) ⟨rfl, rfl⟩ ⟨Nat.le_of_ble_eq_true rfl, Nat.le_of_ble_eq_true rfl, Nat.le_of_ble_eq_true rfl, Nat.le_of_ble_eq_true rfl⟩ (Nat.le_of_ble_eq_true rfl) dX11_pass_6 (rfl : _ = 0) (rfl : _ = 0) rfl ?_
  rintro _ _ ⟨rfl, rfl⟩
  refine g_is (ws' := [((Q 0), .inr (12, [vR (Q 1), vR (Q 2), vR (Q 3), vR (Q 4), vR (Q 5), vI pn, vR (Q 6), vL f0, vL f1, vL f2, vL f3, vL px, vL py, vL pb, vI rg, vI wr, vR (Q 7), vI rn, vR (Q 8), vI wn])), ((Q 1), cL E 310 a), ((Q 2), cL E 310 s2), ((Q 3), cL E 620 s3), ((Q 4), cZ E 2 s4), ((Q 5), cI E 80 tx), ((Q 6), cI E 24 cosT), ((Q 7), cI E 16 rr), ((Q 8), cI E 120 ww)]) (st' := [vI (bP (1 ≤ m ∧ m ≤ 5000))]) rfl rfl ?_
  refine g_ifb_ne C (tgt := 15) dX11_pass_9 (by decide) rfl (fun c_1 => ?_) (fun c_1 => ?_)
  · refine g_aload_n C 0 rfl dX11_pass_15 rfl ?_
    refine g_get C 0 fd_X11_pass_7 rfl rfl rfl dX11_pass_16 rfl ?_
    refine g_bipush C (by decide) dX11_pass_19 rfl ?_
    refine g_lald C 1 rfl (by decide) (by decide) (by decide) rfl dX11_pass_21 rfl ?_
    refine g_iload_n C 1 rfl dX11_pass_22 rfl ?_
    refine g_i2l C (b_m) rfl dX11_pass_23 rfl ?_
    refine g_ladd C rfl dX11_pass_24 rfl ?_
    refine g_ldc2 C (x := 100000000) w_X11_pass_k238 (by decide) dX11_pass_25 rfl ?_
    refine g_lcmp_le C ⟨by omega, by omega⟩ ⟨by decide, by decide⟩ dX11_pass_28 rfl (tgt := 35) dX11_pass_29 (by decide) rfl (fun c_2 => ?_) (fun c_2 => ?_)
    · refine g_iconst C dX11_pass_35 rfl ?_
      refine g_istore_n C (lv' := [(0, vR (Q 0)), (1, vI m), (2, vI 0)]) [1, 2, 0] (by decide) rfl rfl dX11_pass_36 rfl ?_
      have hL_37 : ∀ (fuel : Nat) (i : Int) (x9 : Int) (y9 : Int) (d9 : Int) (h0 : 0 ≤ i) (h1 : i ≤ m) (hfu : (m - i).toNat = fuel), G p9 l e9 rm_M_pass s9 m9 args9 below9 meth9 c9 (RQ E (fun v9 w9 => ∃ (x2 : Int) (y2 : Int) (d2 : Int), v9 = some (vI (q_pass a m)) ∧ w9 = [((Q 0), .inr (12, [vR (Q 1), vR (Q 2), vR (Q 3), vR (Q 4), vR (Q 5), vI pn, vR (Q 6), vL f0, vL f1, vL f2, vL f3, vL x2, vL y2, vL d2, vI rg, vI wr, vR (Q 7), vI rn, vR (Q 8), vI wn])), ((Q 1), cL E 310 (n_pass a m)), ((Q 2), cL E 310 s2), ((Q 3), cL E 620 s3), ((Q 4), cZ E 2 s4), ((Q 5), cI E 80 tx), ((Q 6), cI E 24 cosT), ((Q 7), cI E 16 rr), ((Q 8), cI E 120 ww)]) A9 below9 args9 s9 0 0) E A9 3 0 0 [((Q 0), .inr (12, [vR (Q 1), vR (Q 2), vR (Q 3), vR (Q 4), vR (Q 5), vI pn, vR (Q 6), vL f0, vL f1, vL f2, vL f3, vL x9, vL y9, vL d9, vI rg, vI wr, vR (Q 7), vI rn, vR (Q 8), vI wn])), ((Q 1), cL E 310 (itr (Int.toNat i) a)), ((Q 2), cL E 310 s2), ((Q 3), cL E 620 s3), ((Q 4), cZ E 2 s4), ((Q 5), cI E 80 tx), ((Q 6), cI E 24 cosT), ((Q 7), cI E 16 rr), ((Q 8), cI E 120 ww)] [(0, vR (Q 0)), (1, vI m), (2, vI i)] 37 [] := by
        intro fuel
        induction fuel using Nat.strongRecOn with
        | ind fuel ih =>
          intro i x9 y9 d9 h0 h1 hfu
          refine g_iload_n C 2 rfl dX11_pass_37 rfl ?_
          refine g_iload_n C 1 rfl dX11_pass_38 rfl ?_
          refine g_icmp_ge C (tgt := 52) ⟨by omega, by omega⟩ (b_m) dX11_pass_39 (by decide) rfl (fun c_3 => ?_) (fun c_3 => ?_)
          · have ei : m = i := by omega
            subst ei
            refine g_aload_n C 0 rfl dX11_pass_52 rfl ?_
            refine g_get C 0 fd_X11_pass_7 rfl rfl rfl dX11_pass_53 rfl ?_
            refine g_bipush C (by decide) dX11_pass_56 rfl ?_
            refine g_lald C 1 rfl (by decide) (by decide) (by decide) rfl dX11_pass_58 rfl ?_
            refine g_l2i C rfl dX11_pass_59 rfl ?_
            refine g_top (v' := vI (q_pass a m)) (congrArg (fun z_ : Int => vI z_) (show (q_pass a m) = ((itr (Int.toNat m) a) 35) by unfold q_pass; (repeat' split) <;> first | rfl | omega | contradiction)) ?_
            refine g_ws (ws' := [((Q 0), .inr (12, [vR (Q 1), vR (Q 2), vR (Q 3), vR (Q 4), vR (Q 5), vI pn, vR (Q 6), vL f0, vL f1, vL f2, vL f3, vL x9, vL y9, vL d9, vI rg, vI wr, vR (Q 7), vI rn, vR (Q 8), vI wn])), ((Q 1), cL E 310 (n_pass a m)), ((Q 2), cL E 310 s2), ((Q 3), cL E 620 s3), ((Q 4), cZ E 2 s4), ((Q 5), cI E 80 tx), ((Q 6), cI E 24 cosT), ((Q 7), cI E 16 rr), ((Q 8), cI E 120 ww)]) (congrArg (fun z_ : Nat → Int64 => ([((Q 0), .inr (12, [vR (Q 1), vR (Q 2), vR (Q 3), vR (Q 4), vR (Q 5), vI pn, vR (Q 6), vL f0, vL f1, vL f2, vL f3, vL x9, vL y9, vL d9, vI rg, vI wr, vR (Q 7), vI rn, vR (Q 8), vI wn])), ((Q 1), .inl (E.2.1 1, 310, .inr (.inl z_))), ((Q 2), cL E 310 s2), ((Q 3), cL E 620 s3), ((Q 4), cZ E 2 s4), ((Q 5), cI E 80 tx), ((Q 6), cI E 24 cosT), ((Q 7), cI E 16 rr), ((Q 8), cI E 120 ww)] : va_W)) (show AL 310 (n_pass a m) = AL 310 (itr (Int.toNat m) a) from AL_c (fun k_ k0_ k1_ => by unfold n_pass; (repeat' split) <;> first | rfl | omega | contradiction))) ?_
            exact g_iret C hr rfl (Nat.le_of_ble_eq_true rfl) (Nat.le_of_ble_eq_true rfl) dX11_pass_60 ⟨x9, y9, d9, rfl, rfl⟩
          have iI := itr_inv hI0 (Int.toNat i)
          refine g_aload_n C 0 rfl dX11_pass_42 rfl ?_
          refine g_callV C (b := (Q 0)) (As := []) (wc := [((Q 0), .inr (12, [vR (Q 1), vR (Q 2), vR (Q 3), vR (Q 4), vR (Q 5), vI pn, vR (Q 6), vL f0, vL f1, vL f2, vL f3, vL x9, vL y9, vL d9, vI rg, vI wr, vR (Q 7), vI rn, vR (Q 8), vI wn])), ((Q 1), cL E 310 (itr (Int.toNat i) a)), ((Q 6), cI E 24 cosT)]) (wr := [((Q 2), cL E 310 s2), ((Q 3), cL E 620 s3), ((Q 4), cZ E 2 s4), ((Q 5), cI E 80 tx), ((Q 7), cI E 16 rr), ((Q 8), cI E 120 ww)]) (st := []) gX11_pass_X11_sample (q9 := 0) (ci := 12) rfl rfl rfl (K_m_sample l E Q pn f0 f1 f2 f3 x9 y9 d9 rg wr rn wn (itr (Int.toNat i) a) (B + ((Int.toNat i : Nat) : Int)) iI (by omega)) hyd_X11_sample rfl [0, 1, 6] [2, 3, 4, 5, 7, 8] rfl rfl rfl rfl rfl (by decide) ⟨rfl, rfl⟩ ⟨Nat.le_of_ble_eq_true rfl, Nat.le_of_ble_eq_true rfl, Nat.le_of_ble_eq_true rfl, Nat.le_of_ble_eq_true rfl⟩ (Nat.le_of_ble_eq_true rfl) dX11_pass_43 (rfl : _ = 0) (rfl : _ = 0) rfl ?_
          rintro _ _ ⟨x2_4, y2_5, d2_6, rfl, rfl⟩
          refine g_is (ws' := [((Q 2), cL E 310 s2), ((Q 3), cL E 620 s3), ((Q 4), cZ E 2 s4), ((Q 5), cI E 80 tx), ((Q 7), cI E 16 rr), ((Q 8), cI E 120 ww), ((Q 0), .inr (12, [vR (Q 1), vR (Q 2), vR (Q 3), vR (Q 4), vR (Q 5), vI pn, vR (Q 6), vL f0, vL f1, vL f2, vL f3, vL x2_4, vL y2_5, vL d2_6, vI rg, vI wr, vR (Q 7), vI rn, vR (Q 8), vI wn])), ((Q 1), cL E 310 (stp (itr (Int.toNat i) a))), ((Q 6), cI E 24 cosT)]) (st' := []) rfl rfl ?_
          refine g_sub (ws' := [((Q 0), .inr (12, [vR (Q 1), vR (Q 2), vR (Q 3), vR (Q 4), vR (Q 5), vI pn, vR (Q 6), vL f0, vL f1, vL f2, vL f3, vL x2_4, vL y2_5, vL d2_6, vI rg, vI wr, vR (Q 7), vI rn, vR (Q 8), vI wn])), ((Q 1), cL E 310 (stp (itr (Int.toNat i) a))), ((Q 2), cL E 310 s2), ((Q 3), cL E 620 s3), ((Q 4), cZ E 2 s4), ((Q 5), cI E 80 tx), ((Q 6), cI E 24 cosT), ((Q 7), cI E 16 rr), ((Q 8), cI E 120 ww)]) [6, 7, 0, 1, 2, 3, 8, 4, 5] rfl rfl rfl ?_
          refine g_iinc C (r := (i + 1)) (lv' := [(0, vR (Q 0)), (1, vI m), (2, vI (i + 1))]) 2 [1, 2, 0] rfl rfl (by decide) rfl rfl dX11_pass_46 rfl ?_
          refine g_goto C (pc' := 37) dX11_pass_49 (by decide) ?_
          refine g_ws (ws' := [((Q 0), .inr (12, [vR (Q 1), vR (Q 2), vR (Q 3), vR (Q 4), vR (Q 5), vI pn, vR (Q 6), vL f0, vL f1, vL f2, vL f3, vL x2_4, vL y2_5, vL d2_6, vI rg, vI wr, vR (Q 7), vI rn, vR (Q 8), vI wn])), ((Q 1), cL E 310 (itr (Int.toNat (i + 1)) a)), ((Q 2), cL E 310 s2), ((Q 3), cL E 620 s3), ((Q 4), cZ E 2 s4), ((Q 5), cI E 80 tx), ((Q 6), cI E 24 cosT), ((Q 7), cI E 16 rr), ((Q 8), cI E 120 ww)]) (congrArg (fun z_ : Nat → Int64 => ([((Q 0), .inr (12, [vR (Q 1), vR (Q 2), vR (Q 3), vR (Q 4), vR (Q 5), vI pn, vR (Q 6), vL f0, vL f1, vL f2, vL f3, vL x2_4, vL y2_5, vL d2_6, vI rg, vI wr, vR (Q 7), vI rn, vR (Q 8), vI wn])), ((Q 1), .inl (E.2.1 1, 310, .inr (.inl z_))), ((Q 2), cL E 310 s2), ((Q 3), cL E 620 s3), ((Q 4), cZ E 2 s4), ((Q 5), cI E 80 tx), ((Q 6), cI E 24 cosT), ((Q 7), cI E 16 rr), ((Q 8), cI E 120 ww)] : va_W)) (show AL 310 (itr (Int.toNat (i + 1)) a) = AL 310 (stp (itr (Int.toNat i) a)) from AL_c (fun k_ k0_ k1_ => by rw [show Int.toNat (i + 1) = Int.toNat i + 1 by omega]; rfl))) ?_
          exact ih _ (by omega) (i + 1) x2_4 y2_5 d2_6 (by omega) (by omega) rfl
      refine g_ws (ws' := [((Q 0), .inr (12, [vR (Q 1), vR (Q 2), vR (Q 3), vR (Q 4), vR (Q 5), vI pn, vR (Q 6), vL f0, vL f1, vL f2, vL f3, vL px, vL py, vL pb, vI rg, vI wr, vR (Q 7), vI rn, vR (Q 8), vI wn])), ((Q 1), cL E 310 (itr (Int.toNat 0) a)), ((Q 2), cL E 310 s2), ((Q 3), cL E 620 s3), ((Q 4), cZ E 2 s4), ((Q 5), cI E 80 tx), ((Q 6), cI E 24 cosT), ((Q 7), cI E 16 rr), ((Q 8), cI E 120 ww)]) (congrArg (fun z_ : Nat → Int64 => ([((Q 0), .inr (12, [vR (Q 1), vR (Q 2), vR (Q 3), vR (Q 4), vR (Q 5), vI pn, vR (Q 6), vL f0, vL f1, vL f2, vL f3, vL px, vL py, vL pb, vI rg, vI wr, vR (Q 7), vI rn, vR (Q 8), vI wn])), ((Q 1), .inl (E.2.1 1, 310, .inr (.inl z_))), ((Q 2), cL E 310 s2), ((Q 3), cL E 620 s3), ((Q 4), cZ E 2 s4), ((Q 5), cI E 80 tx), ((Q 6), cI E 24 cosT), ((Q 7), cI E 16 rr), ((Q 8), cI E 120 ww)] : va_W)) (show AL 310 (itr (Int.toNat 0) a) = AL 310 a from AL_c (fun k_ k0_ k1_ => by rfl))) ?_
      exact hL_37 _ 0 px py pb (by omega) (by omega) rfl
    refine g_bipush C (by decide) dX11_pass_32 rfl ?_
    refine g_top (v' := vI (q_pass a m)) (congrArg (fun z_ : Int => vI z_) (show (q_pass a m) = (-5) by unfold q_pass; (repeat' split) <;> first | rfl | omega | contradiction)) ?_
    refine g_ws (ws' := [((Q 0), .inr (12, [vR (Q 1), vR (Q 2), vR (Q 3), vR (Q 4), vR (Q 5), vI pn, vR (Q 6), vL f0, vL f1, vL f2, vL f3, vL px, vL py, vL pb, vI rg, vI wr, vR (Q 7), vI rn, vR (Q 8), vI wn])), ((Q 1), cL E 310 (n_pass a m)), ((Q 2), cL E 310 s2), ((Q 3), cL E 620 s3), ((Q 4), cZ E 2 s4), ((Q 5), cI E 80 tx), ((Q 6), cI E 24 cosT), ((Q 7), cI E 16 rr), ((Q 8), cI E 120 ww)]) (congrArg (fun z_ : Nat → Int64 => ([((Q 0), .inr (12, [vR (Q 1), vR (Q 2), vR (Q 3), vR (Q 4), vR (Q 5), vI pn, vR (Q 6), vL f0, vL f1, vL f2, vL f3, vL px, vL py, vL pb, vI rg, vI wr, vR (Q 7), vI rn, vR (Q 8), vI wn])), ((Q 1), .inl (E.2.1 1, 310, .inr (.inl z_))), ((Q 2), cL E 310 s2), ((Q 3), cL E 620 s3), ((Q 4), cZ E 2 s4), ((Q 5), cI E 80 tx), ((Q 6), cI E 24 cosT), ((Q 7), cI E 16 rr), ((Q 8), cI E 120 ww)] : va_W)) (show AL 310 (n_pass a m) = AL 310 a from AL_c (fun k_ k0_ k1_ => by unfold n_pass; (repeat' split) <;> first | rfl | omega | contradiction))) ?_
    exact g_iret C hr rfl (Nat.le_of_ble_eq_true rfl) (Nat.le_of_ble_eq_true rfl) dX11_pass_34 ⟨px, py, pb, rfl, rfl⟩
  refine g_bipush C (by decide) dX11_pass_12 rfl ?_
  refine g_top (v' := vI (q_pass a m)) (congrArg (fun z_ : Int => vI z_) (show (q_pass a m) = (-2) by unfold q_pass; (repeat' split) <;> first | rfl | omega | contradiction)) ?_
  refine g_ws (ws' := [((Q 0), .inr (12, [vR (Q 1), vR (Q 2), vR (Q 3), vR (Q 4), vR (Q 5), vI pn, vR (Q 6), vL f0, vL f1, vL f2, vL f3, vL px, vL py, vL pb, vI rg, vI wr, vR (Q 7), vI rn, vR (Q 8), vI wn])), ((Q 1), cL E 310 (n_pass a m)), ((Q 2), cL E 310 s2), ((Q 3), cL E 620 s3), ((Q 4), cZ E 2 s4), ((Q 5), cI E 80 tx), ((Q 6), cI E 24 cosT), ((Q 7), cI E 16 rr), ((Q 8), cI E 120 ww)]) (congrArg (fun z_ : Nat → Int64 => ([((Q 0), .inr (12, [vR (Q 1), vR (Q 2), vR (Q 3), vR (Q 4), vR (Q 5), vI pn, vR (Q 6), vL f0, vL f1, vL f2, vL f3, vL px, vL py, vL pb, vI rg, vI wr, vR (Q 7), vI rn, vR (Q 8), vI wn])), ((Q 1), .inl (E.2.1 1, 310, .inr (.inl z_))), ((Q 2), cL E 310 s2), ((Q 3), cL E 620 s3), ((Q 4), cZ E 2 s4), ((Q 5), cI E 80 tx), ((Q 6), cI E 24 cosT), ((Q 7), cI E 16 rr), ((Q 8), cI E 120 ww)] : va_W)) (show AL 310 (n_pass a m) = AL 310 a from AL_c (fun k_ k0_ k1_ => by unfold n_pass; (repeat' split) <;> first | rfl | omega | contradiction))) ?_
  exact g_iret C hr rfl (Nat.le_of_ble_eq_true rfl) (Nat.le_of_ble_eq_true rfl) dX11_pass_14 ⟨px, py, pb, rfl, rfl⟩

theorem w_X11_measure_k243 : Cond.constantLong RX11 243 (12) ∈ wsX11_measure := by decide +kernel
theorem w_X11_measure_k245 : Cond.constantLong RX11 245 (8) ∈ wsX11_measure := by decide +kernel
theorem w_X11_measure_k247 : Cond.constantLong RX11 247 (9) ∈ wsX11_measure := by decide +kernel
theorem in_X11_measure_X11 : ∀ w ∈ u_ws RX11 TX11 20, w ∈ wsX11_measure := by decide +kernel
theorem fd_X11_measure_7 : fdk wsX11_measure RX11 7 "ZoneRelayModel" RX11 TX11 20 0 := ⟨in_X11_measure_X11, by decide +kernel, by decide, rfl⟩
theorem w_X11_measure_k249 : Cond.constantLong RX11 249 (-1000000000000000006) ∈ wsX11_measure := by decide +kernel
theorem w_X11_measure_k170 : Cond.constantLong RX11 170 (-1000000000000000002) ∈ wsX11_measure := by decide +kernel
abbrev rm_M_measure : Room := { frames := 1, cells := 0, slots := 0, locals := 25 }
set_option maxHeartbeats 1000000 in
set_option maxRecDepth 100000 in
theorem M_measure (l : Launch) (E : Ev) (Q : Nat → Nat) (pn f0 f1 f2 f3 px py pb rg wr rn wn : Int) (a s2 s3 s4 tx rr ww : Int → Int) (B w : Int) (hI : Inv a B) (hB : B ≤ 2900000) (b_w : bi w) : Mc l yX11_measure wsX11_measure rm_M_measure E [vR (Q 0), vI w] [((Q 0), .inr (12, [vR (Q 1), vR (Q 2), vR (Q 3), vR (Q 4), vR (Q 5), vI pn, vR (Q 6), vL f0, vL f1, vL f2, vL f3, vL px, vL py, vL pb, vI rg, vI wr, vR (Q 7), vI rn, vR (Q 8), vI wn])), ((Q 1), cL E 310 a), ((Q 2), cL E 310 s2), ((Q 3), cL E 620 s3), ((Q 4), cZ E 2 s4), ((Q 5), cI E 80 tx), ((Q 6), cI E 24 cosT), ((Q 7), cI E 16 rr), ((Q 8), cI E 120 ww)] 0 0 (fun v9 w9 => v9 = some (vL (q_measure a w)) ∧ w9 = [((Q 0), .inr (12, [vR (Q 1), vR (Q 2), vR (Q 3), vR (Q 4), vR (Q 5), vI pn, vR (Q 6), vL f0, vL f1, vL f2, vL f3, vL px, vL py, vL pb, vI rg, vI wr, vR (Q 7), vI rn, vR (Q 8), vI wn])), ((Q 1), cL E 310 a), ((Q 2), cL E 310 s2), ((Q 3), cL E 620 s3), ((Q 4), cZ E 2 s4), ((Q 5), cI E 80 tx), ((Q 6), cI E 24 cosT), ((Q 7), cI E 16 rr), ((Q 8), cI E 120 ww)]) := by
  refine Mc.intro (cc := cX11_measure) (maxL := 2) (ret := (some .long)) (lv0 := [(0, vR (Q 0)), (1, vI w)]) (by decide +kernel) rfl rfl (Nat.le_of_ble_eq_true rfl) ?_
  intro p9 e9 s9 m9 args9 below9 meth9 c9 A9 C hr hmn
  have C : Cx p9 s9 m9 args9 meth9 c9 E A9 2 cX11_measure wsX11_measure RX11 := C
  have hI0 := hI
  obtain ⟨iP, i4, iR, iE, iN, ⟨i21, i22, i23, i24, i25, i26, i27, i28⟩, iD, iW, i35, iS, iM, i90, i91, i94, i95, i96, i97, iT, iK, i104, iPn, iPc⟩ := hI
  refine g_iload_n C 1 rfl dX11_measure_0 rfl ?_
  refine g_i2l C (b_w) rfl dX11_measure_1 rfl ?_
  refine g_lconst0 C dX11_measure_2 rfl ?_
  refine g_ldc2 C (x := 12) w_X11_measure_k243 (by decide) dX11_measure_3 rfl ?_
  refine g_callS C (As := [vL w, vL 0, vL 12]) (wc := []) (wr := [((Q 0), .inr (12, [vR (Q 1), vR (Q 2), vR (Q 3), vR (Q 4), vR (Q 5), vI pn, vR (Q 6), vL f0, vL f1, vL f2, vL f3, vL px, vL py, vL pb, vI rg, vI wr, vR (Q 7), vI rn, vR (Q 8), vI wn])), ((Q 1), cL E 310 a), ((Q 2), cL E 310 s2), ((Q 3), cL E 620 s3), ((Q 4), cZ E 2 s4), ((Q 5), cI E 80 tx), ((Q 6), cI E 24 cosT), ((Q 7), cI E 16 rr), ((Q 8), cI E 120 ww)]) (st := []) gX11_measure_X11_in rfl (K_m_in l E w 0 12 ⟨by omega, by omega⟩ ⟨by omega, by omega⟩ ⟨by omega, by omega⟩) hyd_X11_in rfl [] [0, 1, 2, 3, 4, 5, 6, 7, 8] rfl rfl rfl rfl rfl (by decide) ⟨rfl, rfl⟩ ⟨Nat.le_of_ble_eq_true rfl, Nat.le_of_ble_eq_true rfl, Nat.le_of_ble_eq_true rfl, Nat.le_of_ble_eq_true rfl⟩ (Nat.le_of_ble_eq_true rfl) dX11_measure_6 (rfl : _ = 0) (rfl : _ = 0) rfl ?_
  rintro _ _ ⟨rfl, rfl⟩
  refine g_is (ws' := [((Q 0), .inr (12, [vR (Q 1), vR (Q 2), vR (Q 3), vR (Q 4), vR (Q 5), vI pn, vR (Q 6), vL f0, vL f1, vL f2, vL f3, vL px, vL py, vL pb, vI rg, vI wr, vR (Q 7), vI rn, vR (Q 8), vI wn])), ((Q 1), cL E 310 a), ((Q 2), cL E 310 s2), ((Q 3), cL E 620 s3), ((Q 4), cZ E 2 s4), ((Q 5), cI E 80 tx), ((Q 6), cI E 24 cosT), ((Q 7), cI E 16 rr), ((Q 8), cI E 120 ww)]) (st' := [vI (bP (0 ≤ w ∧ w ≤ 12))]) rfl rfl ?_
  refine g_ifb_ne C (tgt := 16) dX11_measure_9 (by decide) rfl (fun c_1 => ?_) (fun c_1 => ?_)
  · refine g_iload_n C 1 rfl dX11_measure_16 rfl ?_
    refine g_i2l C (b_w) rfl dX11_measure_17 rfl ?_
    refine g_ldc2 C (x := 8) w_X11_measure_k245 (by decide) dX11_measure_18 rfl ?_
    refine g_ldc2 C (x := 9) w_X11_measure_k247 (by decide) dX11_measure_21 rfl ?_
    refine g_callS C (As := [vL w, vL 8, vL 9]) (wc := []) (wr := [((Q 0), .inr (12, [vR (Q 1), vR (Q 2), vR (Q 3), vR (Q 4), vR (Q 5), vI pn, vR (Q 6), vL f0, vL f1, vL f2, vL f3, vL px, vL py, vL pb, vI rg, vI wr, vR (Q 7), vI rn, vR (Q 8), vI wn])), ((Q 1), cL E 310 a), ((Q 2), cL E 310 s2), ((Q 3), cL E 620 s3), ((Q 4), cZ E 2 s4), ((Q 5), cI E 80 tx), ((Q 6), cI E 24 cosT), ((Q 7), cI E 16 rr), ((Q 8), cI E 120 ww)]) (st := []) gX11_measure_X11_in rfl (K_m_in l E w 8 9 ⟨by omega, by omega⟩ ⟨by omega, by omega⟩ ⟨by omega, by omega⟩) hyd_X11_in rfl [] [0, 1, 2, 3, 4, 5, 6, 7, 8] rfl rfl rfl rfl rfl (by decide) ⟨rfl, rfl⟩ ⟨Nat.le_of_ble_eq_true rfl, Nat.le_of_ble_eq_true rfl, Nat.le_of_ble_eq_true rfl, Nat.le_of_ble_eq_true rfl⟩ (Nat.le_of_ble_eq_true rfl) dX11_measure_24 (rfl : _ = 0) (rfl : _ = 0) rfl ?_
    rintro _ _ ⟨rfl, rfl⟩
    refine g_is (ws' := [((Q 0), .inr (12, [vR (Q 1), vR (Q 2), vR (Q 3), vR (Q 4), vR (Q 5), vI pn, vR (Q 6), vL f0, vL f1, vL f2, vL f3, vL px, vL py, vL pb, vI rg, vI wr, vR (Q 7), vI rn, vR (Q 8), vI wn])), ((Q 1), cL E 310 a), ((Q 2), cL E 310 s2), ((Q 3), cL E 620 s3), ((Q 4), cZ E 2 s4), ((Q 5), cI E 80 tx), ((Q 6), cI E 24 cosT), ((Q 7), cI E 16 rr), ((Q 8), cI E 120 ww)]) (st' := [vI (bP (8 ≤ w ∧ w ≤ 9))]) rfl rfl ?_
    refine g_ifb_eq C (tgt := 46) dX11_measure_27 (by decide) rfl (fun c_2 => ?_) (fun c_2 => ?_)
    · refine g_aload_n C 0 rfl dX11_measure_46 rfl ?_
      refine g_get C 0 fd_X11_measure_7 rfl rfl rfl dX11_measure_47 rfl ?_
      refine g_bipush C (by decide) dX11_measure_50 rfl ?_
      refine g_iload_n C 1 rfl dX11_measure_52 rfl ?_
      refine g_iadd C rfl dX11_measure_53 rfl ?_
      refine g_lald C 1 rfl (by omega) (by omega) (by decide) rfl dX11_measure_54 rfl ?_
      refine g_top (v' := vL (q_measure a w)) (congrArg (fun z_ : Int => vL z_) (show (q_measure a w) = (a (84 + w)) by unfold q_measure; (repeat' split) <;> first | rfl | omega | contradiction)) ?_
      exact g_lret C hr (Nat.le_of_ble_eq_true rfl) (Nat.le_of_ble_eq_true rfl) dX11_measure_55 ⟨rfl, rfl⟩
    refine g_aload_n C 0 rfl dX11_measure_30 rfl ?_
    refine g_get C 0 fd_X11_measure_7 rfl rfl rfl dX11_measure_31 rfl ?_
    refine g_bipush C (by decide) dX11_measure_34 rfl ?_
    refine g_lald C 1 rfl (by decide) (by decide) (by decide) rfl dX11_measure_36 rfl ?_
    refine g_lconst0 C dX11_measure_37 rfl ?_
    refine g_lcmp_ne C ⟨by omega, by omega⟩ ⟨by decide, by decide⟩ dX11_measure_38 rfl (tgt := 46) dX11_measure_39 (by decide) rfl (fun c_3 => ?_) (fun c_3 => ?_)
    · refine g_aload_n C 0 rfl dX11_measure_46 rfl ?_
      refine g_get C 0 fd_X11_measure_7 rfl rfl rfl dX11_measure_47 rfl ?_
      refine g_bipush C (by decide) dX11_measure_50 rfl ?_
      refine g_iload_n C 1 rfl dX11_measure_52 rfl ?_
      refine g_iadd C rfl dX11_measure_53 rfl ?_
      refine g_lald C 1 rfl (by omega) (by omega) (by decide) rfl dX11_measure_54 rfl ?_
      refine g_top (v' := vL (q_measure a w)) (congrArg (fun z_ : Int => vL z_) (show (q_measure a w) = (a (84 + w)) by unfold q_measure; (repeat' split) <;> first | rfl | omega | contradiction)) ?_
      exact g_lret C hr (Nat.le_of_ble_eq_true rfl) (Nat.le_of_ble_eq_true rfl) dX11_measure_55 ⟨rfl, rfl⟩
    refine g_ldc2 C (x := (-1000000000000000006)) w_X11_measure_k249 (by decide) dX11_measure_42 rfl ?_
    refine g_top (v' := vL (q_measure a w)) (congrArg (fun z_ : Int => vL z_) (show (q_measure a w) = (-1000000000000000006) by unfold q_measure; (repeat' split) <;> first | rfl | omega | contradiction)) ?_
    exact g_lret C hr (Nat.le_of_ble_eq_true rfl) (Nat.le_of_ble_eq_true rfl) dX11_measure_45 ⟨rfl, rfl⟩
  refine g_ldc2 C (x := (-1000000000000000002)) w_X11_measure_k170 (by decide) dX11_measure_12 rfl ?_
  refine g_top (v' := vL (q_measure a w)) (congrArg (fun z_ : Int => vL z_) (show (q_measure a w) = (-1000000000000000002) by unfold q_measure; (repeat' split) <;> first | rfl | omega | contradiction)) ?_
  exact g_lret C hr (Nat.le_of_ble_eq_true rfl) (Nat.le_of_ble_eq_true rfl) dX11_measure_15 ⟨rfl, rfl⟩

theorem in_X11_state_X11 : ∀ w ∈ u_ws RX11 TX11 20, w ∈ wsX11_state := by decide +kernel
theorem fd_X11_state_7 : fdk wsX11_state RX11 7 "ZoneRelayModel" RX11 TX11 20 0 := ⟨in_X11_state_X11, by decide +kernel, by decide, rfl⟩
abbrev rm_M_state : Room := { frames := 2, cells := 0, slots := 0, locals := 45 }
set_option maxHeartbeats 1000000 in
set_option maxRecDepth 100000 in
theorem M_state (l : Launch) (E : Ev) (Q : Nat → Nat) (pn f0 f1 f2 f3 px py pb rg wr rn wn : Int) (a s2 s3 s4 tx rr ww : Int → Int) (B z w : Int) (hI : Inv a B) (hB : B ≤ 2900000) (b_z : bi z) (b_w : bi w) : Mc l yX11_state wsX11_state rm_M_state E [vR (Q 0), vI z, vI w] [((Q 0), .inr (12, [vR (Q 1), vR (Q 2), vR (Q 3), vR (Q 4), vR (Q 5), vI pn, vR (Q 6), vL f0, vL f1, vL f2, vL f3, vL px, vL py, vL pb, vI rg, vI wr, vR (Q 7), vI rn, vR (Q 8), vI wn])), ((Q 1), cL E 310 a), ((Q 2), cL E 310 s2), ((Q 3), cL E 620 s3), ((Q 4), cZ E 2 s4), ((Q 5), cI E 80 tx), ((Q 6), cI E 24 cosT), ((Q 7), cI E 16 rr), ((Q 8), cI E 120 ww)] 0 0 (fun v9 w9 => v9 = some (vI (q_state a z w)) ∧ w9 = [((Q 0), .inr (12, [vR (Q 1), vR (Q 2), vR (Q 3), vR (Q 4), vR (Q 5), vI pn, vR (Q 6), vL f0, vL f1, vL f2, vL f3, vL px, vL py, vL pb, vI rg, vI wr, vR (Q 7), vI rn, vR (Q 8), vI wn])), ((Q 1), cL E 310 a), ((Q 2), cL E 310 s2), ((Q 3), cL E 620 s3), ((Q 4), cZ E 2 s4), ((Q 5), cI E 80 tx), ((Q 6), cI E 24 cosT), ((Q 7), cI E 16 rr), ((Q 8), cI E 120 ww)]) := by
  refine Mc.intro (cc := cX11_state) (maxL := 5) (ret := (some .int)) (lv0 := [(0, vR (Q 0)), (1, vI z), (2, vI w)]) (by decide +kernel) rfl rfl (Nat.le_of_ble_eq_true rfl) ?_
  intro p9 e9 s9 m9 args9 below9 meth9 c9 A9 C hr hmn
  have C : Cx p9 s9 m9 args9 meth9 c9 E A9 5 cX11_state wsX11_state RX11 := C
  have hI0 := hI
  obtain ⟨iP, i4, iR, iE, iN, ⟨i21, i22, i23, i24, i25, i26, i27, i28⟩, iD, iW, i35, iS, iM, i90, i91, i94, i95, i96, i97, iT, iK, i104, iPn, iPc⟩ := hI
  refine g_iload_n C 1 rfl dX11_state_0 rfl ?_
  refine g_callS C (As := [vI z]) (wc := []) (wr := [((Q 0), .inr (12, [vR (Q 1), vR (Q 2), vR (Q 3), vR (Q 4), vR (Q 5), vI pn, vR (Q 6), vL f0, vL f1, vL f2, vL f3, vL px, vL py, vL pb, vI rg, vI wr, vR (Q 7), vI rn, vR (Q 8), vI wn])), ((Q 1), cL E 310 a), ((Q 2), cL E 310 s2), ((Q 3), cL E 620 s3), ((Q 4), cZ E 2 s4), ((Q 5), cI E 80 tx), ((Q 6), cI E 24 cosT), ((Q 7), cI E 16 rr), ((Q 8), cI E 120 ww)]) (st := []) gX11_state_X11_isZone rfl (K_m_isZone l E z b_z) hyd_X11_isZone rfl [] [0, 1, 2, 3, 4, 5, 6, 7, 8] rfl rfl rfl rfl rfl (by decide) ⟨rfl, rfl⟩ ⟨Nat.le_of_ble_eq_true rfl, Nat.le_of_ble_eq_true rfl, Nat.le_of_ble_eq_true rfl, Nat.le_of_ble_eq_true rfl⟩ (Nat.le_of_ble_eq_true rfl) dX11_state_1 (rfl : _ = 0) (rfl : _ = 0) rfl ?_
  rintro _ _ ⟨rfl, rfl⟩
  refine g_is (ws' := [((Q 0), .inr (12, [vR (Q 1), vR (Q 2), vR (Q 3), vR (Q 4), vR (Q 5), vI pn, vR (Q 6), vL f0, vL f1, vL f2, vL f3, vL px, vL py, vL pb, vI rg, vI wr, vR (Q 7), vI rn, vR (Q 8), vI wn])), ((Q 1), cL E 310 a), ((Q 2), cL E 310 s2), ((Q 3), cL E 620 s3), ((Q 4), cZ E 2 s4), ((Q 5), cI E 80 tx), ((Q 6), cI E 24 cosT), ((Q 7), cI E 16 rr), ((Q 8), cI E 120 ww)]) (st' := [vI (bP (0 ≤ z ∧ z ≤ 2))]) rfl rfl ?_
  refine g_ifb_ne C (tgt := 9) dX11_state_4 (by decide) rfl (fun c_1 => ?_) (fun c_1 => ?_)
  · have zD := iD (29 + z) (by omega) (by omega)
    have zT := iT (98 + z) (by omega) (by omega)
    refine g_aload_n C 0 rfl dX11_state_9 rfl ?_
    refine g_get C 0 fd_X11_state_7 rfl rfl rfl dX11_state_10 rfl ?_
    refine g_bipush C (by decide) dX11_state_13 rfl ?_
    refine g_iload_n C 1 rfl dX11_state_15 rfl ?_
    refine g_iadd C rfl dX11_state_16 rfl ?_
    refine g_lald C 1 rfl (by omega) (by omega) (by decide) rfl dX11_state_17 rfl ?_
    refine g_aload_n C 0 rfl dX11_state_18 rfl ?_
    refine g_get C 0 fd_X11_state_7 rfl rfl rfl dX11_state_19 rfl ?_
    refine g_bipush C (by decide) dX11_state_22 rfl ?_
    refine g_iload_n C 1 rfl dX11_state_24 rfl ?_
    refine g_iadd C rfl dX11_state_25 rfl ?_
    refine g_lald C 1 rfl (by omega) (by omega) (by decide) rfl dX11_state_26 rfl ?_
    refine g_lsub C rfl dX11_state_27 rfl ?_
    refine g_lstore_n C (lv' := [(0, vR (Q 0)), (1, vI z), (2, vI w), (3, vL ((a (29 + z)) - (a (98 + z))))]) [1, 2, 3, 0] (by decide) rfl rfl dX11_state_28 rfl ?_
    refine g_iload_n C 2 rfl dX11_state_29 rfl ?_
    by_cases c_2 : 0 ≤ w ∧ w ≤ 4
    · rcases (show w = 0 ∨ w = 1 ∨ w = 2 ∨ w = 3 ∨ w = 4 by omega) with c_2e | c_2e | c_2e | c_2e | c_2e
      · subst c_2e
        refine g_tsIn C (pc' := 64) ⟨by decide, by decide⟩ (by decide) (by decide) (by rfl) dX11_state_30 (by decide) ?_
        refine g_aload_n C 0 rfl dX11_state_64 rfl ?_
        refine g_get C 0 fd_X11_state_7 rfl rfl rfl dX11_state_65 rfl ?_
        refine g_bipush C (by decide) dX11_state_68 rfl ?_
        refine g_iload_n C 1 rfl dX11_state_70 rfl ?_
        refine g_iadd C rfl dX11_state_71 rfl ?_
        refine g_lald C 1 rfl (by omega) (by omega) (by decide) rfl dX11_state_72 rfl ?_
        refine g_l2i C rfl dX11_state_73 rfl ?_
        refine g_top (v' := vI (q_state a z 0)) (congrArg (fun z_ : Int => vI z_) (show (q_state a z 0) = (a (101 + z)) by unfold q_state; (repeat' split) <;> first | rfl | omega | contradiction)) ?_
        exact g_iret C hr rfl (Nat.le_of_ble_eq_true rfl) (Nat.le_of_ble_eq_true rfl) dX11_state_74 ⟨rfl, rfl⟩
      · subst c_2e
        refine g_tsIn C (pc' := 75) ⟨by decide, by decide⟩ (by decide) (by decide) (by rfl) dX11_state_30 (by decide) ?_
        refine g_aload_n C 0 rfl dX11_state_75 rfl ?_
        refine g_get C 0 fd_X11_state_7 rfl rfl rfl dX11_state_76 rfl ?_
        refine g_bipush C (by decide) dX11_state_79 rfl ?_
        refine g_iload_n C 1 rfl dX11_state_81 rfl ?_
        refine g_iadd C rfl dX11_state_82 rfl ?_
        refine g_lald C 1 rfl (by omega) (by omega) (by decide) rfl dX11_state_83 rfl ?_
        refine g_l2i C rfl dX11_state_84 rfl ?_
        refine g_top (v' := vI (q_state a z 1)) (congrArg (fun z_ : Int => vI z_) (show (q_state a z 1) = (a (98 + z)) by unfold q_state; (repeat' split) <;> first | rfl | omega | contradiction)) ?_
        exact g_iret C hr rfl (Nat.le_of_ble_eq_true rfl) (Nat.le_of_ble_eq_true rfl) dX11_state_85 ⟨rfl, rfl⟩
      · subst c_2e
        refine g_tsIn C (pc' := 86) ⟨by decide, by decide⟩ (by decide) (by decide) (by rfl) dX11_state_30 (by decide) ?_
        refine g_lload_n C 3 rfl dX11_state_86 rfl ?_
        refine g_lconst0 C dX11_state_87 rfl ?_
        refine g_lcmp_le C ⟨by omega, by omega⟩ ⟨by decide, by decide⟩ dX11_state_88 rfl (tgt := 97) dX11_state_89 (by decide) rfl (fun c_3 => ?_) (fun c_3 => ?_)
        · refine g_iconst C dX11_state_97 rfl ?_
          refine g_top (v' := vI (q_state a z 2)) (congrArg (fun z_ : Int => vI z_) (show (q_state a z 2) = 0 by unfold q_state; (repeat' split) <;> first | rfl | omega | contradiction)) ?_
          exact g_iret C hr rfl (Nat.le_of_ble_eq_true rfl) (Nat.le_of_ble_eq_true rfl) dX11_state_98 ⟨rfl, rfl⟩
        refine g_lload_n C 3 rfl dX11_state_92 rfl ?_
        refine g_l2i C rfl dX11_state_93 rfl ?_
        refine g_goto C (pc' := 98) dX11_state_94 (by decide) ?_
        refine g_top (v' := vI (q_state a z 2)) (congrArg (fun z_ : Int => vI z_) (show (q_state a z 2) = ((a (29 + z)) - (a (98 + z))) by unfold q_state; (repeat' split) <;> first | rfl | omega | contradiction)) ?_
        exact g_iret C hr rfl (Nat.le_of_ble_eq_true rfl) (Nat.le_of_ble_eq_true rfl) dX11_state_98 ⟨rfl, rfl⟩
      · subst c_2e
        refine g_tsIn C (pc' := 99) ⟨by decide, by decide⟩ (by decide) (by decide) (by rfl) dX11_state_30 (by decide) ?_
        refine g_aload_n C 0 rfl dX11_state_99 rfl ?_
        refine g_get C 0 fd_X11_state_7 rfl rfl rfl dX11_state_100 rfl ?_
        refine g_bipush C (by decide) dX11_state_103 rfl ?_
        refine g_iload_n C 1 rfl dX11_state_105 rfl ?_
        refine g_iadd C rfl dX11_state_106 rfl ?_
        refine g_lald C 1 rfl (by omega) (by omega) (by decide) rfl dX11_state_107 rfl ?_
        refine g_l2i C rfl dX11_state_108 rfl ?_
        refine g_top (v' := vI (q_state a z 3)) (congrArg (fun z_ : Int => vI z_) (show (q_state a z 3) = (a (29 + z)) by unfold q_state; (repeat' split) <;> first | rfl | omega | contradiction)) ?_
        exact g_iret C hr rfl (Nat.le_of_ble_eq_true rfl) (Nat.le_of_ble_eq_true rfl) dX11_state_109 ⟨rfl, rfl⟩
      · subst c_2e
        refine g_tsIn C (pc' := 110) ⟨by decide, by decide⟩ (by decide) (by decide) (by rfl) dX11_state_30 (by decide) ?_
        refine g_aload_n C 0 rfl dX11_state_110 rfl ?_
        refine g_get C 0 fd_X11_state_7 rfl rfl rfl dX11_state_111 rfl ?_
        refine g_bipush C (by decide) dX11_state_114 rfl ?_
        refine g_iload_n C 1 rfl dX11_state_116 rfl ?_
        refine g_iadd C rfl dX11_state_117 rfl ?_
        refine g_lald C 1 rfl (by omega) (by omega) (by decide) rfl dX11_state_118 rfl ?_
        refine g_l2i C rfl dX11_state_119 rfl ?_
        refine g_top (v' := vI (q_state a z 4)) (congrArg (fun z_ : Int => vI z_) (show (q_state a z 4) = (a (32 + z)) by unfold q_state; (repeat' split) <;> first | rfl | omega | contradiction)) ?_
        exact g_iret C hr rfl (Nat.le_of_ble_eq_true rfl) (Nat.le_of_ble_eq_true rfl) dX11_state_120 ⟨rfl, rfl⟩
    refine g_tsOut C (pc' := 121) (b_w) (by omega) dX11_state_30 (by decide) ?_
    refine g_bipush C (by decide) dX11_state_121 rfl ?_
    refine g_top (v' := vI (q_state a z w)) (congrArg (fun z_ : Int => vI z_) (show (q_state a z w) = (-2) by unfold q_state; (repeat' split) <;> first | rfl | omega | contradiction)) ?_
    exact g_iret C hr rfl (Nat.le_of_ble_eq_true rfl) (Nat.le_of_ble_eq_true rfl) dX11_state_123 ⟨rfl, rfl⟩
  refine g_iconst C dX11_state_7 rfl ?_
  refine g_top (v' := vI (q_state a z w)) (congrArg (fun z_ : Int => vI z_) (show (q_state a z w) = (-1) by unfold q_state; (repeat' split) <;> first | rfl | omega | contradiction)) ?_
  exact g_iret C hr rfl (Nat.le_of_ble_eq_true rfl) (Nat.le_of_ble_eq_true rfl) dX11_state_8 ⟨rfl, rfl⟩

abbrev rm_M_tripped : Room := { frames := 0, cells := 0, slots := 0, locals := 0 }
set_option maxHeartbeats 1000000 in
set_option maxRecDepth 100000 in
theorem M_tripped (l : Launch) (E : Ev) (Q : Nat → Nat) (pn f0 f1 f2 f3 px py pb rg wr rn wn : Int) (a s2 s3 s4 tx rr ww : Int → Int) (B : Int) (hI : Inv a B) (hB : B ≤ 2900000) : Mc l yX11_tripped wsX11_tripped rm_M_tripped E [vR (Q 0)] [((Q 0), .inr (12, [vR (Q 1), vR (Q 2), vR (Q 3), vR (Q 4), vR (Q 5), vI pn, vR (Q 6), vL f0, vL f1, vL f2, vL f3, vL px, vL py, vL pb, vI rg, vI wr, vR (Q 7), vI rn, vR (Q 8), vI wn])), ((Q 1), cL E 310 a), ((Q 2), cL E 310 s2), ((Q 3), cL E 620 s3), ((Q 4), cZ E 2 s4), ((Q 5), cI E 80 tx), ((Q 6), cI E 24 cosT), ((Q 7), cI E 16 rr), ((Q 8), cI E 120 ww)] 0 0 (fun v9 w9 => v9 = some (vI (a 97)) ∧ w9 = [((Q 0), .inr (12, [vR (Q 1), vR (Q 2), vR (Q 3), vR (Q 4), vR (Q 5), vI pn, vR (Q 6), vL f0, vL f1, vL f2, vL f3, vL px, vL py, vL pb, vI rg, vI wr, vR (Q 7), vI rn, vR (Q 8), vI wn])), ((Q 1), cL E 310 a), ((Q 2), cL E 310 s2), ((Q 3), cL E 620 s3), ((Q 4), cZ E 2 s4), ((Q 5), cI E 80 tx), ((Q 6), cI E 24 cosT), ((Q 7), cI E 16 rr), ((Q 8), cI E 120 ww)]) := by
  refine Mc.intro (cc := cX11_tripped) (maxL := 1) (ret := (some .int)) (lv0 := [(0, vR (Q 0))]) (by decide +kernel) rfl rfl (Nat.le_of_ble_eq_true rfl) ?_
  intro p9 e9 s9 m9 args9 below9 meth9 c9 A9 C hr hmn
  have C : Cx p9 s9 m9 args9 meth9 c9 E A9 1 cX11_tripped wsX11_tripped RX11 := C
  have hI0 := hI
  obtain ⟨iP, i4, iR, iE, iN, ⟨i21, i22, i23, i24, i25, i26, i27, i28⟩, iD, iW, i35, iS, iM, i90, i91, i94, i95, i96, i97, iT, iK, i104, iPn, iPc⟩ := hI
  refine g_aload_n C 0 rfl dX11_tripped_0 rfl ?_
  refine g_get C 0 fd_X11_tripped_7 rfl rfl rfl dX11_tripped_1 rfl ?_
  refine g_bipush C (by decide) dX11_tripped_4 rfl ?_
  refine g_lald C 1 rfl (by decide) (by decide) (by decide) rfl dX11_tripped_6 rfl ?_
  refine g_l2i C rfl dX11_tripped_7 rfl ?_
  exact g_iret C hr rfl (Nat.le_of_ble_eq_true rfl) (Nat.le_of_ble_eq_true rfl) dX11_tripped_8 ⟨rfl, rfl⟩

theorem in_X11_reset_X11 : ∀ w ∈ u_ws RX11 TX11 20, w ∈ wsX11_reset := by decide +kernel
theorem fd_X11_reset_7 : fdk wsX11_reset RX11 7 "ZoneRelayModel" RX11 TX11 20 0 := ⟨in_X11_reset_X11, by decide +kernel, by decide, rfl⟩
theorem w_X11_reset_k60 : Cond.constantLong RX11 60 (-6) ∈ wsX11_reset := by decide +kernel
abbrev rm_M_reset : Room := { frames := 0, cells := 0, slots := 0, locals := 0 }
set_option maxHeartbeats 1000000 in
set_option maxRecDepth 100000 in
theorem M_reset (l : Launch) (E : Ev) (Q : Nat → Nat) (pn f0 f1 f2 f3 px py pb rg wr rn wn : Int) (a s2 s3 s4 tx rr ww : Int → Int) (B : Int) (hI : Inv a B) (hB : B ≤ 2900000) : Mc l yX11_reset wsX11_reset rm_M_reset E [vR (Q 0)] [((Q 0), .inr (12, [vR (Q 1), vR (Q 2), vR (Q 3), vR (Q 4), vR (Q 5), vI pn, vR (Q 6), vL f0, vL f1, vL f2, vL f3, vL px, vL py, vL pb, vI rg, vI wr, vR (Q 7), vI rn, vR (Q 8), vI wn])), ((Q 1), cL E 310 a), ((Q 2), cL E 310 s2), ((Q 3), cL E 620 s3), ((Q 4), cZ E 2 s4), ((Q 5), cI E 80 tx), ((Q 6), cI E 24 cosT), ((Q 7), cI E 16 rr), ((Q 8), cI E 120 ww)] 0 0 (fun v9 w9 => v9 = some (vI (a 97)) ∧ w9 = [((Q 0), .inr (12, [vR (Q 1), vR (Q 2), vR (Q 3), vR (Q 4), vR (Q 5), vI pn, vR (Q 6), vL f0, vL f1, vL f2, vL f3, vL px, vL py, vL pb, vI rg, vI wr, vR (Q 7), vI rn, vR (Q 8), vI wn])), ((Q 1), cL E 310 (s_rst a)), ((Q 2), cL E 310 s2), ((Q 3), cL E 620 s3), ((Q 4), cZ E 2 s4), ((Q 5), cI E 80 tx), ((Q 6), cI E 24 cosT), ((Q 7), cI E 16 rr), ((Q 8), cI E 120 ww)]) := by
  refine Mc.intro (cc := cX11_reset) (maxL := 3) (ret := (some .int)) (lv0 := [(0, vR (Q 0))]) (by decide +kernel) rfl rfl (Nat.le_of_ble_eq_true rfl) ?_
  intro p9 e9 s9 m9 args9 below9 meth9 c9 A9 C hr hmn
  have C : Cx p9 s9 m9 args9 meth9 c9 E A9 3 cX11_reset wsX11_reset RX11 := C
  have hI0 := hI
  obtain ⟨iP, i4, iR, iE, iN, ⟨i21, i22, i23, i24, i25, i26, i27, i28⟩, iD, iW, i35, iS, iM, i90, i91, i94, i95, i96, i97, iT, iK, i104, iPn, iPc⟩ := hI
  refine g_aload_n C 0 rfl dX11_reset_0 rfl ?_
  refine g_get C 0 fd_X11_reset_7 rfl rfl rfl dX11_reset_1 rfl ?_
  refine g_bipush C (by decide) dX11_reset_4 rfl ?_
  refine g_lald C 1 rfl (by decide) (by decide) (by decide) rfl dX11_reset_6 rfl ?_
  refine g_l2i C rfl dX11_reset_7 rfl ?_
  refine g_istore_n C (lv' := [(0, vR (Q 0)), (1, vI (a 97))]) [1, 0] (by decide) rfl rfl dX11_reset_8 rfl ?_
  refine g_aload_n C 0 rfl dX11_reset_9 rfl ?_
  refine g_get C 0 fd_X11_reset_7 rfl rfl rfl dX11_reset_10 rfl ?_
  refine g_bipush C (by decide) dX11_reset_13 rfl ?_
  refine g_ldc2 C (x := (-6)) w_X11_reset_k60 (by decide) dX11_reset_15 rfl ?_
  refine g_last C 1 rfl (by decide) (by decide) (by decide) (ws' := [((Q 0), .inr (12, [vR (Q 1), vR (Q 2), vR (Q 3), vR (Q 4), vR (Q 5), vI pn, vR (Q 6), vL f0, vL f1, vL f2, vL f3, vL px, vL py, vL pb, vI rg, vI wr, vR (Q 7), vI rn, vR (Q 8), vI wn])), ((Q 1), cL E 310 (ua a 97 (-6))), ((Q 2), cL E 310 s2), ((Q 3), cL E 620 s3), ((Q 4), cZ E 2 s4), ((Q 5), cI E 80 tx), ((Q 6), cI E 24 cosT), ((Q 7), cI E 16 rr), ((Q 8), cI E 120 ww)]) rfl dX11_reset_18 rfl ?_
  refine g_iconst C dX11_reset_19 rfl ?_
  refine g_istore_n C (lv' := [(0, vR (Q 0)), (1, vI (a 97)), (2, vI 0)]) [1, 2, 0] (by decide) rfl rfl dX11_reset_20 rfl ?_
  refine g_iload_n C 2 rfl dX11_reset_21 rfl ?_
  refine g_iconst C dX11_reset_22 rfl ?_
  refine g_icmp_ge C (tgt := 42) ⟨by decide, by decide⟩ ⟨by decide, by decide⟩ dX11_reset_23 (by decide) rfl (fun c_1 => ?_) (fun c_1 => ?_)
  · exact absurd c_1 (by decide)
  refine g_aload_n C 0 rfl dX11_reset_26 rfl ?_
  refine g_get C 0 fd_X11_reset_7 rfl rfl rfl dX11_reset_27 rfl ?_
  refine g_bipush C (by decide) dX11_reset_30 rfl ?_
  refine g_iload_n C 2 rfl dX11_reset_32 rfl ?_
  refine g_iadd C (r := 98) (by decide) dX11_reset_33 rfl ?_
  refine g_lconst0 C dX11_reset_34 rfl ?_
  refine g_last C 1 rfl (by decide) (by decide) (by decide) (ws' := [((Q 0), .inr (12, [vR (Q 1), vR (Q 2), vR (Q 3), vR (Q 4), vR (Q 5), vI pn, vR (Q 6), vL f0, vL f1, vL f2, vL f3, vL px, vL py, vL pb, vI rg, vI wr, vR (Q 7), vI rn, vR (Q 8), vI wn])), ((Q 1), cL E 310 (ua (ua a 97 (-6)) 98 0)), ((Q 2), cL E 310 s2), ((Q 3), cL E 620 s3), ((Q 4), cZ E 2 s4), ((Q 5), cI E 80 tx), ((Q 6), cI E 24 cosT), ((Q 7), cI E 16 rr), ((Q 8), cI E 120 ww)]) rfl dX11_reset_35 rfl ?_
  refine g_iinc C (r := 1) (lv' := [(0, vR (Q 0)), (1, vI (a 97)), (2, vI 1)]) 2 [1, 2, 0] rfl (by decide) (by decide) rfl rfl dX11_reset_36 rfl ?_
  refine g_goto C (pc' := 21) dX11_reset_39 (by decide) ?_
  refine g_iload_n C 2 rfl dX11_reset_21 rfl ?_
  refine g_iconst C dX11_reset_22 rfl ?_
  refine g_icmp_ge C (tgt := 42) ⟨by decide, by decide⟩ ⟨by decide, by decide⟩ dX11_reset_23 (by decide) rfl (fun c_2 => ?_) (fun c_2 => ?_)
  · exact absurd c_2 (by decide)
  refine g_aload_n C 0 rfl dX11_reset_26 rfl ?_
  refine g_get C 0 fd_X11_reset_7 rfl rfl rfl dX11_reset_27 rfl ?_
  refine g_bipush C (by decide) dX11_reset_30 rfl ?_
  refine g_iload_n C 2 rfl dX11_reset_32 rfl ?_
  refine g_iadd C (r := 99) (by decide) dX11_reset_33 rfl ?_
  refine g_lconst0 C dX11_reset_34 rfl ?_
  refine g_last C 1 rfl (by decide) (by decide) (by decide) (ws' := [((Q 0), .inr (12, [vR (Q 1), vR (Q 2), vR (Q 3), vR (Q 4), vR (Q 5), vI pn, vR (Q 6), vL f0, vL f1, vL f2, vL f3, vL px, vL py, vL pb, vI rg, vI wr, vR (Q 7), vI rn, vR (Q 8), vI wn])), ((Q 1), cL E 310 (ua (ua (ua a 97 (-6)) 98 0) 99 0)), ((Q 2), cL E 310 s2), ((Q 3), cL E 620 s3), ((Q 4), cZ E 2 s4), ((Q 5), cI E 80 tx), ((Q 6), cI E 24 cosT), ((Q 7), cI E 16 rr), ((Q 8), cI E 120 ww)]) rfl dX11_reset_35 rfl ?_
  refine g_iinc C (r := 2) (lv' := [(0, vR (Q 0)), (1, vI (a 97)), (2, vI 2)]) 2 [1, 2, 0] rfl (by decide) (by decide) rfl rfl dX11_reset_36 rfl ?_
  refine g_goto C (pc' := 21) dX11_reset_39 (by decide) ?_
  refine g_iload_n C 2 rfl dX11_reset_21 rfl ?_
  refine g_iconst C dX11_reset_22 rfl ?_
  refine g_icmp_ge C (tgt := 42) ⟨by decide, by decide⟩ ⟨by decide, by decide⟩ dX11_reset_23 (by decide) rfl (fun c_3 => ?_) (fun c_3 => ?_)
  · exact absurd c_3 (by decide)
  refine g_aload_n C 0 rfl dX11_reset_26 rfl ?_
  refine g_get C 0 fd_X11_reset_7 rfl rfl rfl dX11_reset_27 rfl ?_
  refine g_bipush C (by decide) dX11_reset_30 rfl ?_
  refine g_iload_n C 2 rfl dX11_reset_32 rfl ?_
  refine g_iadd C (r := 100) (by decide) dX11_reset_33 rfl ?_
  refine g_lconst0 C dX11_reset_34 rfl ?_
  refine g_last C 1 rfl (by decide) (by decide) (by decide) (ws' := [((Q 0), .inr (12, [vR (Q 1), vR (Q 2), vR (Q 3), vR (Q 4), vR (Q 5), vI pn, vR (Q 6), vL f0, vL f1, vL f2, vL f3, vL px, vL py, vL pb, vI rg, vI wr, vR (Q 7), vI rn, vR (Q 8), vI wn])), ((Q 1), cL E 310 (ua (ua (ua (ua a 97 (-6)) 98 0) 99 0) 100 0)), ((Q 2), cL E 310 s2), ((Q 3), cL E 620 s3), ((Q 4), cZ E 2 s4), ((Q 5), cI E 80 tx), ((Q 6), cI E 24 cosT), ((Q 7), cI E 16 rr), ((Q 8), cI E 120 ww)]) rfl dX11_reset_35 rfl ?_
  refine g_iinc C (r := 3) (lv' := [(0, vR (Q 0)), (1, vI (a 97)), (2, vI 3)]) 2 [1, 2, 0] rfl (by decide) (by decide) rfl rfl dX11_reset_36 rfl ?_
  refine g_goto C (pc' := 21) dX11_reset_39 (by decide) ?_
  refine g_iload_n C 2 rfl dX11_reset_21 rfl ?_
  refine g_iconst C dX11_reset_22 rfl ?_
  refine g_icmp_ge C (tgt := 42) ⟨by decide, by decide⟩ ⟨by decide, by decide⟩ dX11_reset_23 (by decide) rfl (fun c_4 => ?_) (fun c_4 => ?_)
  · refine g_iload_n C 1 rfl dX11_reset_42 rfl ?_
    refine g_ws (ws' := [((Q 0), .inr (12, [vR (Q 1), vR (Q 2), vR (Q 3), vR (Q 4), vR (Q 5), vI pn, vR (Q 6), vL f0, vL f1, vL f2, vL f3, vL px, vL py, vL pb, vI rg, vI wr, vR (Q 7), vI rn, vR (Q 8), vI wn])), ((Q 1), cL E 310 (s_rst a)), ((Q 2), cL E 310 s2), ((Q 3), cL E 620 s3), ((Q 4), cZ E 2 s4), ((Q 5), cI E 80 tx), ((Q 6), cI E 24 cosT), ((Q 7), cI E 16 rr), ((Q 8), cI E 120 ww)]) (congrArg (fun z_ : Nat → Int64 => ([((Q 0), .inr (12, [vR (Q 1), vR (Q 2), vR (Q 3), vR (Q 4), vR (Q 5), vI pn, vR (Q 6), vL f0, vL f1, vL f2, vL f3, vL px, vL py, vL pb, vI rg, vI wr, vR (Q 7), vI rn, vR (Q 8), vI wn])), ((Q 1), .inl (E.2.1 1, 310, .inr (.inl z_))), ((Q 2), cL E 310 s2), ((Q 3), cL E 620 s3), ((Q 4), cZ E 2 s4), ((Q 5), cI E 80 tx), ((Q 6), cI E 24 cosT), ((Q 7), cI E 16 rr), ((Q 8), cI E 120 ww)] : va_W)) (show AL 310 (s_rst a) = AL 310 (ua (ua (ua (ua a 97 (-6)) 98 0) 99 0) 100 0) from AL_c (fun k_ k0_ k1_ => by rfl))) ?_
    exact g_iret C hr rfl (Nat.le_of_ble_eq_true rfl) (Nat.le_of_ble_eq_true rfl) dX11_reset_43 ⟨rfl, rfl⟩
  exact absurd c_4 (by decide)

theorem in_X11_event_X11 : ∀ w ∈ u_ws RX11 TX11 20, w ∈ wsX11_event := by decide +kernel
theorem fd_X11_event_7 : fdk wsX11_event RX11 7 "ZoneRelayModel" RX11 TX11 20 0 := ⟨in_X11_event_X11, by decide +kernel, by decide, rfl⟩
theorem w_X11_event_k179 : Cond.constantLong RX11 179 (60) ∈ wsX11_event := by decide +kernel
abbrev rm_M_event : Room := { frames := 1, cells := 0, slots := 0, locals := 25 }
set_option maxHeartbeats 1000000 in
set_option maxRecDepth 100000 in
theorem M_event (l : Launch) (E : Ev) (Q : Nat → Nat) (pn f0 f1 f2 f3 px py pb rg wr rn wn : Int) (a s2 s3 s4 tx rr ww : Int → Int) (B e w : Int) (hI : Inv a B) (hB : B ≤ 2900000) (b_e : bi e) (b_w : bi w) : Mc l yX11_event wsX11_event rm_M_event E [vR (Q 0), vI e, vI w] [((Q 0), .inr (12, [vR (Q 1), vR (Q 2), vR (Q 3), vR (Q 4), vR (Q 5), vI pn, vR (Q 6), vL f0, vL f1, vL f2, vL f3, vL px, vL py, vL pb, vI rg, vI wr, vR (Q 7), vI rn, vR (Q 8), vI wn])), ((Q 1), cL E 310 a), ((Q 2), cL E 310 s2), ((Q 3), cL E 620 s3), ((Q 4), cZ E 2 s4), ((Q 5), cI E 80 tx), ((Q 6), cI E 24 cosT), ((Q 7), cI E 16 rr), ((Q 8), cI E 120 ww)] 0 0 (fun v9 w9 => v9 = some (vI (q_event a e w)) ∧ w9 = [((Q 0), .inr (12, [vR (Q 1), vR (Q 2), vR (Q 3), vR (Q 4), vR (Q 5), vI pn, vR (Q 6), vL f0, vL f1, vL f2, vL f3, vL px, vL py, vL pb, vI rg, vI wr, vR (Q 7), vI rn, vR (Q 8), vI wn])), ((Q 1), cL E 310 a), ((Q 2), cL E 310 s2), ((Q 3), cL E 620 s3), ((Q 4), cZ E 2 s4), ((Q 5), cI E 80 tx), ((Q 6), cI E 24 cosT), ((Q 7), cI E 16 rr), ((Q 8), cI E 120 ww)]) := by
  refine Mc.intro (cc := cX11_event) (maxL := 4) (ret := (some .int)) (lv0 := [(0, vR (Q 0)), (1, vI e), (2, vI w)]) (by decide +kernel) rfl rfl (Nat.le_of_ble_eq_true rfl) ?_
  intro p9 e9 s9 m9 args9 below9 meth9 c9 A9 C hr hmn
  have C : Cx p9 s9 m9 args9 meth9 c9 E A9 4 cX11_event wsX11_event RX11 := C
  have hI0 := hI
  obtain ⟨iP, i4, iR, iE, iN, ⟨i21, i22, i23, i24, i25, i26, i27, i28⟩, iD, iW, i35, iS, iM, i90, i91, i94, i95, i96, i97, iT, iK, i104, iPn, iPc⟩ := hI
  refine g_iload_n C 2 rfl dX11_event_0 rfl ?_
  refine g_i2l C (b_w) rfl dX11_event_1 rfl ?_
  refine g_lconst0 C dX11_event_2 rfl ?_
  refine g_lconst1 C dX11_event_3 rfl ?_
  refine g_callS C (As := [vL w, vL 0, vL 1]) (wc := []) (wr := [((Q 0), .inr (12, [vR (Q 1), vR (Q 2), vR (Q 3), vR (Q 4), vR (Q 5), vI pn, vR (Q 6), vL f0, vL f1, vL f2, vL f3, vL px, vL py, vL pb, vI rg, vI wr, vR (Q 7), vI rn, vR (Q 8), vI wn])), ((Q 1), cL E 310 a), ((Q 2), cL E 310 s2), ((Q 3), cL E 620 s3), ((Q 4), cZ E 2 s4), ((Q 5), cI E 80 tx), ((Q 6), cI E 24 cosT), ((Q 7), cI E 16 rr), ((Q 8), cI E 120 ww)]) (st := []) gX11_event_X11_in rfl (K_m_in l E w 0 1 ⟨by omega, by omega⟩ ⟨by omega, by omega⟩ ⟨by omega, by omega⟩) hyd_X11_in rfl [] [0, 1, 2, 3, 4, 5, 6, 7, 8] rfl rfl rfl rfl rfl (by decide) ⟨rfl, rfl⟩ ⟨Nat.le_of_ble_eq_true rfl, Nat.le_of_ble_eq_true rfl, Nat.le_of_ble_eq_true rfl, Nat.le_of_ble_eq_true rfl⟩ (Nat.le_of_ble_eq_true rfl) dX11_event_4 (rfl : _ = 0) (rfl : _ = 0) rfl ?_
  rintro _ _ ⟨rfl, rfl⟩
  refine g_is (ws' := [((Q 0), .inr (12, [vR (Q 1), vR (Q 2), vR (Q 3), vR (Q 4), vR (Q 5), vI pn, vR (Q 6), vL f0, vL f1, vL f2, vL f3, vL px, vL py, vL pb, vI rg, vI wr, vR (Q 7), vI rn, vR (Q 8), vI wn])), ((Q 1), cL E 310 a), ((Q 2), cL E 310 s2), ((Q 3), cL E 620 s3), ((Q 4), cZ E 2 s4), ((Q 5), cI E 80 tx), ((Q 6), cI E 24 cosT), ((Q 7), cI E 16 rr), ((Q 8), cI E 120 ww)]) (st' := [vI (bP (0 ≤ w ∧ w ≤ 1))]) rfl rfl ?_
  refine g_ifb_ne C (tgt := 13) dX11_event_7 (by decide) rfl (fun c_1 => ?_) (fun c_1 => ?_)
  · refine g_iload_n C 1 rfl dX11_event_13 rfl ?_
    refine g_i2l C (b_e) rfl dX11_event_14 rfl ?_
    refine g_lconst0 C dX11_event_15 rfl ?_
    refine g_aload_n C 0 rfl dX11_event_16 rfl ?_
    refine g_get C 0 fd_X11_event_7 rfl rfl rfl dX11_event_17 rfl ?_
    refine g_bipush C (by decide) dX11_event_20 rfl ?_
    refine g_lald C 1 rfl (by decide) (by decide) (by decide) rfl dX11_event_22 rfl ?_
    refine g_lconst1 C dX11_event_23 rfl ?_
    refine g_lsub C rfl dX11_event_24 rfl ?_
    refine g_callS C (As := [vL e, vL 0, vL ((a 104) - 1)]) (wc := []) (wr := [((Q 0), .inr (12, [vR (Q 1), vR (Q 2), vR (Q 3), vR (Q 4), vR (Q 5), vI pn, vR (Q 6), vL f0, vL f1, vL f2, vL f3, vL px, vL py, vL pb, vI rg, vI wr, vR (Q 7), vI rn, vR (Q 8), vI wn])), ((Q 1), cL E 310 a), ((Q 2), cL E 310 s2), ((Q 3), cL E 620 s3), ((Q 4), cZ E 2 s4), ((Q 5), cI E 80 tx), ((Q 6), cI E 24 cosT), ((Q 7), cI E 16 rr), ((Q 8), cI E 120 ww)]) (st := []) gX11_event_X11_in rfl (K_m_in l E e 0 ((a 104) - 1) ⟨by omega, by omega⟩ ⟨by omega, by omega⟩ ⟨by omega, by omega⟩) hyd_X11_in rfl [] [0, 1, 2, 3, 4, 5, 6, 7, 8] rfl rfl rfl rfl rfl (by decide) ⟨rfl, rfl⟩ ⟨Nat.le_of_ble_eq_true rfl, Nat.le_of_ble_eq_true rfl, Nat.le_of_ble_eq_true rfl, Nat.le_of_ble_eq_true rfl⟩ (Nat.le_of_ble_eq_true rfl) dX11_event_25 (rfl : _ = 0) (rfl : _ = 0) rfl ?_
    rintro _ _ ⟨rfl, rfl⟩
    refine g_is (ws' := [((Q 0), .inr (12, [vR (Q 1), vR (Q 2), vR (Q 3), vR (Q 4), vR (Q 5), vI pn, vR (Q 6), vL f0, vL f1, vL f2, vL f3, vL px, vL py, vL pb, vI rg, vI wr, vR (Q 7), vI rn, vR (Q 8), vI wn])), ((Q 1), cL E 310 a), ((Q 2), cL E 310 s2), ((Q 3), cL E 620 s3), ((Q 4), cZ E 2 s4), ((Q 5), cI E 80 tx), ((Q 6), cI E 24 cosT), ((Q 7), cI E 16 rr), ((Q 8), cI E 120 ww)]) (st' := [vI (bP (0 ≤ e ∧ e ≤ ((a 104) - 1)))]) rfl rfl ?_
    refine g_ifb_eq C (tgt := 52) dX11_event_28 (by decide) rfl (fun c_2 => ?_) (fun c_2 => ?_)
    · refine g_iconst C dX11_event_52 rfl ?_
      refine g_istore_n C (lv' := [(0, vR (Q 0)), (1, vI e), (2, vI w), (3, vI 0)]) [1, 2, 3, 0] (by decide) rfl rfl dX11_event_53 rfl ?_
      refine g_iload_n C 3 rfl dX11_event_54 rfl ?_
      refine g_if_eq C (tgt := 78) ⟨by decide, by decide⟩ dX11_event_55 (by decide) rfl (fun c_3 => ?_) (fun c_3 => ?_)
      · refine g_bipush C (by decide) dX11_event_78 rfl ?_
        refine g_top (v' := vI (q_event a e w)) (congrArg (fun z_ : Int => vI z_) (show (q_event a e w) = (-6) by unfold q_event; (repeat' split) <;> first | rfl | omega | contradiction)) ?_
        exact g_iret C hr rfl (Nat.le_of_ble_eq_true rfl) (Nat.le_of_ble_eq_true rfl) dX11_event_80 ⟨rfl, rfl⟩
      exact absurd c_3 (by decide)
    refine g_iload_n C 1 rfl dX11_event_31 rfl ?_
    refine g_i2l C (b_e) rfl dX11_event_32 rfl ?_
    refine g_aload_n C 0 rfl dX11_event_33 rfl ?_
    refine g_get C 0 fd_X11_event_7 rfl rfl rfl dX11_event_34 rfl ?_
    refine g_bipush C (by decide) dX11_event_37 rfl ?_
    refine g_lald C 1 rfl (by decide) (by decide) (by decide) rfl dX11_event_39 rfl ?_
    refine g_ldc2 C (x := 60) w_X11_event_k179 (by decide) dX11_event_40 rfl ?_
    refine g_lsub C rfl dX11_event_43 rfl ?_
    refine g_lcmp_lt C ⟨by omega, by omega⟩ ⟨by omega, by omega⟩ dX11_event_44 rfl (tgt := 52) dX11_event_45 (by decide) rfl (fun c_4 => ?_) (fun c_4 => ?_)
    · refine g_iconst C dX11_event_52 rfl ?_
      refine g_istore_n C (lv' := [(0, vR (Q 0)), (1, vI e), (2, vI w), (3, vI 0)]) [1, 2, 3, 0] (by decide) rfl rfl dX11_event_53 rfl ?_
      refine g_iload_n C 3 rfl dX11_event_54 rfl ?_
      refine g_if_eq C (tgt := 78) ⟨by decide, by decide⟩ dX11_event_55 (by decide) rfl (fun c_5 => ?_) (fun c_5 => ?_)
      · refine g_bipush C (by decide) dX11_event_78 rfl ?_
        refine g_top (v' := vI (q_event a e w)) (congrArg (fun z_ : Int => vI z_) (show (q_event a e w) = (-6) by unfold q_event; (repeat' split) <;> first | rfl | omega | contradiction)) ?_
        exact g_iret C hr rfl (Nat.le_of_ble_eq_true rfl) (Nat.le_of_ble_eq_true rfl) dX11_event_80 ⟨rfl, rfl⟩
      exact absurd c_5 (by decide)
    refine g_iconst C dX11_event_48 rfl ?_
    refine g_goto C (pc' := 53) dX11_event_49 (by decide) ?_
    refine g_istore_n C (lv' := [(0, vR (Q 0)), (1, vI e), (2, vI w), (3, vI 1)]) [1, 2, 3, 0] (by decide) rfl rfl dX11_event_53 rfl ?_
    refine g_iload_n C 3 rfl dX11_event_54 rfl ?_
    refine g_if_eq C (tgt := 78) ⟨by decide, by decide⟩ dX11_event_55 (by decide) rfl (fun c_6 => ?_) (fun c_6 => ?_)
    · exact absurd c_6 (by decide)
    have htr := tmod_r (a := e) (b := 60) (by omega) (by decide)
    refine g_aload_n C 0 rfl dX11_event_58 rfl ?_
    refine g_get C 0 fd_X11_event_7 rfl rfl rfl dX11_event_59 rfl ?_
    refine g_bipush C (by decide) dX11_event_62 rfl ?_
    refine g_iconst C dX11_event_64 rfl ?_
    refine g_iload_n C 1 rfl dX11_event_65 rfl ?_
    refine g_bipush C (by decide) dX11_event_66 rfl ?_
    refine g_irem C (b_e) ⟨by decide, by decide⟩ (by decide) rfl dX11_event_68 rfl ?_
    refine g_imul C rfl dX11_event_69 rfl ?_
    refine g_iadd C rfl dX11_event_70 rfl ?_
    refine g_iload_n C 2 rfl dX11_event_71 rfl ?_
    refine g_iadd C rfl dX11_event_72 rfl ?_
    refine g_lald C 1 rfl (by omega) (by omega) (by decide) rfl dX11_event_73 rfl ?_
    refine g_l2i C rfl dX11_event_74 rfl ?_
    refine g_goto C (pc' := 80) dX11_event_75 (by decide) ?_
    refine g_top (v' := vI (q_event a e w)) (congrArg (fun z_ : Int => vI z_) (show (q_event a e w) = (a ((105 + (2 * (Int.tmod e 60))) + w)) by unfold q_event; (repeat' split) <;> first | rfl | omega | contradiction)) ?_
    exact g_iret C hr rfl (Nat.le_of_ble_eq_true rfl) (Nat.le_of_ble_eq_true rfl) dX11_event_80 ⟨rfl, rfl⟩
  refine g_bipush C (by decide) dX11_event_10 rfl ?_
  refine g_top (v' := vI (q_event a e w)) (congrArg (fun z_ : Int => vI z_) (show (q_event a e w) = (-2) by unfold q_event; (repeat' split) <;> first | rfl | omega | contradiction)) ?_
  exact g_iret C hr rfl (Nat.le_of_ble_eq_true rfl) (Nat.le_of_ble_eq_true rfl) dX11_event_12 ⟨rfl, rfl⟩

theorem in_X11_covered_X11 : ∀ w ∈ u_ws RX11 TX11 20, w ∈ wsX11_covered := by decide +kernel
theorem fd_X11_covered_140 : fdk wsX11_covered RX11 140 "ZoneRelayModel" RX11 TX11 20 7 := ⟨in_X11_covered_X11, by decide +kernel, by decide, rfl⟩
theorem fd_X11_covered_144 : fdk wsX11_covered RX11 144 "ZoneRelayModel" RX11 TX11 20 8 := ⟨in_X11_covered_X11, by decide +kernel, by decide, rfl⟩
theorem fd_X11_covered_147 : fdk wsX11_covered RX11 147 "ZoneRelayModel" RX11 TX11 20 9 := ⟨in_X11_covered_X11, by decide +kernel, by decide, rfl⟩
theorem fd_X11_covered_150 : fdk wsX11_covered RX11 150 "ZoneRelayModel" RX11 TX11 20 10 := ⟨in_X11_covered_X11, by decide +kernel, by decide, rfl⟩
abbrev rm_K_m_covered : Room := { frames := 6, cells := 0, slots := 0, locals := 160 }
set_option maxHeartbeats 1000000 in
set_option maxRecDepth 100000 in
theorem K_m_covered (l : Launch) (E : Ev) (Q : Nat → Nat) (pn f0 f1 f2 f3 px py pb rg wr rn wn : Int) (a s2 s3 s4 tx rr ww : Int → Int) (B : Int) (hI : Inv a B) (hB : B ≤ 2900000) (c0 : cb f0) (c1 : cb f1) (c2 : cb f2) (c3 : cb f3) : Mc l yX11_covered wsX11_covered rm_K_m_covered E [vR (Q 0)] [((Q 0), .inr (12, [vR (Q 1), vR (Q 2), vR (Q 3), vR (Q 4), vR (Q 5), vI pn, vR (Q 6), vL f0, vL f1, vL f2, vL f3, vL px, vL py, vL pb, vI rg, vI wr, vR (Q 7), vI rn, vR (Q 8), vI wn])), ((Q 1), cL E 310 a), ((Q 2), cL E 310 s2), ((Q 3), cL E 620 s3), ((Q 4), cZ E 2 s4), ((Q 5), cI E 80 tx), ((Q 6), cI E 24 cosT), ((Q 7), cI E 16 rr), ((Q 8), cI E 120 ww)] 0 0 (fun v9 w9 => ∃ (x2 : Int) (y2 : Int) (d2 : Int), v9 = some (vI (cov a f0 f1 f2 f3)) ∧ w9 = [((Q 0), .inr (12, [vR (Q 1), vR (Q 2), vR (Q 3), vR (Q 4), vR (Q 5), vI pn, vR (Q 6), vL f0, vL f1, vL f2, vL f3, vL x2, vL y2, vL d2, vI rg, vI wr, vR (Q 7), vI rn, vR (Q 8), vI wn])), ((Q 1), cL E 310 a), ((Q 2), cL E 310 s2), ((Q 3), cL E 620 s3), ((Q 4), cZ E 2 s4), ((Q 5), cI E 80 tx), ((Q 6), cI E 24 cosT), ((Q 7), cI E 16 rr), ((Q 8), cI E 120 ww)]) := by
  refine Mc.intro (cc := cX11_covered) (maxL := 4) (ret := (some .int)) (lv0 := [(0, vR (Q 0))]) (by decide +kernel) rfl rfl (Nat.le_of_ble_eq_true rfl) ?_
  intro p9 e9 s9 m9 args9 below9 meth9 c9 A9 C hr hmn
  have C : Cx p9 s9 m9 args9 meth9 c9 E A9 4 cX11_covered wsX11_covered RX11 := C
  have hI0 := hI
  obtain ⟨iP, i4, iR, iE, iN, ⟨i21, i22, i23, i24, i25, i26, i27, i28⟩, iD, iW, i35, iS, iM, i90, i91, i94, i95, i96, i97, iT, iK, i104, iPn, iPc⟩ := hI
  have m1 := mul_b (x := f0) (y := f2) (A := 20000) (B := 20000) c0 c2
  have m2 := mul_b (x := f1) (y := f3) (A := 20000) (B := 20000) c1 c3
  have m3 := mul_b (x := f1) (y := f2) (A := 20000) (B := 20000) c1 c2
  have m4 := mul_b (x := f0) (y := f3) (A := 20000) (B := 20000) c0 c3
  have m5 := mul_b (x := f2) (y := f2) (A := 20000) (B := 20000) c2 c2
  have m6 := mul_b (x := f3) (y := f3) (A := 20000) (B := 20000) c3 c3
  have m7 := sq_0 f2
  have m8 := sq_0 f3
  refine g_iconst C dX11_covered_0 rfl ?_
  refine g_istore_n C (lv' := [(0, vR (Q 0)), (1, vI 0)]) [1, 0] (by decide) rfl rfl dX11_covered_1 rfl ?_
  refine g_aload_n C 0 rfl dX11_covered_2 rfl ?_
  refine g_aload_n C 0 rfl dX11_covered_3 rfl ?_
  refine g_get C 0 fd_X11_covered_140 rfl rfl rfl dX11_covered_4 rfl ?_
  refine g_aload_n C 0 rfl dX11_covered_7 rfl ?_
  refine g_get C 0 fd_X11_covered_144 rfl rfl rfl dX11_covered_8 rfl ?_
  refine g_aload_n C 0 rfl dX11_covered_11 rfl ?_
  refine g_get C 0 fd_X11_covered_147 rfl rfl rfl dX11_covered_12 rfl ?_
  refine g_aload_n C 0 rfl dX11_covered_15 rfl ?_
  refine g_get C 0 fd_X11_covered_150 rfl rfl rfl dX11_covered_16 rfl ?_
  refine g_callV C (b := (Q 0)) (As := [vL f0, vL f1, vL f2, vL f3]) (wc := [((Q 0), .inr (12, [vR (Q 1), vR (Q 2), vR (Q 3), vR (Q 4), vR (Q 5), vI pn, vR (Q 6), vL f0, vL f1, vL f2, vL f3, vL px, vL py, vL pb, vI rg, vI wr, vR (Q 7), vI rn, vR (Q 8), vI wn])), ((Q 1), cL E 310 a)]) (wr := [((Q 2), cL E 310 s2), ((Q 3), cL E 620 s3), ((Q 4), cZ E 2 s4), ((Q 5), cI E 80 tx), ((Q 6), cI E 24 cosT), ((Q 7), cI E 16 rr), ((Q 8), cI E 120 ww)]) (st := []) gX11_covered_X11_laysPoint (q9 := 0) (ci := 12) rfl rfl rfl (K_m_lays l E Q pn f0 f1 f2 f3 px py pb rg wr rn wn a f0 f1 f2 f3 ⟨by omega, by omega⟩ ⟨by omega, by omega⟩ ⟨by omega, by omega⟩ ⟨by omega, by omega⟩ ⟨by omega, by omega⟩) hyd_X11_laysPoint rfl [0, 1] [2, 3, 4, 5, 6, 7, 8] rfl rfl rfl rfl rfl (by decide) ⟨rfl, rfl⟩ ⟨Nat.le_of_ble_eq_true rfl, Nat.le_of_ble_eq_true rfl, Nat.le_of_ble_eq_true rfl, Nat.le_of_ble_eq_true rfl⟩ (Nat.le_of_ble_eq_true rfl) dX11_covered_19 (rfl : _ = 0) (rfl : _ = 0) rfl ?_
  rintro _ _ ⟨rfl, rfl⟩
  refine g_is (ws' := [((Q 2), cL E 310 s2), ((Q 3), cL E 620 s3), ((Q 4), cZ E 2 s4), ((Q 5), cI E 80 tx), ((Q 6), cI E 24 cosT), ((Q 7), cI E 16 rr), ((Q 8), cI E 120 ww), ((Q 0), .inr (12, [vR (Q 1), vR (Q 2), vR (Q 3), vR (Q 4), vR (Q 5), vI pn, vR (Q 6), vL f0, vL f1, vL f2, vL f3, vL (1000 * ((f0 * f2) + (f1 * f3))), vL (1000 * ((f1 * f2) - (f0 * f3))), vL ((f2 * f2) + (f3 * f3)), vI rg, vI wr, vR (Q 7), vI rn, vR (Q 8), vI wn])), ((Q 1), cL E 310 a)]) (st' := [vI (bP (a 21 * a 21 ≤ f2 * f2 + f3 * f3))]) rfl rfl ?_
  refine g_sub (ws' := [((Q 0), .inr (12, [vR (Q 1), vR (Q 2), vR (Q 3), vR (Q 4), vR (Q 5), vI pn, vR (Q 6), vL f0, vL f1, vL f2, vL f3, vL (1000 * ((f0 * f2) + (f1 * f3))), vL (1000 * ((f1 * f2) - (f0 * f3))), vL ((f2 * f2) + (f3 * f3)), vI rg, vI wr, vR (Q 7), vI rn, vR (Q 8), vI wn])), ((Q 1), cL E 310 a), ((Q 2), cL E 310 s2), ((Q 3), cL E 620 s3), ((Q 4), cZ E 2 s4), ((Q 5), cI E 80 tx), ((Q 6), cI E 24 cosT), ((Q 7), cI E 16 rr), ((Q 8), cI E 120 ww)]) [7, 8, 0, 1, 2, 3, 4, 5, 6] rfl rfl rfl ?_
  refine g_istore_n C (lv' := [(0, vR (Q 0)), (1, vI 0), (2, vI (bP (a 21 * a 21 ≤ f2 * f2 + f3 * f3)))]) [1, 2, 0] (by decide) rfl rfl dX11_covered_22 rfl ?_
  refine g_iconst C dX11_covered_23 rfl ?_
  refine g_istore_n C (lv' := [(0, vR (Q 0)), (1, vI 0), (2, vI (bP (a 21 * a 21 ≤ f2 * f2 + f3 * f3))), (3, vI 0)]) [1, 2, 3, 0] (by decide) rfl rfl dX11_covered_24 rfl ?_
  refine g_iload_n C 3 rfl dX11_covered_25 rfl ?_
  refine g_iconst C dX11_covered_26 rfl ?_
  refine g_icmp_ge C (tgt := 58) ⟨by decide, by decide⟩ ⟨by decide, by decide⟩ dX11_covered_27 (by decide) rfl (fun c_1 => ?_) (fun c_1 => ?_)
  · exact absurd c_1 (by decide)
  refine g_iload_n C 2 rfl dX11_covered_30 rfl ?_
  refine g_ifb_eq C (tgt := 58) dX11_covered_31 (by decide) rfl (fun c_2 => ?_) (fun c_2 => ?_)
  · refine g_iload_n C 1 rfl dX11_covered_58 rfl ?_
    refine g_top (v' := vI (cov a f0 f1 f2 f3)) (congrArg (fun z_ : Int => vI z_) (show (cov a f0 f1 f2 f3) = 0 by unfold cov cv0 cvX cvY cvD b01; (repeat' split) <;> first | rfl | omega | contradiction)) ?_
    exact g_iret C hr rfl (Nat.le_of_ble_eq_true rfl) (Nat.le_of_ble_eq_true rfl) dX11_covered_59 ⟨(1000 * ((f0 * f2) + (f1 * f3))), (1000 * ((f1 * f2) - (f0 * f3))), ((f2 * f2) + (f3 * f3)), rfl, rfl⟩
  refine g_iload_n C 1 rfl dX11_covered_34 rfl ?_
  refine g_aload_n C 0 rfl dX11_covered_35 rfl ?_
  refine g_iload_n C 3 rfl dX11_covered_36 rfl ?_
  refine g_callV C (b := (Q 0)) (As := [vI 0]) (wc := [((Q 0), .inr (12, [vR (Q 1), vR (Q 2), vR (Q 3), vR (Q 4), vR (Q 5), vI pn, vR (Q 6), vL f0, vL f1, vL f2, vL f3, vL (1000 * ((f0 * f2) + (f1 * f3))), vL (1000 * ((f1 * f2) - (f0 * f3))), vL ((f2 * f2) + (f3 * f3)), vI rg, vI wr, vR (Q 7), vI rn, vR (Q 8), vI wn])), ((Q 1), cL E 310 a)]) (wr := [((Q 2), cL E 310 s2), ((Q 3), cL E 620 s3), ((Q 4), cZ E 2 s4), ((Q 5), cI E 80 tx), ((Q 6), cI E 24 cosT), ((Q 7), cI E 16 rr), ((Q 8), cI E 120 ww)]) (st := [vI 0]) gX11_covered_X11_isInside (q9 := 0) (ci := 12) rfl rfl rfl (K_m_inside l E Q pn f0 f1 f2 f3 (1000 * ((f0 * f2) + (f1 * f3))) (1000 * ((f1 * f2) - (f0 * f3))) ((f2 * f2) + (f3 * f3)) rg wr rn wn a 0 ⟨by decide, by decide⟩ iPn iPc ⟨by omega, by omega⟩ ⟨by omega, by omega⟩ ⟨by omega, by omega⟩) hyd_X11_isInside rfl [0, 1] [2, 3, 4, 5, 6, 7, 8] rfl rfl rfl rfl rfl (by decide) ⟨rfl, rfl⟩ ⟨Nat.le_of_ble_eq_true rfl, Nat.le_of_ble_eq_true rfl, Nat.le_of_ble_eq_true rfl, Nat.le_of_ble_eq_true rfl⟩ (Nat.le_of_ble_eq_true rfl) dX11_covered_37 (rfl : _ = 0) (rfl : _ = 0) rfl ?_
  rintro _ _ ⟨rfl, rfl⟩
  refine g_is (ws' := [((Q 2), cL E 310 s2), ((Q 3), cL E 620 s3), ((Q 4), cZ E 2 s4), ((Q 5), cI E 80 tx), ((Q 6), cI E 24 cosT), ((Q 7), cI E 16 rr), ((Q 8), cI E 120 ww), ((Q 0), .inr (12, [vR (Q 1), vR (Q 2), vR (Q 3), vR (Q 4), vR (Q 5), vI pn, vR (Q 6), vL f0, vL f1, vL f2, vL f3, vL (1000 * ((f0 * f2) + (f1 * f3))), vL (1000 * ((f1 * f2) - (f0 * f3))), vL ((f2 * f2) + (f3 * f3)), vI rg, vI wr, vR (Q 7), vI rn, vR (Q 8), vI wn])), ((Q 1), cL E 310 a)]) (st' := [vI (bP (hldA a 0 (1000 * ((f0 * f2) + (f1 * f3))) (1000 * ((f1 * f2) - (f0 * f3))) ((f2 * f2) + (f3 * f3)) = true)), vI 0]) rfl rfl ?_
  refine g_sub (ws' := [((Q 0), .inr (12, [vR (Q 1), vR (Q 2), vR (Q 3), vR (Q 4), vR (Q 5), vI pn, vR (Q 6), vL f0, vL f1, vL f2, vL f3, vL (1000 * ((f0 * f2) + (f1 * f3))), vL (1000 * ((f1 * f2) - (f0 * f3))), vL ((f2 * f2) + (f3 * f3)), vI rg, vI wr, vR (Q 7), vI rn, vR (Q 8), vI wn])), ((Q 1), cL E 310 a), ((Q 2), cL E 310 s2), ((Q 3), cL E 620 s3), ((Q 4), cZ E 2 s4), ((Q 5), cI E 80 tx), ((Q 6), cI E 24 cosT), ((Q 7), cI E 16 rr), ((Q 8), cI E 120 ww)]) [7, 8, 0, 1, 2, 3, 4, 5, 6] rfl rfl rfl ?_
  refine g_ifb_eq C (tgt := 49) dX11_covered_40 (by decide) rfl (fun c_3 => ?_) (fun c_3 => ?_)
  · refine g_iconst C dX11_covered_49 rfl ?_
    refine g_ior C (z := I32 0) (by decide +kernel) dX11_covered_50 rfl ?_
    refine g_istore_n C (lv' := [(0, vR (Q 0)), (1, vI 0), (2, vI (bP (a 21 * a 21 ≤ f2 * f2 + f3 * f3))), (3, vI 0)]) [1, 0, 2, 3] (by decide) rfl rfl dX11_covered_51 rfl ?_
    refine g_iinc C (r := 1) (lv' := [(0, vR (Q 0)), (1, vI 0), (2, vI (bP (a 21 * a 21 ≤ f2 * f2 + f3 * f3))), (3, vI 1)]) 3 [1, 2, 3, 0] rfl (by decide) (by decide) rfl rfl dX11_covered_52 rfl ?_
    refine g_goto C (pc' := 25) dX11_covered_55 (by decide) ?_
    refine g_iload_n C 3 rfl dX11_covered_25 rfl ?_
    refine g_iconst C dX11_covered_26 rfl ?_
    refine g_icmp_ge C (tgt := 58) ⟨by decide, by decide⟩ ⟨by decide, by decide⟩ dX11_covered_27 (by decide) rfl (fun c_4 => ?_) (fun c_4 => ?_)
    · exact absurd c_4 (by decide)
    refine g_iload_n C 2 rfl dX11_covered_30 rfl ?_
    refine g_ifb_eq C (tgt := 58) dX11_covered_31 (by decide) rfl (fun c_5 => ?_) (fun c_5 => ?_)
    · refine g_iload_n C 1 rfl dX11_covered_58 rfl ?_
      refine g_top (v' := vI (cov a f0 f1 f2 f3)) (congrArg (fun z_ : Int => vI z_) (show (cov a f0 f1 f2 f3) = 0 by unfold cov cv0 cvX cvY cvD b01; (repeat' split) <;> first | rfl | omega | contradiction)) ?_
      exact g_iret C hr rfl (Nat.le_of_ble_eq_true rfl) (Nat.le_of_ble_eq_true rfl) dX11_covered_59 ⟨(1000 * ((f0 * f2) + (f1 * f3))), (1000 * ((f1 * f2) - (f0 * f3))), ((f2 * f2) + (f3 * f3)), rfl, rfl⟩
    refine g_iload_n C 1 rfl dX11_covered_34 rfl ?_
    refine g_aload_n C 0 rfl dX11_covered_35 rfl ?_
    refine g_iload_n C 3 rfl dX11_covered_36 rfl ?_
    refine g_callV C (b := (Q 0)) (As := [vI 1]) (wc := [((Q 0), .inr (12, [vR (Q 1), vR (Q 2), vR (Q 3), vR (Q 4), vR (Q 5), vI pn, vR (Q 6), vL f0, vL f1, vL f2, vL f3, vL (1000 * ((f0 * f2) + (f1 * f3))), vL (1000 * ((f1 * f2) - (f0 * f3))), vL ((f2 * f2) + (f3 * f3)), vI rg, vI wr, vR (Q 7), vI rn, vR (Q 8), vI wn])), ((Q 1), cL E 310 a)]) (wr := [((Q 2), cL E 310 s2), ((Q 3), cL E 620 s3), ((Q 4), cZ E 2 s4), ((Q 5), cI E 80 tx), ((Q 6), cI E 24 cosT), ((Q 7), cI E 16 rr), ((Q 8), cI E 120 ww)]) (st := [vI 0]) gX11_covered_X11_isInside (q9 := 0) (ci := 12) rfl rfl rfl (K_m_inside l E Q pn f0 f1 f2 f3 (1000 * ((f0 * f2) + (f1 * f3))) (1000 * ((f1 * f2) - (f0 * f3))) ((f2 * f2) + (f3 * f3)) rg wr rn wn a 1 ⟨by decide, by decide⟩ iPn iPc ⟨by omega, by omega⟩ ⟨by omega, by omega⟩ ⟨by omega, by omega⟩) hyd_X11_isInside rfl [0, 1] [2, 3, 4, 5, 6, 7, 8] rfl rfl rfl rfl rfl (by decide) ⟨rfl, rfl⟩ ⟨Nat.le_of_ble_eq_true rfl, Nat.le_of_ble_eq_true rfl, Nat.le_of_ble_eq_true rfl, Nat.le_of_ble_eq_true rfl⟩ (Nat.le_of_ble_eq_true rfl) dX11_covered_37 (rfl : _ = 0) (rfl : _ = 0) rfl ?_
    rintro _ _ ⟨rfl, rfl⟩
    refine g_is (ws' := [((Q 2), cL E 310 s2), ((Q 3), cL E 620 s3), ((Q 4), cZ E 2 s4), ((Q 5), cI E 80 tx), ((Q 6), cI E 24 cosT), ((Q 7), cI E 16 rr), ((Q 8), cI E 120 ww), ((Q 0), .inr (12, [vR (Q 1), vR (Q 2), vR (Q 3), vR (Q 4), vR (Q 5), vI pn, vR (Q 6), vL f0, vL f1, vL f2, vL f3, vL (1000 * ((f0 * f2) + (f1 * f3))), vL (1000 * ((f1 * f2) - (f0 * f3))), vL ((f2 * f2) + (f3 * f3)), vI rg, vI wr, vR (Q 7), vI rn, vR (Q 8), vI wn])), ((Q 1), cL E 310 a)]) (st' := [vI (bP (hldA a 1 (1000 * ((f0 * f2) + (f1 * f3))) (1000 * ((f1 * f2) - (f0 * f3))) ((f2 * f2) + (f3 * f3)) = true)), vI 0]) rfl rfl ?_
    refine g_sub (ws' := [((Q 0), .inr (12, [vR (Q 1), vR (Q 2), vR (Q 3), vR (Q 4), vR (Q 5), vI pn, vR (Q 6), vL f0, vL f1, vL f2, vL f3, vL (1000 * ((f0 * f2) + (f1 * f3))), vL (1000 * ((f1 * f2) - (f0 * f3))), vL ((f2 * f2) + (f3 * f3)), vI rg, vI wr, vR (Q 7), vI rn, vR (Q 8), vI wn])), ((Q 1), cL E 310 a), ((Q 2), cL E 310 s2), ((Q 3), cL E 620 s3), ((Q 4), cZ E 2 s4), ((Q 5), cI E 80 tx), ((Q 6), cI E 24 cosT), ((Q 7), cI E 16 rr), ((Q 8), cI E 120 ww)]) [7, 8, 0, 1, 2, 3, 4, 5, 6] rfl rfl rfl ?_
    refine g_ifb_eq C (tgt := 49) dX11_covered_40 (by decide) rfl (fun c_6 => ?_) (fun c_6 => ?_)
    · refine g_iconst C dX11_covered_49 rfl ?_
      refine g_ior C (z := I32 0) (by decide +kernel) dX11_covered_50 rfl ?_
      refine g_istore_n C (lv' := [(0, vR (Q 0)), (1, vI 0), (2, vI (bP (a 21 * a 21 ≤ f2 * f2 + f3 * f3))), (3, vI 1)]) [1, 0, 2, 3] (by decide) rfl rfl dX11_covered_51 rfl ?_
      refine g_iinc C (r := 2) (lv' := [(0, vR (Q 0)), (1, vI 0), (2, vI (bP (a 21 * a 21 ≤ f2 * f2 + f3 * f3))), (3, vI 2)]) 3 [1, 2, 3, 0] rfl (by decide) (by decide) rfl rfl dX11_covered_52 rfl ?_
      refine g_goto C (pc' := 25) dX11_covered_55 (by decide) ?_
      refine g_iload_n C 3 rfl dX11_covered_25 rfl ?_
      refine g_iconst C dX11_covered_26 rfl ?_
      refine g_icmp_ge C (tgt := 58) ⟨by decide, by decide⟩ ⟨by decide, by decide⟩ dX11_covered_27 (by decide) rfl (fun c_7 => ?_) (fun c_7 => ?_)
      · exact absurd c_7 (by decide)
      refine g_iload_n C 2 rfl dX11_covered_30 rfl ?_
      refine g_ifb_eq C (tgt := 58) dX11_covered_31 (by decide) rfl (fun c_8 => ?_) (fun c_8 => ?_)
      · refine g_iload_n C 1 rfl dX11_covered_58 rfl ?_
        refine g_top (v' := vI (cov a f0 f1 f2 f3)) (congrArg (fun z_ : Int => vI z_) (show (cov a f0 f1 f2 f3) = 0 by unfold cov cv0 cvX cvY cvD b01; (repeat' split) <;> first | rfl | omega | contradiction)) ?_
        exact g_iret C hr rfl (Nat.le_of_ble_eq_true rfl) (Nat.le_of_ble_eq_true rfl) dX11_covered_59 ⟨(1000 * ((f0 * f2) + (f1 * f3))), (1000 * ((f1 * f2) - (f0 * f3))), ((f2 * f2) + (f3 * f3)), rfl, rfl⟩
      refine g_iload_n C 1 rfl dX11_covered_34 rfl ?_
      refine g_aload_n C 0 rfl dX11_covered_35 rfl ?_
      refine g_iload_n C 3 rfl dX11_covered_36 rfl ?_
      refine g_callV C (b := (Q 0)) (As := [vI 2]) (wc := [((Q 0), .inr (12, [vR (Q 1), vR (Q 2), vR (Q 3), vR (Q 4), vR (Q 5), vI pn, vR (Q 6), vL f0, vL f1, vL f2, vL f3, vL (1000 * ((f0 * f2) + (f1 * f3))), vL (1000 * ((f1 * f2) - (f0 * f3))), vL ((f2 * f2) + (f3 * f3)), vI rg, vI wr, vR (Q 7), vI rn, vR (Q 8), vI wn])), ((Q 1), cL E 310 a)]) (wr := [((Q 2), cL E 310 s2), ((Q 3), cL E 620 s3), ((Q 4), cZ E 2 s4), ((Q 5), cI E 80 tx), ((Q 6), cI E 24 cosT), ((Q 7), cI E 16 rr), ((Q 8), cI E 120 ww)]) (st := [vI 0]) gX11_covered_X11_isInside (q9 := 0) (ci := 12) rfl rfl rfl (K_m_inside l E Q pn f0 f1 f2 f3 (1000 * ((f0 * f2) + (f1 * f3))) (1000 * ((f1 * f2) - (f0 * f3))) ((f2 * f2) + (f3 * f3)) rg wr rn wn a 2 ⟨by decide, by decide⟩ iPn iPc ⟨by omega, by omega⟩ ⟨by omega, by omega⟩ ⟨by omega, by omega⟩) hyd_X11_isInside rfl [0, 1] [2, 3, 4, 5, 6, 7, 8] rfl rfl rfl rfl rfl (by decide) ⟨rfl, rfl⟩ ⟨Nat.le_of_ble_eq_true rfl, Nat.le_of_ble_eq_true rfl, Nat.le_of_ble_eq_true rfl, Nat.le_of_ble_eq_true rfl⟩ (Nat.le_of_ble_eq_true rfl) dX11_covered_37 (rfl : _ = 0) (rfl : _ = 0) rfl ?_
      rintro _ _ ⟨rfl, rfl⟩
      refine g_is (ws' := [((Q 2), cL E 310 s2), ((Q 3), cL E 620 s3), ((Q 4), cZ E 2 s4), ((Q 5), cI E 80 tx), ((Q 6), cI E 24 cosT), ((Q 7), cI E 16 rr), ((Q 8), cI E 120 ww), ((Q 0), .inr (12, [vR (Q 1), vR (Q 2), vR (Q 3), vR (Q 4), vR (Q 5), vI pn, vR (Q 6), vL f0, vL f1, vL f2, vL f3, vL (1000 * ((f0 * f2) + (f1 * f3))), vL (1000 * ((f1 * f2) - (f0 * f3))), vL ((f2 * f2) + (f3 * f3)), vI rg, vI wr, vR (Q 7), vI rn, vR (Q 8), vI wn])), ((Q 1), cL E 310 a)]) (st' := [vI (bP (hldA a 2 (1000 * ((f0 * f2) + (f1 * f3))) (1000 * ((f1 * f2) - (f0 * f3))) ((f2 * f2) + (f3 * f3)) = true)), vI 0]) rfl rfl ?_
      refine g_sub (ws' := [((Q 0), .inr (12, [vR (Q 1), vR (Q 2), vR (Q 3), vR (Q 4), vR (Q 5), vI pn, vR (Q 6), vL f0, vL f1, vL f2, vL f3, vL (1000 * ((f0 * f2) + (f1 * f3))), vL (1000 * ((f1 * f2) - (f0 * f3))), vL ((f2 * f2) + (f3 * f3)), vI rg, vI wr, vR (Q 7), vI rn, vR (Q 8), vI wn])), ((Q 1), cL E 310 a), ((Q 2), cL E 310 s2), ((Q 3), cL E 620 s3), ((Q 4), cZ E 2 s4), ((Q 5), cI E 80 tx), ((Q 6), cI E 24 cosT), ((Q 7), cI E 16 rr), ((Q 8), cI E 120 ww)]) [7, 8, 0, 1, 2, 3, 4, 5, 6] rfl rfl rfl ?_
      refine g_ifb_eq C (tgt := 49) dX11_covered_40 (by decide) rfl (fun c_9 => ?_) (fun c_9 => ?_)
      · refine g_iconst C dX11_covered_49 rfl ?_
        refine g_ior C (z := I32 0) (by decide +kernel) dX11_covered_50 rfl ?_
        refine g_istore_n C (lv' := [(0, vR (Q 0)), (1, vI 0), (2, vI (bP (a 21 * a 21 ≤ f2 * f2 + f3 * f3))), (3, vI 2)]) [1, 0, 2, 3] (by decide) rfl rfl dX11_covered_51 rfl ?_
        refine g_iinc C (r := 3) (lv' := [(0, vR (Q 0)), (1, vI 0), (2, vI (bP (a 21 * a 21 ≤ f2 * f2 + f3 * f3))), (3, vI 3)]) 3 [1, 2, 3, 0] rfl (by decide) (by decide) rfl rfl dX11_covered_52 rfl ?_
        refine g_goto C (pc' := 25) dX11_covered_55 (by decide) ?_
        refine g_iload_n C 3 rfl dX11_covered_25 rfl ?_
        refine g_iconst C dX11_covered_26 rfl ?_
        refine g_icmp_ge C (tgt := 58) ⟨by decide, by decide⟩ ⟨by decide, by decide⟩ dX11_covered_27 (by decide) rfl (fun c_10 => ?_) (fun c_10 => ?_)
        · refine g_iload_n C 1 rfl dX11_covered_58 rfl ?_
          refine g_top (v' := vI (cov a f0 f1 f2 f3)) (congrArg (fun z_ : Int => vI z_) (show (cov a f0 f1 f2 f3) = 0 by unfold cov cv0 cvX cvY cvD b01; (repeat' split) <;> first | rfl | omega | contradiction)) ?_
          exact g_iret C hr rfl (Nat.le_of_ble_eq_true rfl) (Nat.le_of_ble_eq_true rfl) dX11_covered_59 ⟨(1000 * ((f0 * f2) + (f1 * f3))), (1000 * ((f1 * f2) - (f0 * f3))), ((f2 * f2) + (f3 * f3)), rfl, rfl⟩
        exact absurd c_10 (by decide)
      refine g_iconst C dX11_covered_43 rfl ?_
      refine g_iload_n C 3 rfl dX11_covered_44 rfl ?_
      refine g_ishl C (z := I32 4) (by decide +kernel) dX11_covered_45 rfl ?_
      refine g_goto C (pc' := 50) dX11_covered_46 (by decide) ?_
      refine g_ior C (z := I32 4) (by decide +kernel) dX11_covered_50 rfl ?_
      refine g_istore_n C (lv' := [(0, vR (Q 0)), (1, vI 4), (2, vI (bP (a 21 * a 21 ≤ f2 * f2 + f3 * f3))), (3, vI 2)]) [1, 0, 2, 3] (by decide) rfl rfl dX11_covered_51 rfl ?_
      refine g_iinc C (r := 3) (lv' := [(0, vR (Q 0)), (1, vI 4), (2, vI (bP (a 21 * a 21 ≤ f2 * f2 + f3 * f3))), (3, vI 3)]) 3 [1, 2, 3, 0] rfl (by decide) (by decide) rfl rfl dX11_covered_52 rfl ?_
      refine g_goto C (pc' := 25) dX11_covered_55 (by decide) ?_
      refine g_iload_n C 3 rfl dX11_covered_25 rfl ?_
      refine g_iconst C dX11_covered_26 rfl ?_
      refine g_icmp_ge C (tgt := 58) ⟨by decide, by decide⟩ ⟨by decide, by decide⟩ dX11_covered_27 (by decide) rfl (fun c_11 => ?_) (fun c_11 => ?_)
      · refine g_iload_n C 1 rfl dX11_covered_58 rfl ?_
        refine g_top (v' := vI (cov a f0 f1 f2 f3)) (congrArg (fun z_ : Int => vI z_) (show (cov a f0 f1 f2 f3) = 4 by unfold cov cv0 cvX cvY cvD b01; (repeat' split) <;> first | rfl | omega | contradiction)) ?_
        exact g_iret C hr rfl (Nat.le_of_ble_eq_true rfl) (Nat.le_of_ble_eq_true rfl) dX11_covered_59 ⟨(1000 * ((f0 * f2) + (f1 * f3))), (1000 * ((f1 * f2) - (f0 * f3))), ((f2 * f2) + (f3 * f3)), rfl, rfl⟩
      exact absurd c_11 (by decide)
    refine g_iconst C dX11_covered_43 rfl ?_
    refine g_iload_n C 3 rfl dX11_covered_44 rfl ?_
    refine g_ishl C (z := I32 2) (by decide +kernel) dX11_covered_45 rfl ?_
    refine g_goto C (pc' := 50) dX11_covered_46 (by decide) ?_
    refine g_ior C (z := I32 2) (by decide +kernel) dX11_covered_50 rfl ?_
    refine g_istore_n C (lv' := [(0, vR (Q 0)), (1, vI 2), (2, vI (bP (a 21 * a 21 ≤ f2 * f2 + f3 * f3))), (3, vI 1)]) [1, 0, 2, 3] (by decide) rfl rfl dX11_covered_51 rfl ?_
    refine g_iinc C (r := 2) (lv' := [(0, vR (Q 0)), (1, vI 2), (2, vI (bP (a 21 * a 21 ≤ f2 * f2 + f3 * f3))), (3, vI 2)]) 3 [1, 2, 3, 0] rfl (by decide) (by decide) rfl rfl dX11_covered_52 rfl ?_
    refine g_goto C (pc' := 25) dX11_covered_55 (by decide) ?_
    refine g_iload_n C 3 rfl dX11_covered_25 rfl ?_
    refine g_iconst C dX11_covered_26 rfl ?_
    refine g_icmp_ge C (tgt := 58) ⟨by decide, by decide⟩ ⟨by decide, by decide⟩ dX11_covered_27 (by decide) rfl (fun c_12 => ?_) (fun c_12 => ?_)
    · exact absurd c_12 (by decide)
    refine g_iload_n C 2 rfl dX11_covered_30 rfl ?_
    refine g_ifb_eq C (tgt := 58) dX11_covered_31 (by decide) rfl (fun c_13 => ?_) (fun c_13 => ?_)
    · refine g_iload_n C 1 rfl dX11_covered_58 rfl ?_
      refine g_top (v' := vI (cov a f0 f1 f2 f3)) (congrArg (fun z_ : Int => vI z_) (show (cov a f0 f1 f2 f3) = 2 by unfold cov cv0 cvX cvY cvD b01; (repeat' split) <;> first | rfl | omega | contradiction)) ?_
      exact g_iret C hr rfl (Nat.le_of_ble_eq_true rfl) (Nat.le_of_ble_eq_true rfl) dX11_covered_59 ⟨(1000 * ((f0 * f2) + (f1 * f3))), (1000 * ((f1 * f2) - (f0 * f3))), ((f2 * f2) + (f3 * f3)), rfl, rfl⟩
    refine g_iload_n C 1 rfl dX11_covered_34 rfl ?_
    refine g_aload_n C 0 rfl dX11_covered_35 rfl ?_
    refine g_iload_n C 3 rfl dX11_covered_36 rfl ?_
    refine g_callV C (b := (Q 0)) (As := [vI 2]) (wc := [((Q 0), .inr (12, [vR (Q 1), vR (Q 2), vR (Q 3), vR (Q 4), vR (Q 5), vI pn, vR (Q 6), vL f0, vL f1, vL f2, vL f3, vL (1000 * ((f0 * f2) + (f1 * f3))), vL (1000 * ((f1 * f2) - (f0 * f3))), vL ((f2 * f2) + (f3 * f3)), vI rg, vI wr, vR (Q 7), vI rn, vR (Q 8), vI wn])), ((Q 1), cL E 310 a)]) (wr := [((Q 2), cL E 310 s2), ((Q 3), cL E 620 s3), ((Q 4), cZ E 2 s4), ((Q 5), cI E 80 tx), ((Q 6), cI E 24 cosT), ((Q 7), cI E 16 rr), ((Q 8), cI E 120 ww)]) (st := [vI 2]) gX11_covered_X11_isInside (q9 := 0) (ci := 12) rfl rfl rfl (K_m_inside l E Q pn f0 f1 f2 f3 (1000 * ((f0 * f2) + (f1 * f3))) (1000 * ((f1 * f2) - (f0 * f3))) ((f2 * f2) + (f3 * f3)) rg wr rn wn a 2 ⟨by decide, by decide⟩ iPn iPc ⟨by omega, by omega⟩ ⟨by omega, by omega⟩ ⟨by omega, by omega⟩) hyd_X11_isInside rfl [0, 1] [2, 3, 4, 5, 6, 7, 8] rfl rfl rfl rfl rfl (by decide) ⟨rfl, rfl⟩ ⟨Nat.le_of_ble_eq_true rfl, Nat.le_of_ble_eq_true rfl, Nat.le_of_ble_eq_true rfl, Nat.le_of_ble_eq_true rfl⟩ (Nat.le_of_ble_eq_true rfl) dX11_covered_37 (rfl : _ = 0) (rfl : _ = 0) rfl ?_
    rintro _ _ ⟨rfl, rfl⟩
    refine g_is (ws' := [((Q 2), cL E 310 s2), ((Q 3), cL E 620 s3), ((Q 4), cZ E 2 s4), ((Q 5), cI E 80 tx), ((Q 6), cI E 24 cosT), ((Q 7), cI E 16 rr), ((Q 8), cI E 120 ww), ((Q 0), .inr (12, [vR (Q 1), vR (Q 2), vR (Q 3), vR (Q 4), vR (Q 5), vI pn, vR (Q 6), vL f0, vL f1, vL f2, vL f3, vL (1000 * ((f0 * f2) + (f1 * f3))), vL (1000 * ((f1 * f2) - (f0 * f3))), vL ((f2 * f2) + (f3 * f3)), vI rg, vI wr, vR (Q 7), vI rn, vR (Q 8), vI wn])), ((Q 1), cL E 310 a)]) (st' := [vI (bP (hldA a 2 (1000 * ((f0 * f2) + (f1 * f3))) (1000 * ((f1 * f2) - (f0 * f3))) ((f2 * f2) + (f3 * f3)) = true)), vI 2]) rfl rfl ?_
    refine g_sub (ws' := [((Q 0), .inr (12, [vR (Q 1), vR (Q 2), vR (Q 3), vR (Q 4), vR (Q 5), vI pn, vR (Q 6), vL f0, vL f1, vL f2, vL f3, vL (1000 * ((f0 * f2) + (f1 * f3))), vL (1000 * ((f1 * f2) - (f0 * f3))), vL ((f2 * f2) + (f3 * f3)), vI rg, vI wr, vR (Q 7), vI rn, vR (Q 8), vI wn])), ((Q 1), cL E 310 a), ((Q 2), cL E 310 s2), ((Q 3), cL E 620 s3), ((Q 4), cZ E 2 s4), ((Q 5), cI E 80 tx), ((Q 6), cI E 24 cosT), ((Q 7), cI E 16 rr), ((Q 8), cI E 120 ww)]) [7, 8, 0, 1, 2, 3, 4, 5, 6] rfl rfl rfl ?_
    refine g_ifb_eq C (tgt := 49) dX11_covered_40 (by decide) rfl (fun c_14 => ?_) (fun c_14 => ?_)
    · refine g_iconst C dX11_covered_49 rfl ?_
      refine g_ior C (z := I32 2) (by decide +kernel) dX11_covered_50 rfl ?_
      refine g_istore_n C (lv' := [(0, vR (Q 0)), (1, vI 2), (2, vI (bP (a 21 * a 21 ≤ f2 * f2 + f3 * f3))), (3, vI 2)]) [1, 0, 2, 3] (by decide) rfl rfl dX11_covered_51 rfl ?_
      refine g_iinc C (r := 3) (lv' := [(0, vR (Q 0)), (1, vI 2), (2, vI (bP (a 21 * a 21 ≤ f2 * f2 + f3 * f3))), (3, vI 3)]) 3 [1, 2, 3, 0] rfl (by decide) (by decide) rfl rfl dX11_covered_52 rfl ?_
      refine g_goto C (pc' := 25) dX11_covered_55 (by decide) ?_
      refine g_iload_n C 3 rfl dX11_covered_25 rfl ?_
      refine g_iconst C dX11_covered_26 rfl ?_
      refine g_icmp_ge C (tgt := 58) ⟨by decide, by decide⟩ ⟨by decide, by decide⟩ dX11_covered_27 (by decide) rfl (fun c_15 => ?_) (fun c_15 => ?_)
      · refine g_iload_n C 1 rfl dX11_covered_58 rfl ?_
        refine g_top (v' := vI (cov a f0 f1 f2 f3)) (congrArg (fun z_ : Int => vI z_) (show (cov a f0 f1 f2 f3) = 2 by unfold cov cv0 cvX cvY cvD b01; (repeat' split) <;> first | rfl | omega | contradiction)) ?_
        exact g_iret C hr rfl (Nat.le_of_ble_eq_true rfl) (Nat.le_of_ble_eq_true rfl) dX11_covered_59 ⟨(1000 * ((f0 * f2) + (f1 * f3))), (1000 * ((f1 * f2) - (f0 * f3))), ((f2 * f2) + (f3 * f3)), rfl, rfl⟩
      exact absurd c_15 (by decide)
    refine g_iconst C dX11_covered_43 rfl ?_
    refine g_iload_n C 3 rfl dX11_covered_44 rfl ?_
    refine g_ishl C (z := I32 4) (by decide +kernel) dX11_covered_45 rfl ?_
    refine g_goto C (pc' := 50) dX11_covered_46 (by decide) ?_
    refine g_ior C (z := I32 6) (by decide +kernel) dX11_covered_50 rfl ?_
    refine g_istore_n C (lv' := [(0, vR (Q 0)), (1, vI 6), (2, vI (bP (a 21 * a 21 ≤ f2 * f2 + f3 * f3))), (3, vI 2)]) [1, 0, 2, 3] (by decide) rfl rfl dX11_covered_51 rfl ?_
    refine g_iinc C (r := 3) (lv' := [(0, vR (Q 0)), (1, vI 6), (2, vI (bP (a 21 * a 21 ≤ f2 * f2 + f3 * f3))), (3, vI 3)]) 3 [1, 2, 3, 0] rfl (by decide) (by decide) rfl rfl dX11_covered_52 rfl ?_
    refine g_goto C (pc' := 25) dX11_covered_55 (by decide) ?_
    refine g_iload_n C 3 rfl dX11_covered_25 rfl ?_
    refine g_iconst C dX11_covered_26 rfl ?_
    refine g_icmp_ge C (tgt := 58) ⟨by decide, by decide⟩ ⟨by decide, by decide⟩ dX11_covered_27 (by decide) rfl (fun c_16 => ?_) (fun c_16 => ?_)
    · refine g_iload_n C 1 rfl dX11_covered_58 rfl ?_
      refine g_top (v' := vI (cov a f0 f1 f2 f3)) (congrArg (fun z_ : Int => vI z_) (show (cov a f0 f1 f2 f3) = 6 by unfold cov cv0 cvX cvY cvD b01; (repeat' split) <;> first | rfl | omega | contradiction)) ?_
      exact g_iret C hr rfl (Nat.le_of_ble_eq_true rfl) (Nat.le_of_ble_eq_true rfl) dX11_covered_59 ⟨(1000 * ((f0 * f2) + (f1 * f3))), (1000 * ((f1 * f2) - (f0 * f3))), ((f2 * f2) + (f3 * f3)), rfl, rfl⟩
    exact absurd c_16 (by decide)
  refine g_iconst C dX11_covered_43 rfl ?_
  refine g_iload_n C 3 rfl dX11_covered_44 rfl ?_
  refine g_ishl C (z := I32 1) (by decide +kernel) dX11_covered_45 rfl ?_
  refine g_goto C (pc' := 50) dX11_covered_46 (by decide) ?_
  refine g_ior C (z := I32 1) (by decide +kernel) dX11_covered_50 rfl ?_
  refine g_istore_n C (lv' := [(0, vR (Q 0)), (1, vI 1), (2, vI (bP (a 21 * a 21 ≤ f2 * f2 + f3 * f3))), (3, vI 0)]) [1, 0, 2, 3] (by decide) rfl rfl dX11_covered_51 rfl ?_
  refine g_iinc C (r := 1) (lv' := [(0, vR (Q 0)), (1, vI 1), (2, vI (bP (a 21 * a 21 ≤ f2 * f2 + f3 * f3))), (3, vI 1)]) 3 [1, 2, 3, 0] rfl (by decide) (by decide) rfl rfl dX11_covered_52 rfl ?_
  refine g_goto C (pc' := 25) dX11_covered_55 (by decide) ?_
  refine g_iload_n C 3 rfl dX11_covered_25 rfl ?_
  refine g_iconst C dX11_covered_26 rfl ?_
  refine g_icmp_ge C (tgt := 58) ⟨by decide, by decide⟩ ⟨by decide, by decide⟩ dX11_covered_27 (by decide) rfl (fun c_17 => ?_) (fun c_17 => ?_)
  · exact absurd c_17 (by decide)
  refine g_iload_n C 2 rfl dX11_covered_30 rfl ?_
  refine g_ifb_eq C (tgt := 58) dX11_covered_31 (by decide) rfl (fun c_18 => ?_) (fun c_18 => ?_)
  · refine g_iload_n C 1 rfl dX11_covered_58 rfl ?_
    refine g_top (v' := vI (cov a f0 f1 f2 f3)) (congrArg (fun z_ : Int => vI z_) (show (cov a f0 f1 f2 f3) = 1 by unfold cov cv0 cvX cvY cvD b01; (repeat' split) <;> first | rfl | omega | contradiction)) ?_
    exact g_iret C hr rfl (Nat.le_of_ble_eq_true rfl) (Nat.le_of_ble_eq_true rfl) dX11_covered_59 ⟨(1000 * ((f0 * f2) + (f1 * f3))), (1000 * ((f1 * f2) - (f0 * f3))), ((f2 * f2) + (f3 * f3)), rfl, rfl⟩
  refine g_iload_n C 1 rfl dX11_covered_34 rfl ?_
  refine g_aload_n C 0 rfl dX11_covered_35 rfl ?_
  refine g_iload_n C 3 rfl dX11_covered_36 rfl ?_
  refine g_callV C (b := (Q 0)) (As := [vI 1]) (wc := [((Q 0), .inr (12, [vR (Q 1), vR (Q 2), vR (Q 3), vR (Q 4), vR (Q 5), vI pn, vR (Q 6), vL f0, vL f1, vL f2, vL f3, vL (1000 * ((f0 * f2) + (f1 * f3))), vL (1000 * ((f1 * f2) - (f0 * f3))), vL ((f2 * f2) + (f3 * f3)), vI rg, vI wr, vR (Q 7), vI rn, vR (Q 8), vI wn])), ((Q 1), cL E 310 a)]) (wr := [((Q 2), cL E 310 s2), ((Q 3), cL E 620 s3), ((Q 4), cZ E 2 s4), ((Q 5), cI E 80 tx), ((Q 6), cI E 24 cosT), ((Q 7), cI E 16 rr), ((Q 8), cI E 120 ww)]) (st := [vI 1]) gX11_covered_X11_isInside (q9 := 0) (ci := 12) rfl rfl rfl (K_m_inside l E Q pn f0 f1 f2 f3 (1000 * ((f0 * f2) + (f1 * f3))) (1000 * ((f1 * f2) - (f0 * f3))) ((f2 * f2) + (f3 * f3)) rg wr rn wn a 1 ⟨by decide, by decide⟩ iPn iPc ⟨by omega, by omega⟩ ⟨by omega, by omega⟩ ⟨by omega, by omega⟩) hyd_X11_isInside rfl [0, 1] [2, 3, 4, 5, 6, 7, 8] rfl rfl rfl rfl rfl (by decide) ⟨rfl, rfl⟩ ⟨Nat.le_of_ble_eq_true rfl, Nat.le_of_ble_eq_true rfl, Nat.le_of_ble_eq_true rfl, Nat.le_of_ble_eq_true rfl⟩ (Nat.le_of_ble_eq_true rfl) dX11_covered_37 (rfl : _ = 0) (rfl : _ = 0) rfl ?_
  rintro _ _ ⟨rfl, rfl⟩
  refine g_is (ws' := [((Q 2), cL E 310 s2), ((Q 3), cL E 620 s3), ((Q 4), cZ E 2 s4), ((Q 5), cI E 80 tx), ((Q 6), cI E 24 cosT), ((Q 7), cI E 16 rr), ((Q 8), cI E 120 ww), ((Q 0), .inr (12, [vR (Q 1), vR (Q 2), vR (Q 3), vR (Q 4), vR (Q 5), vI pn, vR (Q 6), vL f0, vL f1, vL f2, vL f3, vL (1000 * ((f0 * f2) + (f1 * f3))), vL (1000 * ((f1 * f2) - (f0 * f3))), vL ((f2 * f2) + (f3 * f3)), vI rg, vI wr, vR (Q 7), vI rn, vR (Q 8), vI wn])), ((Q 1), cL E 310 a)]) (st' := [vI (bP (hldA a 1 (1000 * ((f0 * f2) + (f1 * f3))) (1000 * ((f1 * f2) - (f0 * f3))) ((f2 * f2) + (f3 * f3)) = true)), vI 1]) rfl rfl ?_
  refine g_sub (ws' := [((Q 0), .inr (12, [vR (Q 1), vR (Q 2), vR (Q 3), vR (Q 4), vR (Q 5), vI pn, vR (Q 6), vL f0, vL f1, vL f2, vL f3, vL (1000 * ((f0 * f2) + (f1 * f3))), vL (1000 * ((f1 * f2) - (f0 * f3))), vL ((f2 * f2) + (f3 * f3)), vI rg, vI wr, vR (Q 7), vI rn, vR (Q 8), vI wn])), ((Q 1), cL E 310 a), ((Q 2), cL E 310 s2), ((Q 3), cL E 620 s3), ((Q 4), cZ E 2 s4), ((Q 5), cI E 80 tx), ((Q 6), cI E 24 cosT), ((Q 7), cI E 16 rr), ((Q 8), cI E 120 ww)]) [7, 8, 0, 1, 2, 3, 4, 5, 6] rfl rfl rfl ?_
  refine g_ifb_eq C (tgt := 49) dX11_covered_40 (by decide) rfl (fun c_19 => ?_) (fun c_19 => ?_)
  · refine g_iconst C dX11_covered_49 rfl ?_
    refine g_ior C (z := I32 1) (by decide +kernel) dX11_covered_50 rfl ?_
    refine g_istore_n C (lv' := [(0, vR (Q 0)), (1, vI 1), (2, vI (bP (a 21 * a 21 ≤ f2 * f2 + f3 * f3))), (3, vI 1)]) [1, 0, 2, 3] (by decide) rfl rfl dX11_covered_51 rfl ?_
    refine g_iinc C (r := 2) (lv' := [(0, vR (Q 0)), (1, vI 1), (2, vI (bP (a 21 * a 21 ≤ f2 * f2 + f3 * f3))), (3, vI 2)]) 3 [1, 2, 3, 0] rfl (by decide) (by decide) rfl rfl dX11_covered_52 rfl ?_
    refine g_goto C (pc' := 25) dX11_covered_55 (by decide) ?_
    refine g_iload_n C 3 rfl dX11_covered_25 rfl ?_
    refine g_iconst C dX11_covered_26 rfl ?_
    refine g_icmp_ge C (tgt := 58) ⟨by decide, by decide⟩ ⟨by decide, by decide⟩ dX11_covered_27 (by decide) rfl (fun c_20 => ?_) (fun c_20 => ?_)
    · exact absurd c_20 (by decide)
    refine g_iload_n C 2 rfl dX11_covered_30 rfl ?_
    refine g_ifb_eq C (tgt := 58) dX11_covered_31 (by decide) rfl (fun c_21 => ?_) (fun c_21 => ?_)
    · refine g_iload_n C 1 rfl dX11_covered_58 rfl ?_
      refine g_top (v' := vI (cov a f0 f1 f2 f3)) (congrArg (fun z_ : Int => vI z_) (show (cov a f0 f1 f2 f3) = 1 by unfold cov cv0 cvX cvY cvD b01; (repeat' split) <;> first | rfl | omega | contradiction)) ?_
      exact g_iret C hr rfl (Nat.le_of_ble_eq_true rfl) (Nat.le_of_ble_eq_true rfl) dX11_covered_59 ⟨(1000 * ((f0 * f2) + (f1 * f3))), (1000 * ((f1 * f2) - (f0 * f3))), ((f2 * f2) + (f3 * f3)), rfl, rfl⟩
    refine g_iload_n C 1 rfl dX11_covered_34 rfl ?_
    refine g_aload_n C 0 rfl dX11_covered_35 rfl ?_
    refine g_iload_n C 3 rfl dX11_covered_36 rfl ?_
    refine g_callV C (b := (Q 0)) (As := [vI 2]) (wc := [((Q 0), .inr (12, [vR (Q 1), vR (Q 2), vR (Q 3), vR (Q 4), vR (Q 5), vI pn, vR (Q 6), vL f0, vL f1, vL f2, vL f3, vL (1000 * ((f0 * f2) + (f1 * f3))), vL (1000 * ((f1 * f2) - (f0 * f3))), vL ((f2 * f2) + (f3 * f3)), vI rg, vI wr, vR (Q 7), vI rn, vR (Q 8), vI wn])), ((Q 1), cL E 310 a)]) (wr := [((Q 2), cL E 310 s2), ((Q 3), cL E 620 s3), ((Q 4), cZ E 2 s4), ((Q 5), cI E 80 tx), ((Q 6), cI E 24 cosT), ((Q 7), cI E 16 rr), ((Q 8), cI E 120 ww)]) (st := [vI 1]) gX11_covered_X11_isInside (q9 := 0) (ci := 12) rfl rfl rfl (K_m_inside l E Q pn f0 f1 f2 f3 (1000 * ((f0 * f2) + (f1 * f3))) (1000 * ((f1 * f2) - (f0 * f3))) ((f2 * f2) + (f3 * f3)) rg wr rn wn a 2 ⟨by decide, by decide⟩ iPn iPc ⟨by omega, by omega⟩ ⟨by omega, by omega⟩ ⟨by omega, by omega⟩) hyd_X11_isInside rfl [0, 1] [2, 3, 4, 5, 6, 7, 8] rfl rfl rfl rfl rfl (by decide) ⟨rfl, rfl⟩ ⟨Nat.le_of_ble_eq_true rfl, Nat.le_of_ble_eq_true rfl, Nat.le_of_ble_eq_true rfl, Nat.le_of_ble_eq_true rfl⟩ (Nat.le_of_ble_eq_true rfl) dX11_covered_37 (rfl : _ = 0) (rfl : _ = 0) rfl ?_
    rintro _ _ ⟨rfl, rfl⟩
    refine g_is (ws' := [((Q 2), cL E 310 s2), ((Q 3), cL E 620 s3), ((Q 4), cZ E 2 s4), ((Q 5), cI E 80 tx), ((Q 6), cI E 24 cosT), ((Q 7), cI E 16 rr), ((Q 8), cI E 120 ww), ((Q 0), .inr (12, [vR (Q 1), vR (Q 2), vR (Q 3), vR (Q 4), vR (Q 5), vI pn, vR (Q 6), vL f0, vL f1, vL f2, vL f3, vL (1000 * ((f0 * f2) + (f1 * f3))), vL (1000 * ((f1 * f2) - (f0 * f3))), vL ((f2 * f2) + (f3 * f3)), vI rg, vI wr, vR (Q 7), vI rn, vR (Q 8), vI wn])), ((Q 1), cL E 310 a)]) (st' := [vI (bP (hldA a 2 (1000 * ((f0 * f2) + (f1 * f3))) (1000 * ((f1 * f2) - (f0 * f3))) ((f2 * f2) + (f3 * f3)) = true)), vI 1]) rfl rfl ?_
    refine g_sub (ws' := [((Q 0), .inr (12, [vR (Q 1), vR (Q 2), vR (Q 3), vR (Q 4), vR (Q 5), vI pn, vR (Q 6), vL f0, vL f1, vL f2, vL f3, vL (1000 * ((f0 * f2) + (f1 * f3))), vL (1000 * ((f1 * f2) - (f0 * f3))), vL ((f2 * f2) + (f3 * f3)), vI rg, vI wr, vR (Q 7), vI rn, vR (Q 8), vI wn])), ((Q 1), cL E 310 a), ((Q 2), cL E 310 s2), ((Q 3), cL E 620 s3), ((Q 4), cZ E 2 s4), ((Q 5), cI E 80 tx), ((Q 6), cI E 24 cosT), ((Q 7), cI E 16 rr), ((Q 8), cI E 120 ww)]) [7, 8, 0, 1, 2, 3, 4, 5, 6] rfl rfl rfl ?_
    refine g_ifb_eq C (tgt := 49) dX11_covered_40 (by decide) rfl (fun c_22 => ?_) (fun c_22 => ?_)
    · refine g_iconst C dX11_covered_49 rfl ?_
      refine g_ior C (z := I32 1) (by decide +kernel) dX11_covered_50 rfl ?_
      refine g_istore_n C (lv' := [(0, vR (Q 0)), (1, vI 1), (2, vI (bP (a 21 * a 21 ≤ f2 * f2 + f3 * f3))), (3, vI 2)]) [1, 0, 2, 3] (by decide) rfl rfl dX11_covered_51 rfl ?_
      refine g_iinc C (r := 3) (lv' := [(0, vR (Q 0)), (1, vI 1), (2, vI (bP (a 21 * a 21 ≤ f2 * f2 + f3 * f3))), (3, vI 3)]) 3 [1, 2, 3, 0] rfl (by decide) (by decide) rfl rfl dX11_covered_52 rfl ?_
      refine g_goto C (pc' := 25) dX11_covered_55 (by decide) ?_
      refine g_iload_n C 3 rfl dX11_covered_25 rfl ?_
      refine g_iconst C dX11_covered_26 rfl ?_
      refine g_icmp_ge C (tgt := 58) ⟨by decide, by decide⟩ ⟨by decide, by decide⟩ dX11_covered_27 (by decide) rfl (fun c_23 => ?_) (fun c_23 => ?_)
      · refine g_iload_n C 1 rfl dX11_covered_58 rfl ?_
        refine g_top (v' := vI (cov a f0 f1 f2 f3)) (congrArg (fun z_ : Int => vI z_) (show (cov a f0 f1 f2 f3) = 1 by unfold cov cv0 cvX cvY cvD b01; (repeat' split) <;> first | rfl | omega | contradiction)) ?_
        exact g_iret C hr rfl (Nat.le_of_ble_eq_true rfl) (Nat.le_of_ble_eq_true rfl) dX11_covered_59 ⟨(1000 * ((f0 * f2) + (f1 * f3))), (1000 * ((f1 * f2) - (f0 * f3))), ((f2 * f2) + (f3 * f3)), rfl, rfl⟩
      exact absurd c_23 (by decide)
    refine g_iconst C dX11_covered_43 rfl ?_
    refine g_iload_n C 3 rfl dX11_covered_44 rfl ?_
    refine g_ishl C (z := I32 4) (by decide +kernel) dX11_covered_45 rfl ?_
    refine g_goto C (pc' := 50) dX11_covered_46 (by decide) ?_
    refine g_ior C (z := I32 5) (by decide +kernel) dX11_covered_50 rfl ?_
    refine g_istore_n C (lv' := [(0, vR (Q 0)), (1, vI 5), (2, vI (bP (a 21 * a 21 ≤ f2 * f2 + f3 * f3))), (3, vI 2)]) [1, 0, 2, 3] (by decide) rfl rfl dX11_covered_51 rfl ?_
    refine g_iinc C (r := 3) (lv' := [(0, vR (Q 0)), (1, vI 5), (2, vI (bP (a 21 * a 21 ≤ f2 * f2 + f3 * f3))), (3, vI 3)]) 3 [1, 2, 3, 0] rfl (by decide) (by decide) rfl rfl dX11_covered_52 rfl ?_
    refine g_goto C (pc' := 25) dX11_covered_55 (by decide) ?_
    refine g_iload_n C 3 rfl dX11_covered_25 rfl ?_
    refine g_iconst C dX11_covered_26 rfl ?_
    refine g_icmp_ge C (tgt := 58) ⟨by decide, by decide⟩ ⟨by decide, by decide⟩ dX11_covered_27 (by decide) rfl (fun c_24 => ?_) (fun c_24 => ?_)
    · refine g_iload_n C 1 rfl dX11_covered_58 rfl ?_
      refine g_top (v' := vI (cov a f0 f1 f2 f3)) (congrArg (fun z_ : Int => vI z_) (show (cov a f0 f1 f2 f3) = 5 by unfold cov cv0 cvX cvY cvD b01; (repeat' split) <;> first | rfl | omega | contradiction)) ?_
      exact g_iret C hr rfl (Nat.le_of_ble_eq_true rfl) (Nat.le_of_ble_eq_true rfl) dX11_covered_59 ⟨(1000 * ((f0 * f2) + (f1 * f3))), (1000 * ((f1 * f2) - (f0 * f3))), ((f2 * f2) + (f3 * f3)), rfl, rfl⟩
    exact absurd c_24 (by decide)
  refine g_iconst C dX11_covered_43 rfl ?_
  refine g_iload_n C 3 rfl dX11_covered_44 rfl ?_
  refine g_ishl C (z := I32 2) (by decide +kernel) dX11_covered_45 rfl ?_
  refine g_goto C (pc' := 50) dX11_covered_46 (by decide) ?_
  refine g_ior C (z := I32 3) (by decide +kernel) dX11_covered_50 rfl ?_
  refine g_istore_n C (lv' := [(0, vR (Q 0)), (1, vI 3), (2, vI (bP (a 21 * a 21 ≤ f2 * f2 + f3 * f3))), (3, vI 1)]) [1, 0, 2, 3] (by decide) rfl rfl dX11_covered_51 rfl ?_
  refine g_iinc C (r := 2) (lv' := [(0, vR (Q 0)), (1, vI 3), (2, vI (bP (a 21 * a 21 ≤ f2 * f2 + f3 * f3))), (3, vI 2)]) 3 [1, 2, 3, 0] rfl (by decide) (by decide) rfl rfl dX11_covered_52 rfl ?_
  refine g_goto C (pc' := 25) dX11_covered_55 (by decide) ?_
  refine g_iload_n C 3 rfl dX11_covered_25 rfl ?_
  refine g_iconst C dX11_covered_26 rfl ?_
  refine g_icmp_ge C (tgt := 58) ⟨by decide, by decide⟩ ⟨by decide, by decide⟩ dX11_covered_27 (by decide) rfl (fun c_25 => ?_) (fun c_25 => ?_)
  · exact absurd c_25 (by decide)
  refine g_iload_n C 2 rfl dX11_covered_30 rfl ?_
  refine g_ifb_eq C (tgt := 58) dX11_covered_31 (by decide) rfl (fun c_26 => ?_) (fun c_26 => ?_)
  · refine g_iload_n C 1 rfl dX11_covered_58 rfl ?_
    refine g_top (v' := vI (cov a f0 f1 f2 f3)) (congrArg (fun z_ : Int => vI z_) (show (cov a f0 f1 f2 f3) = 3 by unfold cov cv0 cvX cvY cvD b01; (repeat' split) <;> first | rfl | omega | contradiction)) ?_
    exact g_iret C hr rfl (Nat.le_of_ble_eq_true rfl) (Nat.le_of_ble_eq_true rfl) dX11_covered_59 ⟨(1000 * ((f0 * f2) + (f1 * f3))), (1000 * ((f1 * f2) - (f0 * f3))), ((f2 * f2) + (f3 * f3)), rfl, rfl⟩
  refine g_iload_n C 1 rfl dX11_covered_34 rfl ?_
  refine g_aload_n C 0 rfl dX11_covered_35 rfl ?_
  refine g_iload_n C 3 rfl dX11_covered_36 rfl ?_
  refine g_callV C (b := (Q 0)) (As := [vI 2]) (wc := [((Q 0), .inr (12, [vR (Q 1), vR (Q 2), vR (Q 3), vR (Q 4), vR (Q 5), vI pn, vR (Q 6), vL f0, vL f1, vL f2, vL f3, vL (1000 * ((f0 * f2) + (f1 * f3))), vL (1000 * ((f1 * f2) - (f0 * f3))), vL ((f2 * f2) + (f3 * f3)), vI rg, vI wr, vR (Q 7), vI rn, vR (Q 8), vI wn])), ((Q 1), cL E 310 a)]) (wr := [((Q 2), cL E 310 s2), ((Q 3), cL E 620 s3), ((Q 4), cZ E 2 s4), ((Q 5), cI E 80 tx), ((Q 6), cI E 24 cosT), ((Q 7), cI E 16 rr), ((Q 8), cI E 120 ww)]) (st := [vI 3]) gX11_covered_X11_isInside (q9 := 0) (ci := 12) rfl rfl rfl (K_m_inside l E Q pn f0 f1 f2 f3 (1000 * ((f0 * f2) + (f1 * f3))) (1000 * ((f1 * f2) - (f0 * f3))) ((f2 * f2) + (f3 * f3)) rg wr rn wn a 2 ⟨by decide, by decide⟩ iPn iPc ⟨by omega, by omega⟩ ⟨by omega, by omega⟩ ⟨by omega, by omega⟩) hyd_X11_isInside rfl [0, 1] [2, 3, 4, 5, 6, 7, 8] rfl rfl rfl rfl rfl (by decide) ⟨rfl, rfl⟩ ⟨Nat.le_of_ble_eq_true rfl, Nat.le_of_ble_eq_true rfl, Nat.le_of_ble_eq_true rfl, Nat.le_of_ble_eq_true rfl⟩ (Nat.le_of_ble_eq_true rfl) dX11_covered_37 (rfl : _ = 0) (rfl : _ = 0) rfl ?_
  rintro _ _ ⟨rfl, rfl⟩
  refine g_is (ws' := [((Q 2), cL E 310 s2), ((Q 3), cL E 620 s3), ((Q 4), cZ E 2 s4), ((Q 5), cI E 80 tx), ((Q 6), cI E 24 cosT), ((Q 7), cI E 16 rr), ((Q 8), cI E 120 ww), ((Q 0), .inr (12, [vR (Q 1), vR (Q 2), vR (Q 3), vR (Q 4), vR (Q 5), vI pn, vR (Q 6), vL f0, vL f1, vL f2, vL f3, vL (1000 * ((f0 * f2) + (f1 * f3))), vL (1000 * ((f1 * f2) - (f0 * f3))), vL ((f2 * f2) + (f3 * f3)), vI rg, vI wr, vR (Q 7), vI rn, vR (Q 8), vI wn])), ((Q 1), cL E 310 a)]) (st' := [vI (bP (hldA a 2 (1000 * ((f0 * f2) + (f1 * f3))) (1000 * ((f1 * f2) - (f0 * f3))) ((f2 * f2) + (f3 * f3)) = true)), vI 3]) rfl rfl ?_
  refine g_sub (ws' := [((Q 0), .inr (12, [vR (Q 1), vR (Q 2), vR (Q 3), vR (Q 4), vR (Q 5), vI pn, vR (Q 6), vL f0, vL f1, vL f2, vL f3, vL (1000 * ((f0 * f2) + (f1 * f3))), vL (1000 * ((f1 * f2) - (f0 * f3))), vL ((f2 * f2) + (f3 * f3)), vI rg, vI wr, vR (Q 7), vI rn, vR (Q 8), vI wn])), ((Q 1), cL E 310 a), ((Q 2), cL E 310 s2), ((Q 3), cL E 620 s3), ((Q 4), cZ E 2 s4), ((Q 5), cI E 80 tx), ((Q 6), cI E 24 cosT), ((Q 7), cI E 16 rr), ((Q 8), cI E 120 ww)]) [7, 8, 0, 1, 2, 3, 4, 5, 6] rfl rfl rfl ?_
  refine g_ifb_eq C (tgt := 49) dX11_covered_40 (by decide) rfl (fun c_27 => ?_) (fun c_27 => ?_)
  · refine g_iconst C dX11_covered_49 rfl ?_
    refine g_ior C (z := I32 3) (by decide +kernel) dX11_covered_50 rfl ?_
    refine g_istore_n C (lv' := [(0, vR (Q 0)), (1, vI 3), (2, vI (bP (a 21 * a 21 ≤ f2 * f2 + f3 * f3))), (3, vI 2)]) [1, 0, 2, 3] (by decide) rfl rfl dX11_covered_51 rfl ?_
    refine g_iinc C (r := 3) (lv' := [(0, vR (Q 0)), (1, vI 3), (2, vI (bP (a 21 * a 21 ≤ f2 * f2 + f3 * f3))), (3, vI 3)]) 3 [1, 2, 3, 0] rfl (by decide) (by decide) rfl rfl dX11_covered_52 rfl ?_
    refine g_goto C (pc' := 25) dX11_covered_55 (by decide) ?_
    refine g_iload_n C 3 rfl dX11_covered_25 rfl ?_
    refine g_iconst C dX11_covered_26 rfl ?_
    refine g_icmp_ge C (tgt := 58) ⟨by decide, by decide⟩ ⟨by decide, by decide⟩ dX11_covered_27 (by decide) rfl (fun c_28 => ?_) (fun c_28 => ?_)
    · refine g_iload_n C 1 rfl dX11_covered_58 rfl ?_
      refine g_top (v' := vI (cov a f0 f1 f2 f3)) (congrArg (fun z_ : Int => vI z_) (show (cov a f0 f1 f2 f3) = 3 by unfold cov cv0 cvX cvY cvD b01; (repeat' split) <;> first | rfl | omega | contradiction)) ?_
      exact g_iret C hr rfl (Nat.le_of_ble_eq_true rfl) (Nat.le_of_ble_eq_true rfl) dX11_covered_59 ⟨(1000 * ((f0 * f2) + (f1 * f3))), (1000 * ((f1 * f2) - (f0 * f3))), ((f2 * f2) + (f3 * f3)), rfl, rfl⟩
    exact absurd c_28 (by decide)
  refine g_iconst C dX11_covered_43 rfl ?_
  refine g_iload_n C 3 rfl dX11_covered_44 rfl ?_
  refine g_ishl C (z := I32 4) (by decide +kernel) dX11_covered_45 rfl ?_
  refine g_goto C (pc' := 50) dX11_covered_46 (by decide) ?_
  refine g_ior C (z := I32 7) (by decide +kernel) dX11_covered_50 rfl ?_
  refine g_istore_n C (lv' := [(0, vR (Q 0)), (1, vI 7), (2, vI (bP (a 21 * a 21 ≤ f2 * f2 + f3 * f3))), (3, vI 2)]) [1, 0, 2, 3] (by decide) rfl rfl dX11_covered_51 rfl ?_
  refine g_iinc C (r := 3) (lv' := [(0, vR (Q 0)), (1, vI 7), (2, vI (bP (a 21 * a 21 ≤ f2 * f2 + f3 * f3))), (3, vI 3)]) 3 [1, 2, 3, 0] rfl (by decide) (by decide) rfl rfl dX11_covered_52 rfl ?_
  refine g_goto C (pc' := 25) dX11_covered_55 (by decide) ?_
  refine g_iload_n C 3 rfl dX11_covered_25 rfl ?_
  refine g_iconst C dX11_covered_26 rfl ?_
  refine g_icmp_ge C (tgt := 58) ⟨by decide, by decide⟩ ⟨by decide, by decide⟩ dX11_covered_27 (by decide) rfl (fun c_29 => ?_) (fun c_29 => ?_)
  · refine g_iload_n C 1 rfl dX11_covered_58 rfl ?_
    refine g_top (v' := vI (cov a f0 f1 f2 f3)) (congrArg (fun z_ : Int => vI z_) (show (cov a f0 f1 f2 f3) = 7 by unfold cov cv0 cvX cvY cvD b01; (repeat' split) <;> first | rfl | omega | contradiction)) ?_
    exact g_iret C hr rfl (Nat.le_of_ble_eq_true rfl) (Nat.le_of_ble_eq_true rfl) dX11_covered_59 ⟨(1000 * ((f0 * f2) + (f1 * f3))), (1000 * ((f1 * f2) - (f0 * f3))), ((f2 * f2) + (f3 * f3)), rfl, rfl⟩
  exact absurd c_29 (by decide)

theorem hyd_X11_covered : yX11_covered.cls ≠ "java/lang/invoke/MethodHandle" ∧ yX11_covered.cls ≠ "java/lang/invoke/VarHandle" ∧ (parseMethodDescriptor yX11_covered.desc).map (fun d => d.parameters.length) = some 0 := by decide +kernel
abbrev rm_M_covers : Room := { frames := 7, cells := 0, slots := 0, locals := 183 }
set_option maxHeartbeats 1000000 in
set_option maxRecDepth 100000 in
theorem M_covers (l : Launch) (E : Ev) (Q : Nat → Nat) (pn f0 f1 f2 f3 px py pb rg wr rn wn : Int) (a s2 s3 s4 tx rr ww : Int → Int) (B p q : Int) (hI : Inv a B) (hB : B ≤ 2900000) (b_p : bi p) (b_q : bi q) : Mc l yX11_covers wsX11_covers rm_M_covers E [vR (Q 0), vI p, vI q] [((Q 0), .inr (12, [vR (Q 1), vR (Q 2), vR (Q 3), vR (Q 4), vR (Q 5), vI pn, vR (Q 6), vL f0, vL f1, vL f2, vL f3, vL px, vL py, vL pb, vI rg, vI wr, vR (Q 7), vI rn, vR (Q 8), vI wn])), ((Q 1), cL E 310 a), ((Q 2), cL E 310 s2), ((Q 3), cL E 620 s3), ((Q 4), cZ E 2 s4), ((Q 5), cI E 80 tx), ((Q 6), cI E 24 cosT), ((Q 7), cI E 16 rr), ((Q 8), cI E 120 ww)] 0 0 (fun v9 w9 => ∃ (g0 : Int) (g1 : Int) (g2 : Int) (g3 : Int) (x2 : Int) (y2 : Int) (d2 : Int), v9 = some (vI (q_covers a p q)) ∧ w9 = [((Q 0), .inr (12, [vR (Q 1), vR (Q 2), vR (Q 3), vR (Q 4), vR (Q 5), vI pn, vR (Q 6), vL g0, vL g1, vL g2, vL g3, vL x2, vL y2, vL d2, vI rg, vI wr, vR (Q 7), vI rn, vR (Q 8), vI wn])), ((Q 1), cL E 310 a), ((Q 2), cL E 310 s2), ((Q 3), cL E 620 s3), ((Q 4), cZ E 2 s4), ((Q 5), cI E 80 tx), ((Q 6), cI E 24 cosT), ((Q 7), cI E 16 rr), ((Q 8), cI E 120 ww)]) := by
  refine Mc.intro (cc := cX11_covers) (maxL := 3) (ret := (some .int)) (lv0 := [(0, vR (Q 0)), (1, vI p), (2, vI q)]) (by decide +kernel) rfl rfl (Nat.le_of_ble_eq_true rfl) ?_
  intro p9 e9 s9 m9 args9 below9 meth9 c9 A9 C hr hmn
  have C : Cx p9 s9 m9 args9 meth9 c9 E A9 3 cX11_covers wsX11_covers RX11 := C
  have hI0 := hI
  obtain ⟨iP, i4, iR, iE, iN, ⟨i21, i22, i23, i24, i25, i26, i27, i28⟩, iD, iW, i35, iS, iM, i90, i91, i94, i95, i96, i97, iT, iK, i104, iPn, iPc⟩ := hI
  refine g_iload_n C 1 rfl dX11_covers_0 rfl ?_
  refine g_iload_n C 2 rfl dX11_covers_1 rfl ?_
  refine g_callS C (As := [vI p, vI q]) (wc := []) (wr := [((Q 0), .inr (12, [vR (Q 1), vR (Q 2), vR (Q 3), vR (Q 4), vR (Q 5), vI pn, vR (Q 6), vL f0, vL f1, vL f2, vL f3, vL px, vL py, vL pb, vI rg, vI wr, vR (Q 7), vI rn, vR (Q 8), vI wn])), ((Q 1), cL E 310 a), ((Q 2), cL E 310 s2), ((Q 3), cL E 620 s3), ((Q 4), cZ E 2 s4), ((Q 5), cI E 80 tx), ((Q 6), cI E 24 cosT), ((Q 7), cI E 16 rr), ((Q 8), cI E 120 ww)]) (st := []) gX11_covers_X11_isFault rfl (K_m_isFault l E p q b_p b_q) hyd_X11_isFault rfl [] [0, 1, 2, 3, 4, 5, 6, 7, 8] rfl rfl rfl rfl rfl (by decide) ⟨rfl, rfl⟩ ⟨Nat.le_of_ble_eq_true rfl, Nat.le_of_ble_eq_true rfl, Nat.le_of_ble_eq_true rfl, Nat.le_of_ble_eq_true rfl⟩ (Nat.le_of_ble_eq_true rfl) dX11_covers_2 (rfl : _ = 0) (rfl : _ = 0) rfl ?_
  rintro _ _ ⟨rfl, rfl⟩
  refine g_is (ws' := [((Q 0), .inr (12, [vR (Q 1), vR (Q 2), vR (Q 3), vR (Q 4), vR (Q 5), vI pn, vR (Q 6), vL f0, vL f1, vL f2, vL f3, vL px, vL py, vL pb, vI rg, vI wr, vR (Q 7), vI rn, vR (Q 8), vI wn])), ((Q 1), cL E 310 a), ((Q 2), cL E 310 s2), ((Q 3), cL E 620 s3), ((Q 4), cZ E 2 s4), ((Q 5), cI E 80 tx), ((Q 6), cI E 24 cosT), ((Q 7), cI E 16 rr), ((Q 8), cI E 120 ww)]) (st' := [vI (bP ((0 ≤ p ∧ p ≤ 1000) ∧ (0 ≤ q ∧ q ≤ 20000)))]) rfl rfl ?_
  refine g_ifb_ne C (tgt := 11) dX11_covers_5 (by decide) rfl (fun c_1 => ?_) (fun c_1 => ?_)
  · by_cases hDz : slD (a 15) (a 16) (Int.tdiv (a 17 * p) 1000 + q) (Int.tdiv (a 18 * p) 1000) = 0
    · refine g_aload_n C 0 rfl dX11_covers_11 rfl ?_
      refine g_iload_n C 1 rfl dX11_covers_12 rfl ?_
      refine g_iload_n C 2 rfl dX11_covers_13 rfl ?_
      refine g_callV C (b := (Q 0)) (As := [vI p, vI q]) (wc := [((Q 0), .inr (12, [vR (Q 1), vR (Q 2), vR (Q 3), vR (Q 4), vR (Q 5), vI pn, vR (Q 6), vL f0, vL f1, vL f2, vL f3, vL px, vL py, vL pb, vI rg, vI wr, vR (Q 7), vI rn, vR (Q 8), vI wn])), ((Q 1), cL E 310 a)]) (wr := [((Q 2), cL E 310 s2), ((Q 3), cL E 620 s3), ((Q 4), cZ E 2 s4), ((Q 5), cI E 80 tx), ((Q 6), cI E 24 cosT), ((Q 7), cI E 16 rr), ((Q 8), cI E 120 ww)]) (st := []) gX11_covers_X11_findsFault (q9 := 0) (ci := 12) rfl rfl rfl (K_m_fF0 l E Q pn f0 f1 f2 f3 px py pb rg wr rn wn a p q ⟨by omega, by omega⟩ (iN 15 (by decide) (by decide)) (iN 16 (by decide) (by decide)) (iN 17 (by decide) (by decide)) (iN 18 (by decide) (by decide)) (by omega) (by omega) hDz) hyd_X11_findsFault rfl [0, 1] [2, 3, 4, 5, 6, 7, 8] rfl rfl rfl rfl rfl (by decide) ⟨rfl, rfl⟩ ⟨Nat.le_of_ble_eq_true rfl, Nat.le_of_ble_eq_true rfl, Nat.le_of_ble_eq_true rfl, Nat.le_of_ble_eq_true rfl⟩ (Nat.le_of_ble_eq_true rfl) dX11_covers_14 (rfl : _ = 0) (rfl : _ = 0) rfl ?_
      rintro _ _ ⟨rfl, rfl⟩
      refine g_is (ws' := [((Q 2), cL E 310 s2), ((Q 3), cL E 620 s3), ((Q 4), cZ E 2 s4), ((Q 5), cI E 80 tx), ((Q 6), cI E 24 cosT), ((Q 7), cI E 16 rr), ((Q 8), cI E 120 ww), ((Q 0), .inr (12, [vR (Q 1), vR (Q 2), vR (Q 3), vR (Q 4), vR (Q 5), vI pn, vR (Q 6), vL f0, vL f1, vL f2, vL f3, vL px, vL py, vL pb, vI rg, vI wr, vR (Q 7), vI rn, vR (Q 8), vI wn])), ((Q 1), cL E 310 a)]) (st' := [vI 0]) rfl rfl ?_
      refine g_sub (ws' := [((Q 0), .inr (12, [vR (Q 1), vR (Q 2), vR (Q 3), vR (Q 4), vR (Q 5), vI pn, vR (Q 6), vL f0, vL f1, vL f2, vL f3, vL px, vL py, vL pb, vI rg, vI wr, vR (Q 7), vI rn, vR (Q 8), vI wn])), ((Q 1), cL E 310 a), ((Q 2), cL E 310 s2), ((Q 3), cL E 620 s3), ((Q 4), cZ E 2 s4), ((Q 5), cI E 80 tx), ((Q 6), cI E 24 cosT), ((Q 7), cI E 16 rr), ((Q 8), cI E 120 ww)]) [7, 8, 0, 1, 2, 3, 4, 5, 6] rfl rfl rfl ?_
      refine g_if_eq C (tgt := 27) ⟨by decide, by decide⟩ dX11_covers_17 (by decide) rfl (fun c_2 => ?_) (fun c_2 => ?_)
      · refine g_bipush C (by decide) dX11_covers_27 rfl ?_
        refine g_top (v' := vI (q_covers a p q)) (congrArg (fun z_ : Int => vI z_) (show (q_covers a p q) = (-5) by unfold q_covers sD fzR fzX; (repeat' split) <;> first | rfl | omega | contradiction)) ?_
        exact g_iret C hr rfl (Nat.le_of_ble_eq_true rfl) (Nat.le_of_ble_eq_true rfl) dX11_covers_29 ⟨f0, f1, f2, f3, px, py, pb, rfl, rfl⟩
      exact absurd c_2 (by decide)
    · refine g_aload_n C 0 rfl dX11_covers_11 rfl ?_
      refine g_iload_n C 1 rfl dX11_covers_12 rfl ?_
      refine g_iload_n C 2 rfl dX11_covers_13 rfl ?_
      refine g_callV C (b := (Q 0)) (As := [vI p, vI q]) (wc := [((Q 0), .inr (12, [vR (Q 1), vR (Q 2), vR (Q 3), vR (Q 4), vR (Q 5), vI pn, vR (Q 6), vL f0, vL f1, vL f2, vL f3, vL px, vL py, vL pb, vI rg, vI wr, vR (Q 7), vI rn, vR (Q 8), vI wn])), ((Q 1), cL E 310 a)]) (wr := [((Q 2), cL E 310 s2), ((Q 3), cL E 620 s3), ((Q 4), cZ E 2 s4), ((Q 5), cI E 80 tx), ((Q 6), cI E 24 cosT), ((Q 7), cI E 16 rr), ((Q 8), cI E 120 ww)]) (st := []) gX11_covers_X11_findsFault (q9 := 0) (ci := 12) rfl rfl rfl (K_m_fF1 l E Q pn f0 f1 f2 f3 px py pb rg wr rn wn a p q ⟨by omega, by omega⟩ (iN 15 (by decide) (by decide)) (iN 16 (by decide) (by decide)) (iN 17 (by decide) (by decide)) (iN 18 (by decide) (by decide)) (by omega) (by omega) hDz) hyd_X11_findsFault rfl [0, 1] [2, 3, 4, 5, 6, 7, 8] rfl rfl rfl rfl rfl (by decide) ⟨rfl, rfl⟩ ⟨Nat.le_of_ble_eq_true rfl, Nat.le_of_ble_eq_true rfl, Nat.le_of_ble_eq_true rfl, Nat.le_of_ble_eq_true rfl⟩ (Nat.le_of_ble_eq_true rfl) dX11_covers_14 (rfl : _ = 0) (rfl : _ = 0) rfl ?_
      rintro _ _ ⟨rfl, rfl⟩
      refine g_is (ws' := [((Q 2), cL E 310 s2), ((Q 3), cL E 620 s3), ((Q 4), cZ E 2 s4), ((Q 5), cI E 80 tx), ((Q 6), cI E 24 cosT), ((Q 7), cI E 16 rr), ((Q 8), cI E 120 ww), ((Q 0), .inr (12, [vR (Q 1), vR (Q 2), vR (Q 3), vR (Q 4), vR (Q 5), vI pn, vR (Q 6), vL (lim (slVa (a 14) (a 15) (a 16) ((Int.tdiv ((a 17) * p) 1000) + q) (Int.tdiv ((a 18) * p) 1000))), vL (lim (slVb (a 14) (a 15) (a 16) ((Int.tdiv ((a 17) * p) 1000) + q) (Int.tdiv ((a 18) * p) 1000))), vL (lim (slIa (a 14) (a 15) (a 16) ((Int.tdiv ((a 17) * p) 1000) + q) (Int.tdiv ((a 18) * p) 1000))), vL (lim (slIb (a 14) (a 15) (a 16) ((Int.tdiv ((a 17) * p) 1000) + q) (Int.tdiv ((a 18) * p) 1000))), vL px, vL py, vL pb, vI rg, vI wr, vR (Q 7), vI rn, vR (Q 8), vI wn])), ((Q 1), cL E 310 a)]) (st' := [vI 1]) rfl rfl ?_
      refine g_sub (ws' := [((Q 0), .inr (12, [vR (Q 1), vR (Q 2), vR (Q 3), vR (Q 4), vR (Q 5), vI pn, vR (Q 6), vL (lim (slVa (a 14) (a 15) (a 16) ((Int.tdiv ((a 17) * p) 1000) + q) (Int.tdiv ((a 18) * p) 1000))), vL (lim (slVb (a 14) (a 15) (a 16) ((Int.tdiv ((a 17) * p) 1000) + q) (Int.tdiv ((a 18) * p) 1000))), vL (lim (slIa (a 14) (a 15) (a 16) ((Int.tdiv ((a 17) * p) 1000) + q) (Int.tdiv ((a 18) * p) 1000))), vL (lim (slIb (a 14) (a 15) (a 16) ((Int.tdiv ((a 17) * p) 1000) + q) (Int.tdiv ((a 18) * p) 1000))), vL px, vL py, vL pb, vI rg, vI wr, vR (Q 7), vI rn, vR (Q 8), vI wn])), ((Q 1), cL E 310 a), ((Q 2), cL E 310 s2), ((Q 3), cL E 620 s3), ((Q 4), cZ E 2 s4), ((Q 5), cI E 80 tx), ((Q 6), cI E 24 cosT), ((Q 7), cI E 16 rr), ((Q 8), cI E 120 ww)]) [7, 8, 0, 1, 2, 3, 4, 5, 6] rfl rfl rfl ?_
      refine g_if_eq C (tgt := 27) ⟨by decide, by decide⟩ dX11_covers_17 (by decide) rfl (fun c_3 => ?_) (fun c_3 => ?_)
      · exact absurd c_3 (by decide)
      refine g_aload_n C 0 rfl dX11_covers_20 rfl ?_
      refine g_callV C (b := (Q 0)) (As := []) (wc := [((Q 0), .inr (12, [vR (Q 1), vR (Q 2), vR (Q 3), vR (Q 4), vR (Q 5), vI pn, vR (Q 6), vL (lim (slVa (a 14) (a 15) (a 16) ((Int.tdiv ((a 17) * p) 1000) + q) (Int.tdiv ((a 18) * p) 1000))), vL (lim (slVb (a 14) (a 15) (a 16) ((Int.tdiv ((a 17) * p) 1000) + q) (Int.tdiv ((a 18) * p) 1000))), vL (lim (slIa (a 14) (a 15) (a 16) ((Int.tdiv ((a 17) * p) 1000) + q) (Int.tdiv ((a 18) * p) 1000))), vL (lim (slIb (a 14) (a 15) (a 16) ((Int.tdiv ((a 17) * p) 1000) + q) (Int.tdiv ((a 18) * p) 1000))), vL px, vL py, vL pb, vI rg, vI wr, vR (Q 7), vI rn, vR (Q 8), vI wn])), ((Q 1), cL E 310 a), ((Q 2), cL E 310 s2), ((Q 3), cL E 620 s3), ((Q 4), cZ E 2 s4), ((Q 5), cI E 80 tx), ((Q 6), cI E 24 cosT), ((Q 7), cI E 16 rr), ((Q 8), cI E 120 ww)]) (wr := []) (st := []) gX11_covers_X11_covered (q9 := 0) (ci := 12) rfl rfl rfl (K_m_covered l E Q pn (lim (slVa (a 14) (a 15) (a 16) ((Int.tdiv ((a 17) * p) 1000) + q) (Int.tdiv ((a 18) * p) 1000))) (lim (slVb (a 14) (a 15) (a 16) ((Int.tdiv ((a 17) * p) 1000) + q) (Int.tdiv ((a 18) * p) 1000))) (lim (slIa (a 14) (a 15) (a 16) ((Int.tdiv ((a 17) * p) 1000) + q) (Int.tdiv ((a 18) * p) 1000))) (lim (slIb (a 14) (a 15) (a 16) ((Int.tdiv ((a 17) * p) 1000) + q) (Int.tdiv ((a 18) * p) 1000))) px py pb rg wr rn wn a s2 s3 s4 tx rr ww B hI0 hB (lim_r _) (lim_r _) (lim_r _) (lim_r _)) hyd_X11_covered rfl [0, 1, 2, 3, 4, 5, 6, 7, 8] [] rfl rfl rfl rfl rfl (by decide) ⟨rfl, rfl⟩ ⟨Nat.le_of_ble_eq_true rfl, Nat.le_of_ble_eq_true rfl, Nat.le_of_ble_eq_true rfl, Nat.le_of_ble_eq_true rfl⟩ (Nat.le_of_ble_eq_true rfl) dX11_covers_21 (rfl : _ = 0) (rfl : _ = 0) rfl ?_
      rintro _ _ ⟨x2_4, y2_5, d2_6, rfl, rfl⟩
      refine g_is (ws' := [((Q 0), .inr (12, [vR (Q 1), vR (Q 2), vR (Q 3), vR (Q 4), vR (Q 5), vI pn, vR (Q 6), vL (lim (slVa (a 14) (a 15) (a 16) ((Int.tdiv ((a 17) * p) 1000) + q) (Int.tdiv ((a 18) * p) 1000))), vL (lim (slVb (a 14) (a 15) (a 16) ((Int.tdiv ((a 17) * p) 1000) + q) (Int.tdiv ((a 18) * p) 1000))), vL (lim (slIa (a 14) (a 15) (a 16) ((Int.tdiv ((a 17) * p) 1000) + q) (Int.tdiv ((a 18) * p) 1000))), vL (lim (slIb (a 14) (a 15) (a 16) ((Int.tdiv ((a 17) * p) 1000) + q) (Int.tdiv ((a 18) * p) 1000))), vL x2_4, vL y2_5, vL d2_6, vI rg, vI wr, vR (Q 7), vI rn, vR (Q 8), vI wn])), ((Q 1), cL E 310 a), ((Q 2), cL E 310 s2), ((Q 3), cL E 620 s3), ((Q 4), cZ E 2 s4), ((Q 5), cI E 80 tx), ((Q 6), cI E 24 cosT), ((Q 7), cI E 16 rr), ((Q 8), cI E 120 ww)]) (st' := [vI (cov a (lim (slVa (a 14) (a 15) (a 16) ((Int.tdiv ((a 17) * p) 1000) + q) (Int.tdiv ((a 18) * p) 1000))) (lim (slVb (a 14) (a 15) (a 16) ((Int.tdiv ((a 17) * p) 1000) + q) (Int.tdiv ((a 18) * p) 1000))) (lim (slIa (a 14) (a 15) (a 16) ((Int.tdiv ((a 17) * p) 1000) + q) (Int.tdiv ((a 18) * p) 1000))) (lim (slIb (a 14) (a 15) (a 16) ((Int.tdiv ((a 17) * p) 1000) + q) (Int.tdiv ((a 18) * p) 1000))))]) rfl rfl ?_
      refine g_goto C (pc' := 29) dX11_covers_24 (by decide) ?_
      refine g_top (v' := vI (q_covers a p q)) (congrArg (fun z_ : Int => vI z_) (show (q_covers a p q) = (cov a (lim (slVa (a 14) (a 15) (a 16) ((Int.tdiv ((a 17) * p) 1000) + q) (Int.tdiv ((a 18) * p) 1000))) (lim (slVb (a 14) (a 15) (a 16) ((Int.tdiv ((a 17) * p) 1000) + q) (Int.tdiv ((a 18) * p) 1000))) (lim (slIa (a 14) (a 15) (a 16) ((Int.tdiv ((a 17) * p) 1000) + q) (Int.tdiv ((a 18) * p) 1000))) (lim (slIb (a 14) (a 15) (a 16) ((Int.tdiv ((a 17) * p) 1000) + q) (Int.tdiv ((a 18) * p) 1000)))) by unfold q_covers sD fzR fzX; (repeat' split) <;> first | rfl | omega | contradiction)) ?_
      exact g_iret C hr rfl (Nat.le_of_ble_eq_true rfl) (Nat.le_of_ble_eq_true rfl) dX11_covers_29 ⟨(lim (slVa (a 14) (a 15) (a 16) ((Int.tdiv ((a 17) * p) 1000) + q) (Int.tdiv ((a 18) * p) 1000))), (lim (slVb (a 14) (a 15) (a 16) ((Int.tdiv ((a 17) * p) 1000) + q) (Int.tdiv ((a 18) * p) 1000))), (lim (slIa (a 14) (a 15) (a 16) ((Int.tdiv ((a 17) * p) 1000) + q) (Int.tdiv ((a 18) * p) 1000))), (lim (slIb (a 14) (a 15) (a 16) ((Int.tdiv ((a 17) * p) 1000) + q) (Int.tdiv ((a 18) * p) 1000))), x2_4, y2_5, d2_6, rfl, rfl⟩
  refine g_bipush C (by decide) dX11_covers_8 rfl ?_
  refine g_top (v' := vI (q_covers a p q)) (congrArg (fun z_ : Int => vI z_) (show (q_covers a p q) = (-2) by unfold q_covers sD fzR fzX; (repeat' split) <;> first | rfl | omega | contradiction)) ?_
  exact g_iret C hr rfl (Nat.le_of_ble_eq_true rfl) (Nat.le_of_ble_eq_true rfl) dX11_covers_10 ⟨f0, f1, f2, f3, px, py, pb, rfl, rfl⟩

theorem w_X11_reach_k46 : Cond.constantLong RX11 46 (20000) ∈ wsX11_reach := by decide +kernel
abbrev rm_M_reach : Room := { frames := 7, cells := 0, slots := 0, locals := 183 }
set_option maxHeartbeats 1000000 in
set_option maxRecDepth 100000 in
theorem M_reach (l : Launch) (E : Ev) (Q : Nat → Nat) (pn f0 f1 f2 f3 px py pb rg wr rn wn : Int) (a s2 s3 s4 tx rr ww : Int → Int) (B z q : Int) (hI : Inv a B) (hB : B ≤ 2900000) (b_z : bi z) (b_q : bi q) : Mc l yX11_reach wsX11_reach rm_M_reach E [vR (Q 0), vI z, vI q] [((Q 0), .inr (12, [vR (Q 1), vR (Q 2), vR (Q 3), vR (Q 4), vR (Q 5), vI pn, vR (Q 6), vL f0, vL f1, vL f2, vL f3, vL px, vL py, vL pb, vI rg, vI wr, vR (Q 7), vI rn, vR (Q 8), vI wn])), ((Q 1), cL E 310 a), ((Q 2), cL E 310 s2), ((Q 3), cL E 620 s3), ((Q 4), cZ E 2 s4), ((Q 5), cI E 80 tx), ((Q 6), cI E 24 cosT), ((Q 7), cI E 16 rr), ((Q 8), cI E 120 ww)] 0 0 (fun v9 w9 => ∃ (g0 : Int) (g1 : Int) (g2 : Int) (g3 : Int) (x2 : Int) (y2 : Int) (d2 : Int), v9 = some (vI (q_reach a z q)) ∧ w9 = [((Q 0), .inr (12, [vR (Q 1), vR (Q 2), vR (Q 3), vR (Q 4), vR (Q 5), vI pn, vR (Q 6), vL g0, vL g1, vL g2, vL g3, vL x2, vL y2, vL d2, vI rg, vI wr, vR (Q 7), vI rn, vR (Q 8), vI wn])), ((Q 1), cL E 310 a), ((Q 2), cL E 310 s2), ((Q 3), cL E 620 s3), ((Q 4), cZ E 2 s4), ((Q 5), cI E 80 tx), ((Q 6), cI E 24 cosT), ((Q 7), cI E 16 rr), ((Q 8), cI E 120 ww)]) := by
  refine Mc.intro (cc := cX11_reach) (maxL := 4) (ret := (some .int)) (lv0 := [(0, vR (Q 0)), (1, vI z), (2, vI q)]) (by decide +kernel) rfl rfl (Nat.le_of_ble_eq_true rfl) ?_
  intro p9 e9 s9 m9 args9 below9 meth9 c9 A9 C hr hmn
  have C : Cx p9 s9 m9 args9 meth9 c9 E A9 4 cX11_reach wsX11_reach RX11 := C
  have hI0 := hI
  obtain ⟨iP, i4, iR, iE, iN, ⟨i21, i22, i23, i24, i25, i26, i27, i28⟩, iD, iW, i35, iS, iM, i90, i91, i94, i95, i96, i97, iT, iK, i104, iPn, iPc⟩ := hI
  refine g_iload_n C 1 rfl dX11_reach_0 rfl ?_
  refine g_callS C (As := [vI z]) (wc := []) (wr := [((Q 0), .inr (12, [vR (Q 1), vR (Q 2), vR (Q 3), vR (Q 4), vR (Q 5), vI pn, vR (Q 6), vL f0, vL f1, vL f2, vL f3, vL px, vL py, vL pb, vI rg, vI wr, vR (Q 7), vI rn, vR (Q 8), vI wn])), ((Q 1), cL E 310 a), ((Q 2), cL E 310 s2), ((Q 3), cL E 620 s3), ((Q 4), cZ E 2 s4), ((Q 5), cI E 80 tx), ((Q 6), cI E 24 cosT), ((Q 7), cI E 16 rr), ((Q 8), cI E 120 ww)]) (st := []) gX11_reach_X11_isZone rfl (K_m_isZone l E z b_z) hyd_X11_isZone rfl [] [0, 1, 2, 3, 4, 5, 6, 7, 8] rfl rfl rfl rfl rfl (by decide) ⟨rfl, rfl⟩ ⟨Nat.le_of_ble_eq_true rfl, Nat.le_of_ble_eq_true rfl, Nat.le_of_ble_eq_true rfl, Nat.le_of_ble_eq_true rfl⟩ (Nat.le_of_ble_eq_true rfl) dX11_reach_1 (rfl : _ = 0) (rfl : _ = 0) rfl ?_
  rintro _ _ ⟨rfl, rfl⟩
  refine g_is (ws' := [((Q 0), .inr (12, [vR (Q 1), vR (Q 2), vR (Q 3), vR (Q 4), vR (Q 5), vI pn, vR (Q 6), vL f0, vL f1, vL f2, vL f3, vL px, vL py, vL pb, vI rg, vI wr, vR (Q 7), vI rn, vR (Q 8), vI wn])), ((Q 1), cL E 310 a), ((Q 2), cL E 310 s2), ((Q 3), cL E 620 s3), ((Q 4), cZ E 2 s4), ((Q 5), cI E 80 tx), ((Q 6), cI E 24 cosT), ((Q 7), cI E 16 rr), ((Q 8), cI E 120 ww)]) (st' := [vI (bP (0 ≤ z ∧ z ≤ 2))]) rfl rfl ?_
  refine g_ifb_ne C (tgt := 9) dX11_reach_4 (by decide) rfl (fun c_1 => ?_) (fun c_1 => ?_)
  · refine g_iload_n C 2 rfl dX11_reach_9 rfl ?_
    refine g_i2l C (b_q) rfl dX11_reach_10 rfl ?_
    refine g_lconst0 C dX11_reach_11 rfl ?_
    refine g_ldc2 C (x := 20000) w_X11_reach_k46 (by decide) dX11_reach_12 rfl ?_
    refine g_callS C (As := [vL q, vL 0, vL 20000]) (wc := []) (wr := [((Q 0), .inr (12, [vR (Q 1), vR (Q 2), vR (Q 3), vR (Q 4), vR (Q 5), vI pn, vR (Q 6), vL f0, vL f1, vL f2, vL f3, vL px, vL py, vL pb, vI rg, vI wr, vR (Q 7), vI rn, vR (Q 8), vI wn])), ((Q 1), cL E 310 a), ((Q 2), cL E 310 s2), ((Q 3), cL E 620 s3), ((Q 4), cZ E 2 s4), ((Q 5), cI E 80 tx), ((Q 6), cI E 24 cosT), ((Q 7), cI E 16 rr), ((Q 8), cI E 120 ww)]) (st := []) gX11_reach_X11_in rfl (K_m_in l E q 0 20000 ⟨by omega, by omega⟩ ⟨by omega, by omega⟩ ⟨by omega, by omega⟩) hyd_X11_in rfl [] [0, 1, 2, 3, 4, 5, 6, 7, 8] rfl rfl rfl rfl rfl (by decide) ⟨rfl, rfl⟩ ⟨Nat.le_of_ble_eq_true rfl, Nat.le_of_ble_eq_true rfl, Nat.le_of_ble_eq_true rfl, Nat.le_of_ble_eq_true rfl⟩ (Nat.le_of_ble_eq_true rfl) dX11_reach_15 (rfl : _ = 0) (rfl : _ = 0) rfl ?_
    rintro _ _ ⟨rfl, rfl⟩
    refine g_is (ws' := [((Q 0), .inr (12, [vR (Q 1), vR (Q 2), vR (Q 3), vR (Q 4), vR (Q 5), vI pn, vR (Q 6), vL f0, vL f1, vL f2, vL f3, vL px, vL py, vL pb, vI rg, vI wr, vR (Q 7), vI rn, vR (Q 8), vI wn])), ((Q 1), cL E 310 a), ((Q 2), cL E 310 s2), ((Q 3), cL E 620 s3), ((Q 4), cZ E 2 s4), ((Q 5), cI E 80 tx), ((Q 6), cI E 24 cosT), ((Q 7), cI E 16 rr), ((Q 8), cI E 120 ww)]) (st' := [vI (bP (0 ≤ q ∧ q ≤ 20000))]) rfl rfl ?_
    refine g_ifb_ne C (tgt := 24) dX11_reach_18 (by decide) rfl (fun c_2 => ?_) (fun c_2 => ?_)
    · refine g_iconst C dX11_reach_24 rfl ?_
      refine g_istore_n C (lv' := [(0, vR (Q 0)), (1, vI z), (2, vI q), (3, vI 0)]) [1, 2, 3, 0] (by decide) rfl rfl dX11_reach_25 rfl ?_
      have hL_26 : ∀ (fuel : Nat) (i : Int) (u0 : Int) (u1 : Int) (u2 : Int) (u3 : Int) (x9 : Int) (y9 : Int) (d9 : Int) (h0 : 0 ≤ i) (h1 : i ≤ 1001) (hrc : rch a q z 1001 0 = rch a q z (Int.toNat (1001 - i)) i) (hfu : (1001 - i).toNat = fuel), G p9 l e9 rm_M_reach s9 m9 args9 below9 meth9 c9 (RQ E (fun v9 w9 => ∃ (g0 : Int) (g1 : Int) (g2 : Int) (g3 : Int) (x2 : Int) (y2 : Int) (d2 : Int), v9 = some (vI (q_reach a z q)) ∧ w9 = [((Q 0), .inr (12, [vR (Q 1), vR (Q 2), vR (Q 3), vR (Q 4), vR (Q 5), vI pn, vR (Q 6), vL g0, vL g1, vL g2, vL g3, vL x2, vL y2, vL d2, vI rg, vI wr, vR (Q 7), vI rn, vR (Q 8), vI wn])), ((Q 1), cL E 310 a), ((Q 2), cL E 310 s2), ((Q 3), cL E 620 s3), ((Q 4), cZ E 2 s4), ((Q 5), cI E 80 tx), ((Q 6), cI E 24 cosT), ((Q 7), cI E 16 rr), ((Q 8), cI E 120 ww)]) A9 below9 args9 s9 0 0) E A9 4 0 0 [((Q 0), .inr (12, [vR (Q 1), vR (Q 2), vR (Q 3), vR (Q 4), vR (Q 5), vI pn, vR (Q 6), vL u0, vL u1, vL u2, vL u3, vL x9, vL y9, vL d9, vI rg, vI wr, vR (Q 7), vI rn, vR (Q 8), vI wn])), ((Q 1), cL E 310 a), ((Q 2), cL E 310 s2), ((Q 3), cL E 620 s3), ((Q 4), cZ E 2 s4), ((Q 5), cI E 80 tx), ((Q 6), cI E 24 cosT), ((Q 7), cI E 16 rr), ((Q 8), cI E 120 ww)] [(0, vR (Q 0)), (1, vI z), (2, vI q), (3, vI i)] 26 [] := by
        intro fuel
        induction fuel using Nat.strongRecOn with
        | ind fuel ih =>
          intro i u0 u1 u2 u3 x9 y9 d9 h0 h1 hrc hfu
          refine g_iload_n C 3 rfl dX11_reach_26 rfl ?_
          refine g_sipush C (by decide) dX11_reach_27 rfl ?_
          refine g_icmp_gt C (tgt := 60) ⟨by omega, by omega⟩ ⟨by decide, by decide⟩ dX11_reach_30 (by decide) rfl (fun c_3 => ?_) (fun c_3 => ?_)
          · have er : rch a q z 1001 0 = i := by rw [hrc]; first | (rw [show Int.toNat (1001 - i) = 0 by omega]; rfl) | exact rch_n (fun h => h.1 hDz) | exact rch_n (fun h => by have h2 := h.2; omega)
            refine g_iload_n C 3 rfl dX11_reach_60 rfl ?_
            refine g_if_ne C (tgt := 69) ⟨by omega, by omega⟩ dX11_reach_61 (by decide) rfl (fun c_4 => ?_) (fun c_4 => ?_)
            · refine g_iload_n C 3 rfl dX11_reach_69 rfl ?_
              refine g_iconst C dX11_reach_70 rfl ?_
              refine g_isub C rfl dX11_reach_71 rfl ?_
              refine g_top (v' := vI (q_reach a z q)) (congrArg (fun z_ : Int => vI z_) (show (q_reach a z q) = (i - 1) by unfold q_reach; (repeat' split) <;> first | rfl | omega | contradiction)) ?_
              exact g_iret C hr rfl (Nat.le_of_ble_eq_true rfl) (Nat.le_of_ble_eq_true rfl) dX11_reach_72 ⟨u0, u1, u2, u3, x9, y9, d9, rfl, rfl⟩
            refine g_bipush C (by decide) dX11_reach_64 rfl ?_
            refine g_goto C (pc' := 72) dX11_reach_66 (by decide) ?_
            refine g_top (v' := vI (q_reach a z q)) (congrArg (fun z_ : Int => vI z_) (show (q_reach a z q) = (-6) by unfold q_reach; (repeat' split) <;> first | rfl | omega | contradiction)) ?_
            exact g_iret C hr rfl (Nat.le_of_ble_eq_true rfl) (Nat.le_of_ble_eq_true rfl) dX11_reach_72 ⟨u0, u1, u2, u3, x9, y9, d9, rfl, rfl⟩
          by_cases hDz : slD (a 15) (a 16) (Int.tdiv (a 17 * i) 1000 + q) (Int.tdiv (a 18 * i) 1000) = 0
          · refine g_aload_n C 0 rfl dX11_reach_33 rfl ?_
            refine g_iload_n C 3 rfl dX11_reach_34 rfl ?_
            refine g_iload_n C 2 rfl dX11_reach_35 rfl ?_
            refine g_callV C (b := (Q 0)) (As := [vI i, vI q]) (wc := [((Q 0), .inr (12, [vR (Q 1), vR (Q 2), vR (Q 3), vR (Q 4), vR (Q 5), vI pn, vR (Q 6), vL u0, vL u1, vL u2, vL u3, vL x9, vL y9, vL d9, vI rg, vI wr, vR (Q 7), vI rn, vR (Q 8), vI wn])), ((Q 1), cL E 310 a)]) (wr := [((Q 2), cL E 310 s2), ((Q 3), cL E 620 s3), ((Q 4), cZ E 2 s4), ((Q 5), cI E 80 tx), ((Q 6), cI E 24 cosT), ((Q 7), cI E 16 rr), ((Q 8), cI E 120 ww)]) (st := []) gX11_reach_X11_findsFault (q9 := 0) (ci := 12) rfl rfl rfl (K_m_fF0 l E Q pn u0 u1 u2 u3 x9 y9 d9 rg wr rn wn a i q ⟨by omega, by omega⟩ (iN 15 (by decide) (by decide)) (iN 16 (by decide) (by decide)) (iN 17 (by decide) (by decide)) (iN 18 (by decide) (by decide)) (by omega) (by omega) hDz) hyd_X11_findsFault rfl [0, 1] [2, 3, 4, 5, 6, 7, 8] rfl rfl rfl rfl rfl (by decide) ⟨rfl, rfl⟩ ⟨Nat.le_of_ble_eq_true rfl, Nat.le_of_ble_eq_true rfl, Nat.le_of_ble_eq_true rfl, Nat.le_of_ble_eq_true rfl⟩ (Nat.le_of_ble_eq_true rfl) dX11_reach_36 (rfl : _ = 0) (rfl : _ = 0) rfl ?_
            rintro _ _ ⟨rfl, rfl⟩
            refine g_is (ws' := [((Q 2), cL E 310 s2), ((Q 3), cL E 620 s3), ((Q 4), cZ E 2 s4), ((Q 5), cI E 80 tx), ((Q 6), cI E 24 cosT), ((Q 7), cI E 16 rr), ((Q 8), cI E 120 ww), ((Q 0), .inr (12, [vR (Q 1), vR (Q 2), vR (Q 3), vR (Q 4), vR (Q 5), vI pn, vR (Q 6), vL u0, vL u1, vL u2, vL u3, vL x9, vL y9, vL d9, vI rg, vI wr, vR (Q 7), vI rn, vR (Q 8), vI wn])), ((Q 1), cL E 310 a)]) (st' := [vI 0]) rfl rfl ?_
            refine g_sub (ws' := [((Q 0), .inr (12, [vR (Q 1), vR (Q 2), vR (Q 3), vR (Q 4), vR (Q 5), vI pn, vR (Q 6), vL u0, vL u1, vL u2, vL u3, vL x9, vL y9, vL d9, vI rg, vI wr, vR (Q 7), vI rn, vR (Q 8), vI wn])), ((Q 1), cL E 310 a), ((Q 2), cL E 310 s2), ((Q 3), cL E 620 s3), ((Q 4), cZ E 2 s4), ((Q 5), cI E 80 tx), ((Q 6), cI E 24 cosT), ((Q 7), cI E 16 rr), ((Q 8), cI E 120 ww)]) [7, 8, 0, 1, 2, 3, 4, 5, 6] rfl rfl rfl ?_
            refine g_if_eq C (tgt := 60) ⟨by decide, by decide⟩ dX11_reach_39 (by decide) rfl (fun c_5 => ?_) (fun c_5 => ?_)
            · have er : rch a q z 1001 0 = i := by rw [hrc]; first | (rw [show Int.toNat (1001 - i) = 0 by omega]; rfl) | exact rch_n (fun h => h.1 hDz) | exact rch_n (fun h => by have h2 := h.2; omega)
              refine g_iload_n C 3 rfl dX11_reach_60 rfl ?_
              refine g_if_ne C (tgt := 69) ⟨by omega, by omega⟩ dX11_reach_61 (by decide) rfl (fun c_6 => ?_) (fun c_6 => ?_)
              · refine g_iload_n C 3 rfl dX11_reach_69 rfl ?_
                refine g_iconst C dX11_reach_70 rfl ?_
                refine g_isub C rfl dX11_reach_71 rfl ?_
                refine g_top (v' := vI (q_reach a z q)) (congrArg (fun z_ : Int => vI z_) (show (q_reach a z q) = (i - 1) by unfold q_reach; (repeat' split) <;> first | rfl | omega | contradiction)) ?_
                exact g_iret C hr rfl (Nat.le_of_ble_eq_true rfl) (Nat.le_of_ble_eq_true rfl) dX11_reach_72 ⟨u0, u1, u2, u3, x9, y9, d9, rfl, rfl⟩
              refine g_bipush C (by decide) dX11_reach_64 rfl ?_
              refine g_goto C (pc' := 72) dX11_reach_66 (by decide) ?_
              refine g_top (v' := vI (q_reach a z q)) (congrArg (fun z_ : Int => vI z_) (show (q_reach a z q) = (-6) by unfold q_reach; (repeat' split) <;> first | rfl | omega | contradiction)) ?_
              exact g_iret C hr rfl (Nat.le_of_ble_eq_true rfl) (Nat.le_of_ble_eq_true rfl) dX11_reach_72 ⟨u0, u1, u2, u3, x9, y9, d9, rfl, rfl⟩
            exact absurd c_5 (by decide)
          · refine g_aload_n C 0 rfl dX11_reach_33 rfl ?_
            refine g_iload_n C 3 rfl dX11_reach_34 rfl ?_
            refine g_iload_n C 2 rfl dX11_reach_35 rfl ?_
            refine g_callV C (b := (Q 0)) (As := [vI i, vI q]) (wc := [((Q 0), .inr (12, [vR (Q 1), vR (Q 2), vR (Q 3), vR (Q 4), vR (Q 5), vI pn, vR (Q 6), vL u0, vL u1, vL u2, vL u3, vL x9, vL y9, vL d9, vI rg, vI wr, vR (Q 7), vI rn, vR (Q 8), vI wn])), ((Q 1), cL E 310 a)]) (wr := [((Q 2), cL E 310 s2), ((Q 3), cL E 620 s3), ((Q 4), cZ E 2 s4), ((Q 5), cI E 80 tx), ((Q 6), cI E 24 cosT), ((Q 7), cI E 16 rr), ((Q 8), cI E 120 ww)]) (st := []) gX11_reach_X11_findsFault (q9 := 0) (ci := 12) rfl rfl rfl (K_m_fF1 l E Q pn u0 u1 u2 u3 x9 y9 d9 rg wr rn wn a i q ⟨by omega, by omega⟩ (iN 15 (by decide) (by decide)) (iN 16 (by decide) (by decide)) (iN 17 (by decide) (by decide)) (iN 18 (by decide) (by decide)) (by omega) (by omega) hDz) hyd_X11_findsFault rfl [0, 1] [2, 3, 4, 5, 6, 7, 8] rfl rfl rfl rfl rfl (by decide) ⟨rfl, rfl⟩ ⟨Nat.le_of_ble_eq_true rfl, Nat.le_of_ble_eq_true rfl, Nat.le_of_ble_eq_true rfl, Nat.le_of_ble_eq_true rfl⟩ (Nat.le_of_ble_eq_true rfl) dX11_reach_36 (rfl : _ = 0) (rfl : _ = 0) rfl ?_
            rintro _ _ ⟨rfl, rfl⟩
            refine g_is (ws' := [((Q 2), cL E 310 s2), ((Q 3), cL E 620 s3), ((Q 4), cZ E 2 s4), ((Q 5), cI E 80 tx), ((Q 6), cI E 24 cosT), ((Q 7), cI E 16 rr), ((Q 8), cI E 120 ww), ((Q 0), .inr (12, [vR (Q 1), vR (Q 2), vR (Q 3), vR (Q 4), vR (Q 5), vI pn, vR (Q 6), vL (lim (slVa (a 14) (a 15) (a 16) ((Int.tdiv ((a 17) * i) 1000) + q) (Int.tdiv ((a 18) * i) 1000))), vL (lim (slVb (a 14) (a 15) (a 16) ((Int.tdiv ((a 17) * i) 1000) + q) (Int.tdiv ((a 18) * i) 1000))), vL (lim (slIa (a 14) (a 15) (a 16) ((Int.tdiv ((a 17) * i) 1000) + q) (Int.tdiv ((a 18) * i) 1000))), vL (lim (slIb (a 14) (a 15) (a 16) ((Int.tdiv ((a 17) * i) 1000) + q) (Int.tdiv ((a 18) * i) 1000))), vL x9, vL y9, vL d9, vI rg, vI wr, vR (Q 7), vI rn, vR (Q 8), vI wn])), ((Q 1), cL E 310 a)]) (st' := [vI 1]) rfl rfl ?_
            refine g_sub (ws' := [((Q 0), .inr (12, [vR (Q 1), vR (Q 2), vR (Q 3), vR (Q 4), vR (Q 5), vI pn, vR (Q 6), vL (lim (slVa (a 14) (a 15) (a 16) ((Int.tdiv ((a 17) * i) 1000) + q) (Int.tdiv ((a 18) * i) 1000))), vL (lim (slVb (a 14) (a 15) (a 16) ((Int.tdiv ((a 17) * i) 1000) + q) (Int.tdiv ((a 18) * i) 1000))), vL (lim (slIa (a 14) (a 15) (a 16) ((Int.tdiv ((a 17) * i) 1000) + q) (Int.tdiv ((a 18) * i) 1000))), vL (lim (slIb (a 14) (a 15) (a 16) ((Int.tdiv ((a 17) * i) 1000) + q) (Int.tdiv ((a 18) * i) 1000))), vL x9, vL y9, vL d9, vI rg, vI wr, vR (Q 7), vI rn, vR (Q 8), vI wn])), ((Q 1), cL E 310 a), ((Q 2), cL E 310 s2), ((Q 3), cL E 620 s3), ((Q 4), cZ E 2 s4), ((Q 5), cI E 80 tx), ((Q 6), cI E 24 cosT), ((Q 7), cI E 16 rr), ((Q 8), cI E 120 ww)]) [7, 8, 0, 1, 2, 3, 4, 5, 6] rfl rfl rfl ?_
            refine g_if_eq C (tgt := 60) ⟨by decide, by decide⟩ dX11_reach_39 (by decide) rfl (fun c_7 => ?_) (fun c_7 => ?_)
            · exact absurd c_7 (by decide)
            refine g_aload_n C 0 rfl dX11_reach_42 rfl ?_
            refine g_callV C (b := (Q 0)) (As := []) (wc := [((Q 0), .inr (12, [vR (Q 1), vR (Q 2), vR (Q 3), vR (Q 4), vR (Q 5), vI pn, vR (Q 6), vL (lim (slVa (a 14) (a 15) (a 16) ((Int.tdiv ((a 17) * i) 1000) + q) (Int.tdiv ((a 18) * i) 1000))), vL (lim (slVb (a 14) (a 15) (a 16) ((Int.tdiv ((a 17) * i) 1000) + q) (Int.tdiv ((a 18) * i) 1000))), vL (lim (slIa (a 14) (a 15) (a 16) ((Int.tdiv ((a 17) * i) 1000) + q) (Int.tdiv ((a 18) * i) 1000))), vL (lim (slIb (a 14) (a 15) (a 16) ((Int.tdiv ((a 17) * i) 1000) + q) (Int.tdiv ((a 18) * i) 1000))), vL x9, vL y9, vL d9, vI rg, vI wr, vR (Q 7), vI rn, vR (Q 8), vI wn])), ((Q 1), cL E 310 a), ((Q 2), cL E 310 s2), ((Q 3), cL E 620 s3), ((Q 4), cZ E 2 s4), ((Q 5), cI E 80 tx), ((Q 6), cI E 24 cosT), ((Q 7), cI E 16 rr), ((Q 8), cI E 120 ww)]) (wr := []) (st := []) gX11_reach_X11_covered (q9 := 0) (ci := 12) rfl rfl rfl (K_m_covered l E Q pn (lim (slVa (a 14) (a 15) (a 16) ((Int.tdiv ((a 17) * i) 1000) + q) (Int.tdiv ((a 18) * i) 1000))) (lim (slVb (a 14) (a 15) (a 16) ((Int.tdiv ((a 17) * i) 1000) + q) (Int.tdiv ((a 18) * i) 1000))) (lim (slIa (a 14) (a 15) (a 16) ((Int.tdiv ((a 17) * i) 1000) + q) (Int.tdiv ((a 18) * i) 1000))) (lim (slIb (a 14) (a 15) (a 16) ((Int.tdiv ((a 17) * i) 1000) + q) (Int.tdiv ((a 18) * i) 1000))) x9 y9 d9 rg wr rn wn a s2 s3 s4 tx rr ww B hI0 hB (lim_r _) (lim_r _) (lim_r _) (lim_r _)) hyd_X11_covered rfl [0, 1, 2, 3, 4, 5, 6, 7, 8] [] rfl rfl rfl rfl rfl (by decide) ⟨rfl, rfl⟩ ⟨Nat.le_of_ble_eq_true rfl, Nat.le_of_ble_eq_true rfl, Nat.le_of_ble_eq_true rfl, Nat.le_of_ble_eq_true rfl⟩ (Nat.le_of_ble_eq_true rfl) dX11_reach_43 (rfl : _ = 0) (rfl : _ = 0) rfl ?_
            rintro _ _ ⟨x2_8, y2_9, d2_10, rfl, rfl⟩
            refine g_is (ws' := [((Q 0), .inr (12, [vR (Q 1), vR (Q 2), vR (Q 3), vR (Q 4), vR (Q 5), vI pn, vR (Q 6), vL (lim (slVa (a 14) (a 15) (a 16) ((Int.tdiv ((a 17) * i) 1000) + q) (Int.tdiv ((a 18) * i) 1000))), vL (lim (slVb (a 14) (a 15) (a 16) ((Int.tdiv ((a 17) * i) 1000) + q) (Int.tdiv ((a 18) * i) 1000))), vL (lim (slIa (a 14) (a 15) (a 16) ((Int.tdiv ((a 17) * i) 1000) + q) (Int.tdiv ((a 18) * i) 1000))), vL (lim (slIb (a 14) (a 15) (a 16) ((Int.tdiv ((a 17) * i) 1000) + q) (Int.tdiv ((a 18) * i) 1000))), vL x2_8, vL y2_9, vL d2_10, vI rg, vI wr, vR (Q 7), vI rn, vR (Q 8), vI wn])), ((Q 1), cL E 310 a), ((Q 2), cL E 310 s2), ((Q 3), cL E 620 s3), ((Q 4), cZ E 2 s4), ((Q 5), cI E 80 tx), ((Q 6), cI E 24 cosT), ((Q 7), cI E 16 rr), ((Q 8), cI E 120 ww)]) (st' := [vI (cov a (lim (slVa (a 14) (a 15) (a 16) ((Int.tdiv ((a 17) * i) 1000) + q) (Int.tdiv ((a 18) * i) 1000))) (lim (slVb (a 14) (a 15) (a 16) ((Int.tdiv ((a 17) * i) 1000) + q) (Int.tdiv ((a 18) * i) 1000))) (lim (slIa (a 14) (a 15) (a 16) ((Int.tdiv ((a 17) * i) 1000) + q) (Int.tdiv ((a 18) * i) 1000))) (lim (slIb (a 14) (a 15) (a 16) ((Int.tdiv ((a 17) * i) 1000) + q) (Int.tdiv ((a 18) * i) 1000))))]) rfl rfl ?_
            have hcv := cov_r a (sVa a (fzR a i q) (fzX a i)) (sVb a (fzR a i q) (fzX a i)) (sIa a (fzR a i q) (fzX a i)) (sIb a (fzR a i q) (fzX a i))
            refine g_top (v' := vI (covZ a (fzR a i q) (fzX a i))) rfl ?_
            refine g_iload_n C 1 rfl dX11_reach_46 rfl ?_
            refine g_ishr C (z := I32 (shrI (covZ a (fzR a i q) (fzX a i)) z)) (shr_I hcv (by omega)) dX11_reach_47 rfl ?_
            refine g_iconst C dX11_reach_48 rfl ?_
            refine g_iand C (z := I32 (bt (covZ a (fzR a i q) (fzX a i)) z)) (and1_I (shrI_r hcv (by omega))) dX11_reach_49 rfl ?_
            refine g_iconst C dX11_reach_50 rfl ?_
            refine g_icmp_ne C (tgt := 60) (bt_bi _ _) ⟨by decide, by decide⟩ dX11_reach_51 (by decide) rfl (fun c_11 => ?_) (fun c_11 => ?_)
            · have er : rch a q z 1001 0 = i := by rw [hrc]; first | (rw [show Int.toNat (1001 - i) = 0 by omega]; rfl) | exact rch_n (fun h => h.1 hDz) | exact rch_n (fun h => by have h2 := h.2; omega)
              refine g_iload_n C 3 rfl dX11_reach_60 rfl ?_
              refine g_if_ne C (tgt := 69) ⟨by omega, by omega⟩ dX11_reach_61 (by decide) rfl (fun c_12 => ?_) (fun c_12 => ?_)
              · refine g_iload_n C 3 rfl dX11_reach_69 rfl ?_
                refine g_iconst C dX11_reach_70 rfl ?_
                refine g_isub C rfl dX11_reach_71 rfl ?_
                refine g_top (v' := vI (q_reach a z q)) (congrArg (fun z_ : Int => vI z_) (show (q_reach a z q) = (i - 1) by unfold q_reach; (repeat' split) <;> first | rfl | omega | contradiction)) ?_
                exact g_iret C hr rfl (Nat.le_of_ble_eq_true rfl) (Nat.le_of_ble_eq_true rfl) dX11_reach_72 ⟨(lim (slVa (a 14) (a 15) (a 16) ((Int.tdiv ((a 17) * i) 1000) + q) (Int.tdiv ((a 18) * i) 1000))), (lim (slVb (a 14) (a 15) (a 16) ((Int.tdiv ((a 17) * i) 1000) + q) (Int.tdiv ((a 18) * i) 1000))), (lim (slIa (a 14) (a 15) (a 16) ((Int.tdiv ((a 17) * i) 1000) + q) (Int.tdiv ((a 18) * i) 1000))), (lim (slIb (a 14) (a 15) (a 16) ((Int.tdiv ((a 17) * i) 1000) + q) (Int.tdiv ((a 18) * i) 1000))), x2_8, y2_9, d2_10, rfl, rfl⟩
              refine g_bipush C (by decide) dX11_reach_64 rfl ?_
              refine g_goto C (pc' := 72) dX11_reach_66 (by decide) ?_
              refine g_top (v' := vI (q_reach a z q)) (congrArg (fun z_ : Int => vI z_) (show (q_reach a z q) = (-6) by unfold q_reach; (repeat' split) <;> first | rfl | omega | contradiction)) ?_
              exact g_iret C hr rfl (Nat.le_of_ble_eq_true rfl) (Nat.le_of_ble_eq_true rfl) dX11_reach_72 ⟨(lim (slVa (a 14) (a 15) (a 16) ((Int.tdiv ((a 17) * i) 1000) + q) (Int.tdiv ((a 18) * i) 1000))), (lim (slVb (a 14) (a 15) (a 16) ((Int.tdiv ((a 17) * i) 1000) + q) (Int.tdiv ((a 18) * i) 1000))), (lim (slIa (a 14) (a 15) (a 16) ((Int.tdiv ((a 17) * i) 1000) + q) (Int.tdiv ((a 18) * i) 1000))), (lim (slIb (a 14) (a 15) (a 16) ((Int.tdiv ((a 17) * i) 1000) + q) (Int.tdiv ((a 18) * i) 1000))), x2_8, y2_9, d2_10, rfl, rfl⟩
            refine g_iinc C (r := (i + 1)) (lv' := [(0, vR (Q 0)), (1, vI z), (2, vI q), (3, vI (i + 1))]) 3 [1, 2, 3, 0] rfl rfl (by decide) rfl rfl dX11_reach_54 rfl ?_
            refine g_goto C (pc' := 26) dX11_reach_57 (by decide) ?_
            exact ih _ (by omega) (i + 1) (lim (slVa (a 14) (a 15) (a 16) ((Int.tdiv ((a 17) * i) 1000) + q) (Int.tdiv ((a 18) * i) 1000))) (lim (slVb (a 14) (a 15) (a 16) ((Int.tdiv ((a 17) * i) 1000) + q) (Int.tdiv ((a 18) * i) 1000))) (lim (slIa (a 14) (a 15) (a 16) ((Int.tdiv ((a 17) * i) 1000) + q) (Int.tdiv ((a 18) * i) 1000))) (lim (slIb (a 14) (a 15) (a 16) ((Int.tdiv ((a 17) * i) 1000) + q) (Int.tdiv ((a 18) * i) 1000))) x2_8 y2_9 d2_10 (by omega) (by omega) (hrc.trans (by rw [show Int.toNat (1001 - i) = Int.toNat (1001 - (i + 1)) + 1 by omega]; exact rch_s ⟨hDz, by assumption⟩)) rfl
      exact hL_26 _ 0 f0 f1 f2 f3 px py pb (by omega) (by omega) rfl rfl
    refine g_bipush C (by decide) dX11_reach_21 rfl ?_
    refine g_top (v' := vI (q_reach a z q)) (congrArg (fun z_ : Int => vI z_) (show (q_reach a z q) = (-2) by unfold q_reach; (repeat' split) <;> first | rfl | omega | contradiction)) ?_
    exact g_iret C hr rfl (Nat.le_of_ble_eq_true rfl) (Nat.le_of_ble_eq_true rfl) dX11_reach_23 ⟨f0, f1, f2, f3, px, py, pb, rfl, rfl⟩
  refine g_iconst C dX11_reach_7 rfl ?_
  refine g_top (v' := vI (q_reach a z q)) (congrArg (fun z_ : Int => vI z_) (show (q_reach a z q) = (-1) by unfold q_reach; (repeat' split) <;> first | rfl | omega | contradiction)) ?_
  exact g_iret C hr rfl (Nat.le_of_ble_eq_true rfl) (Nat.le_of_ble_eq_true rfl) dX11_reach_8 ⟨f0, f1, f2, f3, px, py, pb, rfl, rfl⟩

abbrev rm_K_m_heal1 : Room := { frames := 3, cells := 0, slots := 0, locals := 81 }
set_option maxHeartbeats 1000000 in
set_option maxRecDepth 100000 in
theorem K_m_heal1 (l : Launch) (E : Ev) (Q : Nat → Nat) (pn f0 f1 f2 f3 px py pb rg wr rn wn : Int) (a : Int → Int) (he : 0 ≤ a 14 ∧ a 14 ≤ 20000) (h1 : 0 ≤ a 15 ∧ a 15 ≤ 20000) (h2 : 0 ≤ a 16 ∧ a 16 ≤ 20000) (h5 : 0 ≤ a 17 ∧ a 17 ≤ 20000) (h6 : 0 ≤ a 18 ∧ a 18 ≤ 20000) (h7 : 0 ≤ a 19 ∧ a 19 ≤ 20000) (h8 : 0 ≤ a 20 ∧ a 20 ≤ 20000) (hD : ¬ slD (a 15) (a 16) (a 17 + a 19) (a 18 + a 20) = 0) : Mc l yX11_healthy wsX11_healthy rm_K_m_heal1 E [vR (Q 0)] [((Q 0), .inr (12, [vR (Q 1), vR (Q 2), vR (Q 3), vR (Q 4), vR (Q 5), vI pn, vR (Q 6), vL f0, vL f1, vL f2, vL f3, vL px, vL py, vL pb, vI rg, vI wr, vR (Q 7), vI rn, vR (Q 8), vI wn])), ((Q 1), cL E 310 a)] 0 0 (fun v9 w9 => ∃ (g0 : Int) (g1 : Int) (g2 : Int) (g3 : Int), v9 = some (vI (a 35)) ∧ w9 = [((Q 0), .inr (12, [vR (Q 1), vR (Q 2), vR (Q 3), vR (Q 4), vR (Q 5), vI pn, vR (Q 6), vL g0, vL g1, vL g2, vL g3, vL px, vL py, vL pb, vI rg, vI wr, vR (Q 7), vI rn, vR (Q 8), vI wn])), ((Q 1), cL E 310 (s_sol a ((a 17) + (a 19)) ((a 18) + (a 20))))]) := by
  refine Mc.intro (cc := cX11_healthy) (maxL := 1) (ret := (some .int)) (lv0 := [(0, vR (Q 0))]) (by decide +kernel) rfl rfl (Nat.le_of_ble_eq_true rfl) ?_
  intro p9 e9 s9 m9 args9 below9 meth9 c9 A9 C hr hmn
  have C : Cx p9 s9 m9 args9 meth9 c9 E A9 1 cX11_healthy wsX11_healthy RX11 := C
  refine g_aload_n C 0 rfl dX11_healthy_0 rfl ?_
  refine g_callV C (b := (Q 0)) (As := []) (wc := [((Q 0), .inr (12, [vR (Q 1), vR (Q 2), vR (Q 3), vR (Q 4), vR (Q 5), vI pn, vR (Q 6), vL f0, vL f1, vL f2, vL f3, vL px, vL py, vL pb, vI rg, vI wr, vR (Q 7), vI rn, vR (Q 8), vI wn])), ((Q 1), cL E 310 a)]) (wr := []) (st := []) gX11_healthy_X11_findsHealthy (q9 := 0) (ci := 12) rfl rfl rfl (K_m_fH1 l E Q pn f0 f1 f2 f3 px py pb rg wr rn wn a he h1 h2 h5 h6 h7 h8 hD) hyd_X11_findsHealthy rfl [0, 1] [] rfl rfl rfl rfl rfl (by decide) ⟨rfl, rfl⟩ ⟨Nat.le_of_ble_eq_true rfl, Nat.le_of_ble_eq_true rfl, Nat.le_of_ble_eq_true rfl, Nat.le_of_ble_eq_true rfl⟩ (Nat.le_of_ble_eq_true rfl) dX11_healthy_1 (rfl : _ = 0) (rfl : _ = 0) rfl ?_
  rintro _ _ ⟨rfl, rfl⟩
  refine g_is (ws' := [((Q 0), .inr (12, [vR (Q 1), vR (Q 2), vR (Q 3), vR (Q 4), vR (Q 5), vI pn, vR (Q 6), vL (lim (slVa (a 14) (a 15) (a 16) ((a 17) + (a 19)) ((a 18) + (a 20)))), vL (lim (slVb (a 14) (a 15) (a 16) ((a 17) + (a 19)) ((a 18) + (a 20)))), vL (lim (slIa (a 14) (a 15) (a 16) ((a 17) + (a 19)) ((a 18) + (a 20)))), vL (lim (slIb (a 14) (a 15) (a 16) ((a 17) + (a 19)) ((a 18) + (a 20)))), vL px, vL py, vL pb, vI rg, vI wr, vR (Q 7), vI rn, vR (Q 8), vI wn])), ((Q 1), cL E 310 a)]) (st' := [vI 1]) rfl rfl ?_
  refine g_if_ne C (tgt := 10) ⟨by decide, by decide⟩ dX11_healthy_4 (by decide) rfl (fun c_1 => ?_) (fun c_1 => ?_)
  · refine g_aload_n C 0 rfl dX11_healthy_10 rfl ?_
    refine g_callV C (b := (Q 0)) (As := []) (wc := [((Q 0), .inr (12, [vR (Q 1), vR (Q 2), vR (Q 3), vR (Q 4), vR (Q 5), vI pn, vR (Q 6), vL (lim (slVa (a 14) (a 15) (a 16) ((a 17) + (a 19)) ((a 18) + (a 20)))), vL (lim (slVb (a 14) (a 15) (a 16) ((a 17) + (a 19)) ((a 18) + (a 20)))), vL (lim (slIa (a 14) (a 15) (a 16) ((a 17) + (a 19)) ((a 18) + (a 20)))), vL (lim (slIb (a 14) (a 15) (a 16) ((a 17) + (a 19)) ((a 18) + (a 20)))), vL px, vL py, vL pb, vI rg, vI wr, vR (Q 7), vI rn, vR (Q 8), vI wn])), ((Q 1), cL E 310 a)]) (wr := []) (st := []) gX11_healthy_X11_applyFound (q9 := 0) (ci := 12) rfl rfl rfl (K_m_applyF l E Q pn (lim (slVa (a 14) (a 15) (a 16) ((a 17) + (a 19)) ((a 18) + (a 20)))) (lim (slVb (a 14) (a 15) (a 16) ((a 17) + (a 19)) ((a 18) + (a 20)))) (lim (slIa (a 14) (a 15) (a 16) ((a 17) + (a 19)) ((a 18) + (a 20)))) (lim (slIb (a 14) (a 15) (a 16) ((a 17) + (a 19)) ((a 18) + (a 20)))) px py pb rg wr rn wn a ) hyd_X11_applyFound rfl [0, 1] [] rfl rfl rfl rfl rfl (by decide) ⟨rfl, rfl⟩ ⟨Nat.le_of_ble_eq_true rfl, Nat.le_of_ble_eq_true rfl, Nat.le_of_ble_eq_true rfl, Nat.le_of_ble_eq_true rfl⟩ (Nat.le_of_ble_eq_true rfl) dX11_healthy_11 (rfl : _ = 0) (rfl : _ = 0) rfl ?_
    rintro _ _ ⟨rfl, rfl⟩
    refine g_is (ws' := [((Q 0), .inr (12, [vR (Q 1), vR (Q 2), vR (Q 3), vR (Q 4), vR (Q 5), vI pn, vR (Q 6), vL (lim (slVa (a 14) (a 15) (a 16) ((a 17) + (a 19)) ((a 18) + (a 20)))), vL (lim (slVb (a 14) (a 15) (a 16) ((a 17) + (a 19)) ((a 18) + (a 20)))), vL (lim (slIa (a 14) (a 15) (a 16) ((a 17) + (a 19)) ((a 18) + (a 20)))), vL (lim (slIb (a 14) (a 15) (a 16) ((a 17) + (a 19)) ((a 18) + (a 20)))), vL px, vL py, vL pb, vI rg, vI wr, vR (Q 7), vI rn, vR (Q 8), vI wn])), ((Q 1), cL E 310 (ua (ua (ua (ua (ua a 0 (lim (slVa (a 14) (a 15) (a 16) ((a 17) + (a 19)) ((a 18) + (a 20))))) (0 + 1) (lim (slVb (a 14) (a 15) (a 16) ((a 17) + (a 19)) ((a 18) + (a 20))))) (0 + 2) (lim (slIa (a 14) (a 15) (a 16) ((a 17) + (a 19)) ((a 18) + (a 20))))) (0 + 3) (lim (slIb (a 14) (a 15) (a 16) ((a 17) + (a 19)) ((a 18) + (a 20))))) 4 0))]) (st' := []) rfl rfl ?_
    refine g_aload_n C 0 rfl dX11_healthy_14 rfl ?_
    refine g_get C 0 fd_X11_healthy_7 rfl rfl rfl dX11_healthy_15 rfl ?_
    refine g_bipush C (by decide) dX11_healthy_18 rfl ?_
    refine g_lald C 1 rfl (by decide) (by decide) (by decide) (r := ((ua (ua (ua (ua a 0 (lim (slVa (a 14) (a 15) (a 16) ((a 17) + (a 19)) ((a 18) + (a 20))))) (0 + 1) (lim (slVb (a 14) (a 15) (a 16) ((a 17) + (a 19)) ((a 18) + (a 20))))) (0 + 2) (lim (slIa (a 14) (a 15) (a 16) ((a 17) + (a 19)) ((a 18) + (a 20))))) (0 + 3) (lim (slIb (a 14) (a 15) (a 16) ((a 17) + (a 19)) ((a 18) + (a 20))))) 35)) (by first | rfl | (simp [ua, sh, sh2]; done)) dX11_healthy_20 rfl ?_
    refine g_l2i C rfl dX11_healthy_21 rfl ?_
    refine g_top (v' := vI (a 35)) (congrArg (fun z_ : Int => vI z_) (show (a 35) = ((ua (ua (ua (ua a 0 (lim (slVa (a 14) (a 15) (a 16) ((a 17) + (a 19)) ((a 18) + (a 20))))) (0 + 1) (lim (slVb (a 14) (a 15) (a 16) ((a 17) + (a 19)) ((a 18) + (a 20))))) (0 + 2) (lim (slIa (a 14) (a 15) (a 16) ((a 17) + (a 19)) ((a 18) + (a 20))))) (0 + 3) (lim (slIb (a 14) (a 15) (a 16) ((a 17) + (a 19)) ((a 18) + (a 20))))) 35) by rfl)) ?_
    refine g_ws (ws' := [((Q 0), .inr (12, [vR (Q 1), vR (Q 2), vR (Q 3), vR (Q 4), vR (Q 5), vI pn, vR (Q 6), vL (lim (slVa (a 14) (a 15) (a 16) ((a 17) + (a 19)) ((a 18) + (a 20)))), vL (lim (slVb (a 14) (a 15) (a 16) ((a 17) + (a 19)) ((a 18) + (a 20)))), vL (lim (slIa (a 14) (a 15) (a 16) ((a 17) + (a 19)) ((a 18) + (a 20)))), vL (lim (slIb (a 14) (a 15) (a 16) ((a 17) + (a 19)) ((a 18) + (a 20)))), vL px, vL py, vL pb, vI rg, vI wr, vR (Q 7), vI rn, vR (Q 8), vI wn])), ((Q 1), cL E 310 (s_sol a ((a 17) + (a 19)) ((a 18) + (a 20))))]) (congrArg (fun z_ : Nat → Int64 => ([((Q 0), .inr (12, [vR (Q 1), vR (Q 2), vR (Q 3), vR (Q 4), vR (Q 5), vI pn, vR (Q 6), vL (lim (slVa (a 14) (a 15) (a 16) ((a 17) + (a 19)) ((a 18) + (a 20)))), vL (lim (slVb (a 14) (a 15) (a 16) ((a 17) + (a 19)) ((a 18) + (a 20)))), vL (lim (slIa (a 14) (a 15) (a 16) ((a 17) + (a 19)) ((a 18) + (a 20)))), vL (lim (slIb (a 14) (a 15) (a 16) ((a 17) + (a 19)) ((a 18) + (a 20)))), vL px, vL py, vL pb, vI rg, vI wr, vR (Q 7), vI rn, vR (Q 8), vI wn])), ((Q 1), .inl (E.2.1 1, 310, .inr (.inl z_)))] : va_W)) (show AL 310 (s_sol a ((a 17) + (a 19)) ((a 18) + (a 20))) = AL 310 (ua (ua (ua (ua (ua a 0 (lim (slVa (a 14) (a 15) (a 16) ((a 17) + (a 19)) ((a 18) + (a 20))))) (0 + 1) (lim (slVb (a 14) (a 15) (a 16) ((a 17) + (a 19)) ((a 18) + (a 20))))) (0 + 2) (lim (slIa (a 14) (a 15) (a 16) ((a 17) + (a 19)) ((a 18) + (a 20))))) (0 + 3) (lim (slIb (a 14) (a 15) (a 16) ((a 17) + (a 19)) ((a 18) + (a 20))))) 4 0) from AL_c (fun k_ k0_ k1_ => by rfl))) ?_
    exact g_iret C hr rfl (Nat.le_of_ble_eq_true rfl) (Nat.le_of_ble_eq_true rfl) dX11_healthy_22 ⟨(lim (slVa (a 14) (a 15) (a 16) ((a 17) + (a 19)) ((a 18) + (a 20)))), (lim (slVb (a 14) (a 15) (a 16) ((a 17) + (a 19)) ((a 18) + (a 20)))), (lim (slIa (a 14) (a 15) (a 16) ((a 17) + (a 19)) ((a 18) + (a 20)))), (lim (slIb (a 14) (a 15) (a 16) ((a 17) + (a 19)) ((a 18) + (a 20)))), rfl, rfl⟩
  exact absurd c_1 (by decide)

abbrev rm_K_m_flt1 : Room := { frames := 3, cells := 0, slots := 0, locals := 83 }
set_option maxHeartbeats 1000000 in
set_option maxRecDepth 100000 in
theorem K_m_flt1 (l : Launch) (E : Ev) (Q : Nat → Nat) (pn f0 f1 f2 f3 px py pb rg wr rn wn : Int) (a : Int → Int) (p q : Int) (he : 0 ≤ a 14 ∧ a 14 ≤ 20000) (h1 : 0 ≤ a 15 ∧ a 15 ≤ 20000) (h2 : 0 ≤ a 16 ∧ a 16 ≤ 20000) (h5 : 0 ≤ a 17 ∧ a 17 ≤ 20000) (h6 : 0 ≤ a 18 ∧ a 18 ≤ 20000) (hk : okF p q) (hD : ¬ slD (a 15) (a 16) (Int.tdiv (a 17 * p) 1000 + q) (Int.tdiv (a 18 * p) 1000) = 0) : Mc l yX11_fault wsX11_fault rm_K_m_flt1 E [vR (Q 0), vI p, vI q] [((Q 0), .inr (12, [vR (Q 1), vR (Q 2), vR (Q 3), vR (Q 4), vR (Q 5), vI pn, vR (Q 6), vL f0, vL f1, vL f2, vL f3, vL px, vL py, vL pb, vI rg, vI wr, vR (Q 7), vI rn, vR (Q 8), vI wn])), ((Q 1), cL E 310 a)] 0 0 (fun v9 w9 => ∃ (g0 : Int) (g1 : Int) (g2 : Int) (g3 : Int), v9 = some (vI (a 35)) ∧ w9 = [((Q 0), .inr (12, [vR (Q 1), vR (Q 2), vR (Q 3), vR (Q 4), vR (Q 5), vI pn, vR (Q 6), vL g0, vL g1, vL g2, vL g3, vL px, vL py, vL pb, vI rg, vI wr, vR (Q 7), vI rn, vR (Q 8), vI wn])), ((Q 1), cL E 310 (s_sol a (fzR a p q) (fzX a p)))]) := by
  refine Mc.intro (cc := cX11_fault) (maxL := 3) (ret := (some .int)) (lv0 := [(0, vR (Q 0)), (1, vI p), (2, vI q)]) (by decide +kernel) rfl rfl (Nat.le_of_ble_eq_true rfl) ?_
  intro p9 e9 s9 m9 args9 below9 meth9 c9 A9 C hr hmn
  have C : Cx p9 s9 m9 args9 meth9 c9 E A9 3 cX11_fault wsX11_fault RX11 := C
  refine g_iload_n C 1 rfl dX11_fault_0 rfl ?_
  refine g_iload_n C 2 rfl dX11_fault_1 rfl ?_
  refine g_callS C (As := [vI p, vI q]) (wc := []) (wr := [((Q 0), .inr (12, [vR (Q 1), vR (Q 2), vR (Q 3), vR (Q 4), vR (Q 5), vI pn, vR (Q 6), vL f0, vL f1, vL f2, vL f3, vL px, vL py, vL pb, vI rg, vI wr, vR (Q 7), vI rn, vR (Q 8), vI wn])), ((Q 1), cL E 310 a)]) (st := []) gX11_fault_X11_isFault rfl (K_m_isFault l E p q ⟨by omega, by omega⟩ ⟨by omega, by omega⟩) hyd_X11_isFault rfl [] [0, 1] rfl rfl rfl rfl rfl (by decide) ⟨rfl, rfl⟩ ⟨Nat.le_of_ble_eq_true rfl, Nat.le_of_ble_eq_true rfl, Nat.le_of_ble_eq_true rfl, Nat.le_of_ble_eq_true rfl⟩ (Nat.le_of_ble_eq_true rfl) dX11_fault_2 (rfl : _ = 0) (rfl : _ = 0) rfl ?_
  rintro _ _ ⟨rfl, rfl⟩
  refine g_is (ws' := [((Q 0), .inr (12, [vR (Q 1), vR (Q 2), vR (Q 3), vR (Q 4), vR (Q 5), vI pn, vR (Q 6), vL f0, vL f1, vL f2, vL f3, vL px, vL py, vL pb, vI rg, vI wr, vR (Q 7), vI rn, vR (Q 8), vI wn])), ((Q 1), cL E 310 a)]) (st' := [vI (bP ((0 ≤ p ∧ p ≤ 1000) ∧ (0 ≤ q ∧ q ≤ 20000)))]) rfl rfl ?_
  refine g_ifb_ne C (tgt := 11) dX11_fault_5 (by decide) rfl (fun c_1 => ?_) (fun c_1 => ?_)
  · refine g_aload_n C 0 rfl dX11_fault_11 rfl ?_
    refine g_iload_n C 1 rfl dX11_fault_12 rfl ?_
    refine g_iload_n C 2 rfl dX11_fault_13 rfl ?_
    refine g_callV C (b := (Q 0)) (As := [vI p, vI q]) (wc := [((Q 0), .inr (12, [vR (Q 1), vR (Q 2), vR (Q 3), vR (Q 4), vR (Q 5), vI pn, vR (Q 6), vL f0, vL f1, vL f2, vL f3, vL px, vL py, vL pb, vI rg, vI wr, vR (Q 7), vI rn, vR (Q 8), vI wn])), ((Q 1), cL E 310 a)]) (wr := []) (st := []) gX11_fault_X11_findsFault (q9 := 0) (ci := 12) rfl rfl rfl (K_m_fF1 l E Q pn f0 f1 f2 f3 px py pb rg wr rn wn a p q he h1 h2 h5 h6 (by omega) (by omega) hD) hyd_X11_findsFault rfl [0, 1] [] rfl rfl rfl rfl rfl (by decide) ⟨rfl, rfl⟩ ⟨Nat.le_of_ble_eq_true rfl, Nat.le_of_ble_eq_true rfl, Nat.le_of_ble_eq_true rfl, Nat.le_of_ble_eq_true rfl⟩ (Nat.le_of_ble_eq_true rfl) dX11_fault_14 (rfl : _ = 0) (rfl : _ = 0) rfl ?_
    rintro _ _ ⟨rfl, rfl⟩
    refine g_is (ws' := [((Q 0), .inr (12, [vR (Q 1), vR (Q 2), vR (Q 3), vR (Q 4), vR (Q 5), vI pn, vR (Q 6), vL (lim (slVa (a 14) (a 15) (a 16) ((Int.tdiv ((a 17) * p) 1000) + q) (Int.tdiv ((a 18) * p) 1000))), vL (lim (slVb (a 14) (a 15) (a 16) ((Int.tdiv ((a 17) * p) 1000) + q) (Int.tdiv ((a 18) * p) 1000))), vL (lim (slIa (a 14) (a 15) (a 16) ((Int.tdiv ((a 17) * p) 1000) + q) (Int.tdiv ((a 18) * p) 1000))), vL (lim (slIb (a 14) (a 15) (a 16) ((Int.tdiv ((a 17) * p) 1000) + q) (Int.tdiv ((a 18) * p) 1000))), vL px, vL py, vL pb, vI rg, vI wr, vR (Q 7), vI rn, vR (Q 8), vI wn])), ((Q 1), cL E 310 a)]) (st' := [vI 1]) rfl rfl ?_
    refine g_if_ne C (tgt := 23) ⟨by decide, by decide⟩ dX11_fault_17 (by decide) rfl (fun c_2 => ?_) (fun c_2 => ?_)
    · refine g_aload_n C 0 rfl dX11_fault_23 rfl ?_
      refine g_callV C (b := (Q 0)) (As := []) (wc := [((Q 0), .inr (12, [vR (Q 1), vR (Q 2), vR (Q 3), vR (Q 4), vR (Q 5), vI pn, vR (Q 6), vL (lim (slVa (a 14) (a 15) (a 16) ((Int.tdiv ((a 17) * p) 1000) + q) (Int.tdiv ((a 18) * p) 1000))), vL (lim (slVb (a 14) (a 15) (a 16) ((Int.tdiv ((a 17) * p) 1000) + q) (Int.tdiv ((a 18) * p) 1000))), vL (lim (slIa (a 14) (a 15) (a 16) ((Int.tdiv ((a 17) * p) 1000) + q) (Int.tdiv ((a 18) * p) 1000))), vL (lim (slIb (a 14) (a 15) (a 16) ((Int.tdiv ((a 17) * p) 1000) + q) (Int.tdiv ((a 18) * p) 1000))), vL px, vL py, vL pb, vI rg, vI wr, vR (Q 7), vI rn, vR (Q 8), vI wn])), ((Q 1), cL E 310 a)]) (wr := []) (st := []) gX11_fault_X11_applyFound (q9 := 0) (ci := 12) rfl rfl rfl (K_m_applyF l E Q pn (lim (slVa (a 14) (a 15) (a 16) ((Int.tdiv ((a 17) * p) 1000) + q) (Int.tdiv ((a 18) * p) 1000))) (lim (slVb (a 14) (a 15) (a 16) ((Int.tdiv ((a 17) * p) 1000) + q) (Int.tdiv ((a 18) * p) 1000))) (lim (slIa (a 14) (a 15) (a 16) ((Int.tdiv ((a 17) * p) 1000) + q) (Int.tdiv ((a 18) * p) 1000))) (lim (slIb (a 14) (a 15) (a 16) ((Int.tdiv ((a 17) * p) 1000) + q) (Int.tdiv ((a 18) * p) 1000))) px py pb rg wr rn wn a ) hyd_X11_applyFound rfl [0, 1] [] rfl rfl rfl rfl rfl (by decide) ⟨rfl, rfl⟩ ⟨Nat.le_of_ble_eq_true rfl, Nat.le_of_ble_eq_true rfl, Nat.le_of_ble_eq_true rfl, Nat.le_of_ble_eq_true rfl⟩ (Nat.le_of_ble_eq_true rfl) dX11_fault_24 (rfl : _ = 0) (rfl : _ = 0) rfl ?_
      rintro _ _ ⟨rfl, rfl⟩
      refine g_is (ws' := [((Q 0), .inr (12, [vR (Q 1), vR (Q 2), vR (Q 3), vR (Q 4), vR (Q 5), vI pn, vR (Q 6), vL (lim (slVa (a 14) (a 15) (a 16) ((Int.tdiv ((a 17) * p) 1000) + q) (Int.tdiv ((a 18) * p) 1000))), vL (lim (slVb (a 14) (a 15) (a 16) ((Int.tdiv ((a 17) * p) 1000) + q) (Int.tdiv ((a 18) * p) 1000))), vL (lim (slIa (a 14) (a 15) (a 16) ((Int.tdiv ((a 17) * p) 1000) + q) (Int.tdiv ((a 18) * p) 1000))), vL (lim (slIb (a 14) (a 15) (a 16) ((Int.tdiv ((a 17) * p) 1000) + q) (Int.tdiv ((a 18) * p) 1000))), vL px, vL py, vL pb, vI rg, vI wr, vR (Q 7), vI rn, vR (Q 8), vI wn])), ((Q 1), cL E 310 (ua (ua (ua (ua (ua a 0 (lim (slVa (a 14) (a 15) (a 16) ((Int.tdiv ((a 17) * p) 1000) + q) (Int.tdiv ((a 18) * p) 1000)))) (0 + 1) (lim (slVb (a 14) (a 15) (a 16) ((Int.tdiv ((a 17) * p) 1000) + q) (Int.tdiv ((a 18) * p) 1000)))) (0 + 2) (lim (slIa (a 14) (a 15) (a 16) ((Int.tdiv ((a 17) * p) 1000) + q) (Int.tdiv ((a 18) * p) 1000)))) (0 + 3) (lim (slIb (a 14) (a 15) (a 16) ((Int.tdiv ((a 17) * p) 1000) + q) (Int.tdiv ((a 18) * p) 1000)))) 4 0))]) (st' := []) rfl rfl ?_
      refine g_aload_n C 0 rfl dX11_fault_27 rfl ?_
      refine g_get C 0 fd_X11_fault_7 rfl rfl rfl dX11_fault_28 rfl ?_
      refine g_bipush C (by decide) dX11_fault_31 rfl ?_
      refine g_lald C 1 rfl (by decide) (by decide) (by decide) (r := ((ua (ua (ua (ua a 0 (lim (slVa (a 14) (a 15) (a 16) ((Int.tdiv ((a 17) * p) 1000) + q) (Int.tdiv ((a 18) * p) 1000)))) (0 + 1) (lim (slVb (a 14) (a 15) (a 16) ((Int.tdiv ((a 17) * p) 1000) + q) (Int.tdiv ((a 18) * p) 1000)))) (0 + 2) (lim (slIa (a 14) (a 15) (a 16) ((Int.tdiv ((a 17) * p) 1000) + q) (Int.tdiv ((a 18) * p) 1000)))) (0 + 3) (lim (slIb (a 14) (a 15) (a 16) ((Int.tdiv ((a 17) * p) 1000) + q) (Int.tdiv ((a 18) * p) 1000)))) 35)) (by first | rfl | (simp [ua, sh, sh2]; done)) dX11_fault_33 rfl ?_
      refine g_l2i C rfl dX11_fault_34 rfl ?_
      refine g_top (v' := vI (a 35)) (congrArg (fun z_ : Int => vI z_) (show (a 35) = ((ua (ua (ua (ua a 0 (lim (slVa (a 14) (a 15) (a 16) ((Int.tdiv ((a 17) * p) 1000) + q) (Int.tdiv ((a 18) * p) 1000)))) (0 + 1) (lim (slVb (a 14) (a 15) (a 16) ((Int.tdiv ((a 17) * p) 1000) + q) (Int.tdiv ((a 18) * p) 1000)))) (0 + 2) (lim (slIa (a 14) (a 15) (a 16) ((Int.tdiv ((a 17) * p) 1000) + q) (Int.tdiv ((a 18) * p) 1000)))) (0 + 3) (lim (slIb (a 14) (a 15) (a 16) ((Int.tdiv ((a 17) * p) 1000) + q) (Int.tdiv ((a 18) * p) 1000)))) 35) by rfl)) ?_
      refine g_ws (ws' := [((Q 0), .inr (12, [vR (Q 1), vR (Q 2), vR (Q 3), vR (Q 4), vR (Q 5), vI pn, vR (Q 6), vL (lim (slVa (a 14) (a 15) (a 16) ((Int.tdiv ((a 17) * p) 1000) + q) (Int.tdiv ((a 18) * p) 1000))), vL (lim (slVb (a 14) (a 15) (a 16) ((Int.tdiv ((a 17) * p) 1000) + q) (Int.tdiv ((a 18) * p) 1000))), vL (lim (slIa (a 14) (a 15) (a 16) ((Int.tdiv ((a 17) * p) 1000) + q) (Int.tdiv ((a 18) * p) 1000))), vL (lim (slIb (a 14) (a 15) (a 16) ((Int.tdiv ((a 17) * p) 1000) + q) (Int.tdiv ((a 18) * p) 1000))), vL px, vL py, vL pb, vI rg, vI wr, vR (Q 7), vI rn, vR (Q 8), vI wn])), ((Q 1), cL E 310 (s_sol a (fzR a p q) (fzX a p)))]) (congrArg (fun z_ : Nat → Int64 => ([((Q 0), .inr (12, [vR (Q 1), vR (Q 2), vR (Q 3), vR (Q 4), vR (Q 5), vI pn, vR (Q 6), vL (lim (slVa (a 14) (a 15) (a 16) ((Int.tdiv ((a 17) * p) 1000) + q) (Int.tdiv ((a 18) * p) 1000))), vL (lim (slVb (a 14) (a 15) (a 16) ((Int.tdiv ((a 17) * p) 1000) + q) (Int.tdiv ((a 18) * p) 1000))), vL (lim (slIa (a 14) (a 15) (a 16) ((Int.tdiv ((a 17) * p) 1000) + q) (Int.tdiv ((a 18) * p) 1000))), vL (lim (slIb (a 14) (a 15) (a 16) ((Int.tdiv ((a 17) * p) 1000) + q) (Int.tdiv ((a 18) * p) 1000))), vL px, vL py, vL pb, vI rg, vI wr, vR (Q 7), vI rn, vR (Q 8), vI wn])), ((Q 1), .inl (E.2.1 1, 310, .inr (.inl z_)))] : va_W)) (show AL 310 (s_sol a (fzR a p q) (fzX a p)) = AL 310 (ua (ua (ua (ua (ua a 0 (lim (slVa (a 14) (a 15) (a 16) ((Int.tdiv ((a 17) * p) 1000) + q) (Int.tdiv ((a 18) * p) 1000)))) (0 + 1) (lim (slVb (a 14) (a 15) (a 16) ((Int.tdiv ((a 17) * p) 1000) + q) (Int.tdiv ((a 18) * p) 1000)))) (0 + 2) (lim (slIa (a 14) (a 15) (a 16) ((Int.tdiv ((a 17) * p) 1000) + q) (Int.tdiv ((a 18) * p) 1000)))) (0 + 3) (lim (slIb (a 14) (a 15) (a 16) ((Int.tdiv ((a 17) * p) 1000) + q) (Int.tdiv ((a 18) * p) 1000)))) 4 0) from AL_c (fun k_ k0_ k1_ => by rfl))) ?_
      exact g_iret C hr rfl (Nat.le_of_ble_eq_true rfl) (Nat.le_of_ble_eq_true rfl) dX11_fault_35 ⟨(lim (slVa (a 14) (a 15) (a 16) ((Int.tdiv ((a 17) * p) 1000) + q) (Int.tdiv ((a 18) * p) 1000))), (lim (slVb (a 14) (a 15) (a 16) ((Int.tdiv ((a 17) * p) 1000) + q) (Int.tdiv ((a 18) * p) 1000))), (lim (slIa (a 14) (a 15) (a 16) ((Int.tdiv ((a 17) * p) 1000) + q) (Int.tdiv ((a 18) * p) 1000))), (lim (slIb (a 14) (a 15) (a 16) ((Int.tdiv ((a 17) * p) 1000) + q) (Int.tdiv ((a 18) * p) 1000))), rfl, rfl⟩
    exact absurd c_2 (by decide)
  exfalso; omega

abbrev rm_K_m_reset : Room := { frames := 0, cells := 0, slots := 0, locals := 0 }
set_option maxHeartbeats 1000000 in
set_option maxRecDepth 100000 in
theorem K_m_reset (l : Launch) (E : Ev) (Q : Nat → Nat) (pn f0 f1 f2 f3 px py pb rg wr rn wn : Int) (a : Int → Int) (B : Int) (hI : Inv a B) (hB : B ≤ 2900000) : Mc l yX11_reset wsX11_reset rm_K_m_reset E [vR (Q 0)] [((Q 0), .inr (12, [vR (Q 1), vR (Q 2), vR (Q 3), vR (Q 4), vR (Q 5), vI pn, vR (Q 6), vL f0, vL f1, vL f2, vL f3, vL px, vL py, vL pb, vI rg, vI wr, vR (Q 7), vI rn, vR (Q 8), vI wn])), ((Q 1), cL E 310 a)] 0 0 (fun v9 w9 => v9 = some (vI (a 97)) ∧ w9 = [((Q 0), .inr (12, [vR (Q 1), vR (Q 2), vR (Q 3), vR (Q 4), vR (Q 5), vI pn, vR (Q 6), vL f0, vL f1, vL f2, vL f3, vL px, vL py, vL pb, vI rg, vI wr, vR (Q 7), vI rn, vR (Q 8), vI wn])), ((Q 1), cL E 310 (s_rst a))]) := by
  refine Mc.intro (cc := cX11_reset) (maxL := 3) (ret := (some .int)) (lv0 := [(0, vR (Q 0))]) (by decide +kernel) rfl rfl (Nat.le_of_ble_eq_true rfl) ?_
  intro p9 e9 s9 m9 args9 below9 meth9 c9 A9 C hr hmn
  have C : Cx p9 s9 m9 args9 meth9 c9 E A9 3 cX11_reset wsX11_reset RX11 := C
  have hI0 := hI
  obtain ⟨iP, i4, iR, iE, iN, ⟨i21, i22, i23, i24, i25, i26, i27, i28⟩, iD, iW, i35, iS, iM, i90, i91, i94, i95, i96, i97, iT, iK, i104, iPn, iPc⟩ := hI
  refine g_aload_n C 0 rfl dX11_reset_0 rfl ?_
  refine g_get C 0 fd_X11_reset_7 rfl rfl rfl dX11_reset_1 rfl ?_
  refine g_bipush C (by decide) dX11_reset_4 rfl ?_
  refine g_lald C 1 rfl (by decide) (by decide) (by decide) rfl dX11_reset_6 rfl ?_
  refine g_l2i C rfl dX11_reset_7 rfl ?_
  refine g_istore_n C (lv' := [(0, vR (Q 0)), (1, vI (a 97))]) [1, 0] (by decide) rfl rfl dX11_reset_8 rfl ?_
  refine g_aload_n C 0 rfl dX11_reset_9 rfl ?_
  refine g_get C 0 fd_X11_reset_7 rfl rfl rfl dX11_reset_10 rfl ?_
  refine g_bipush C (by decide) dX11_reset_13 rfl ?_
  refine g_ldc2 C (x := (-6)) w_X11_reset_k60 (by decide) dX11_reset_15 rfl ?_
  refine g_last C 1 rfl (by decide) (by decide) (by decide) (ws' := [((Q 0), .inr (12, [vR (Q 1), vR (Q 2), vR (Q 3), vR (Q 4), vR (Q 5), vI pn, vR (Q 6), vL f0, vL f1, vL f2, vL f3, vL px, vL py, vL pb, vI rg, vI wr, vR (Q 7), vI rn, vR (Q 8), vI wn])), ((Q 1), cL E 310 (ua a 97 (-6)))]) rfl dX11_reset_18 rfl ?_
  refine g_iconst C dX11_reset_19 rfl ?_
  refine g_istore_n C (lv' := [(0, vR (Q 0)), (1, vI (a 97)), (2, vI 0)]) [1, 2, 0] (by decide) rfl rfl dX11_reset_20 rfl ?_
  refine g_iload_n C 2 rfl dX11_reset_21 rfl ?_
  refine g_iconst C dX11_reset_22 rfl ?_
  refine g_icmp_ge C (tgt := 42) ⟨by decide, by decide⟩ ⟨by decide, by decide⟩ dX11_reset_23 (by decide) rfl (fun c_1 => ?_) (fun c_1 => ?_)
  · exact absurd c_1 (by decide)
  refine g_aload_n C 0 rfl dX11_reset_26 rfl ?_
  refine g_get C 0 fd_X11_reset_7 rfl rfl rfl dX11_reset_27 rfl ?_
  refine g_bipush C (by decide) dX11_reset_30 rfl ?_
  refine g_iload_n C 2 rfl dX11_reset_32 rfl ?_
  refine g_iadd C (r := 98) (by decide) dX11_reset_33 rfl ?_
  refine g_lconst0 C dX11_reset_34 rfl ?_
  refine g_last C 1 rfl (by decide) (by decide) (by decide) (ws' := [((Q 0), .inr (12, [vR (Q 1), vR (Q 2), vR (Q 3), vR (Q 4), vR (Q 5), vI pn, vR (Q 6), vL f0, vL f1, vL f2, vL f3, vL px, vL py, vL pb, vI rg, vI wr, vR (Q 7), vI rn, vR (Q 8), vI wn])), ((Q 1), cL E 310 (ua (ua a 97 (-6)) 98 0))]) rfl dX11_reset_35 rfl ?_
  refine g_iinc C (r := 1) (lv' := [(0, vR (Q 0)), (1, vI (a 97)), (2, vI 1)]) 2 [1, 2, 0] rfl (by decide) (by decide) rfl rfl dX11_reset_36 rfl ?_
  refine g_goto C (pc' := 21) dX11_reset_39 (by decide) ?_
  refine g_iload_n C 2 rfl dX11_reset_21 rfl ?_
  refine g_iconst C dX11_reset_22 rfl ?_
  refine g_icmp_ge C (tgt := 42) ⟨by decide, by decide⟩ ⟨by decide, by decide⟩ dX11_reset_23 (by decide) rfl (fun c_2 => ?_) (fun c_2 => ?_)
  · exact absurd c_2 (by decide)
  refine g_aload_n C 0 rfl dX11_reset_26 rfl ?_
  refine g_get C 0 fd_X11_reset_7 rfl rfl rfl dX11_reset_27 rfl ?_
  refine g_bipush C (by decide) dX11_reset_30 rfl ?_
  refine g_iload_n C 2 rfl dX11_reset_32 rfl ?_
  refine g_iadd C (r := 99) (by decide) dX11_reset_33 rfl ?_
  refine g_lconst0 C dX11_reset_34 rfl ?_
  refine g_last C 1 rfl (by decide) (by decide) (by decide) (ws' := [((Q 0), .inr (12, [vR (Q 1), vR (Q 2), vR (Q 3), vR (Q 4), vR (Q 5), vI pn, vR (Q 6), vL f0, vL f1, vL f2, vL f3, vL px, vL py, vL pb, vI rg, vI wr, vR (Q 7), vI rn, vR (Q 8), vI wn])), ((Q 1), cL E 310 (ua (ua (ua a 97 (-6)) 98 0) 99 0))]) rfl dX11_reset_35 rfl ?_
  refine g_iinc C (r := 2) (lv' := [(0, vR (Q 0)), (1, vI (a 97)), (2, vI 2)]) 2 [1, 2, 0] rfl (by decide) (by decide) rfl rfl dX11_reset_36 rfl ?_
  refine g_goto C (pc' := 21) dX11_reset_39 (by decide) ?_
  refine g_iload_n C 2 rfl dX11_reset_21 rfl ?_
  refine g_iconst C dX11_reset_22 rfl ?_
  refine g_icmp_ge C (tgt := 42) ⟨by decide, by decide⟩ ⟨by decide, by decide⟩ dX11_reset_23 (by decide) rfl (fun c_3 => ?_) (fun c_3 => ?_)
  · exact absurd c_3 (by decide)
  refine g_aload_n C 0 rfl dX11_reset_26 rfl ?_
  refine g_get C 0 fd_X11_reset_7 rfl rfl rfl dX11_reset_27 rfl ?_
  refine g_bipush C (by decide) dX11_reset_30 rfl ?_
  refine g_iload_n C 2 rfl dX11_reset_32 rfl ?_
  refine g_iadd C (r := 100) (by decide) dX11_reset_33 rfl ?_
  refine g_lconst0 C dX11_reset_34 rfl ?_
  refine g_last C 1 rfl (by decide) (by decide) (by decide) (ws' := [((Q 0), .inr (12, [vR (Q 1), vR (Q 2), vR (Q 3), vR (Q 4), vR (Q 5), vI pn, vR (Q 6), vL f0, vL f1, vL f2, vL f3, vL px, vL py, vL pb, vI rg, vI wr, vR (Q 7), vI rn, vR (Q 8), vI wn])), ((Q 1), cL E 310 (ua (ua (ua (ua a 97 (-6)) 98 0) 99 0) 100 0))]) rfl dX11_reset_35 rfl ?_
  refine g_iinc C (r := 3) (lv' := [(0, vR (Q 0)), (1, vI (a 97)), (2, vI 3)]) 2 [1, 2, 0] rfl (by decide) (by decide) rfl rfl dX11_reset_36 rfl ?_
  refine g_goto C (pc' := 21) dX11_reset_39 (by decide) ?_
  refine g_iload_n C 2 rfl dX11_reset_21 rfl ?_
  refine g_iconst C dX11_reset_22 rfl ?_
  refine g_icmp_ge C (tgt := 42) ⟨by decide, by decide⟩ ⟨by decide, by decide⟩ dX11_reset_23 (by decide) rfl (fun c_4 => ?_) (fun c_4 => ?_)
  · refine g_iload_n C 1 rfl dX11_reset_42 rfl ?_
    refine g_ws (ws' := [((Q 0), .inr (12, [vR (Q 1), vR (Q 2), vR (Q 3), vR (Q 4), vR (Q 5), vI pn, vR (Q 6), vL f0, vL f1, vL f2, vL f3, vL px, vL py, vL pb, vI rg, vI wr, vR (Q 7), vI rn, vR (Q 8), vI wn])), ((Q 1), cL E 310 (s_rst a))]) (congrArg (fun z_ : Nat → Int64 => ([((Q 0), .inr (12, [vR (Q 1), vR (Q 2), vR (Q 3), vR (Q 4), vR (Q 5), vI pn, vR (Q 6), vL f0, vL f1, vL f2, vL f3, vL px, vL py, vL pb, vI rg, vI wr, vR (Q 7), vI rn, vR (Q 8), vI wn])), ((Q 1), .inl (E.2.1 1, 310, .inr (.inl z_)))] : va_W)) (show AL 310 (s_rst a) = AL 310 (ua (ua (ua (ua a 97 (-6)) 98 0) 99 0) 100 0) from AL_c (fun k_ k0_ k1_ => by rfl))) ?_
    exact g_iret C hr rfl (Nat.le_of_ble_eq_true rfl) (Nat.le_of_ble_eq_true rfl) dX11_reset_43 ⟨rfl, rfl⟩
  exact absurd c_4 (by decide)

theorem w_X11_test_k122 : Cond.constantLong RX11 122 (2400) ∈ wsX11_test := by decide +kernel
theorem hyd_X11_putAside : yX11_putAside.cls ≠ "java/lang/invoke/MethodHandle" ∧ yX11_putAside.cls ≠ "java/lang/invoke/VarHandle" ∧ (parseMethodDescriptor yX11_putAside.desc).map (fun d => d.parameters.length) = some 0 := by decide +kernel
theorem hyd_X11_reset : yX11_reset.cls ≠ "java/lang/invoke/MethodHandle" ∧ yX11_reset.cls ≠ "java/lang/invoke/VarHandle" ∧ (parseMethodDescriptor yX11_reset.desc).map (fun d => d.parameters.length) = some 0 := by decide +kernel
theorem hyd_X11_healthy : yX11_healthy.cls ≠ "java/lang/invoke/MethodHandle" ∧ yX11_healthy.cls ≠ "java/lang/invoke/VarHandle" ∧ (parseMethodDescriptor yX11_healthy.desc).map (fun d => d.parameters.length) = some 0 := by decide +kernel
theorem hyd_X11_fault : yX11_fault.cls ≠ "java/lang/invoke/MethodHandle" ∧ yX11_fault.cls ≠ "java/lang/invoke/VarHandle" ∧ (parseMethodDescriptor yX11_fault.desc).map (fun d => d.parameters.length) = some 2 := by decide +kernel
theorem hyd_X11_samplesToTrip : yX11_samplesToTrip.cls ≠ "java/lang/invoke/MethodHandle" ∧ yX11_samplesToTrip.cls ≠ "java/lang/invoke/VarHandle" ∧ (parseMethodDescriptor yX11_samplesToTrip.desc).map (fun d => d.parameters.length) = some 1 := by decide +kernel
theorem in_X11_test_X11 : ∀ w ∈ u_ws RX11 TX11 20, w ∈ wsX11_test := by decide +kernel
theorem fd_X11_test_7 : fdk wsX11_test RX11 7 "ZoneRelayModel" RX11 TX11 20 0 := ⟨in_X11_test_X11, by decide +kernel, by decide, rfl⟩
theorem hyd_X11_putBack : yX11_putBack.cls ≠ "java/lang/invoke/MethodHandle" ∧ yX11_putBack.cls ≠ "java/lang/invoke/VarHandle" ∧ (parseMethodDescriptor yX11_putBack.desc).map (fun d => d.parameters.length) = some 0 := by decide +kernel
abbrev rm_M_test : Room := { frames := 10, cells := 0, slots := 0, locals := 250 }
set_option maxHeartbeats 1000000 in
set_option maxRecDepth 100000 in
theorem M_test (l : Launch) (E : Ev) (Q : Nat → Nat) (pn f0 f1 f2 f3 px py pb rg wr rn wn : Int) (a s2 s3 s4 tx rr ww : Int → Int) (B p q m w : Int) (hI : Inv a B) (hB : B ≤ 2900000) (b_p : bi p) (b_q : bi q) (b_m : bi m) (b_w : bi w) : Mc l yX11_test wsX11_test rm_M_test E [vR (Q 0), vI p, vI q, vI m, vI w] [((Q 0), .inr (12, [vR (Q 1), vR (Q 2), vR (Q 3), vR (Q 4), vR (Q 5), vI pn, vR (Q 6), vL f0, vL f1, vL f2, vL f3, vL px, vL py, vL pb, vI rg, vI wr, vR (Q 7), vI rn, vR (Q 8), vI wn])), ((Q 1), cL E 310 a), ((Q 2), cL E 310 s2), ((Q 3), cL E 620 s3), ((Q 4), cZ E 2 s4), ((Q 5), cI E 80 tx), ((Q 6), cI E 24 cosT), ((Q 7), cI E 16 rr), ((Q 8), cI E 120 ww)] 0 0 (fun v9 w9 => ∃ (g0 : Int) (g1 : Int) (g2 : Int) (g3 : Int) (x2 : Int) (y2 : Int) (d2 : Int) (t2 : Int → Int), v9 = some (vI (q_test a p q m w)) ∧ w9 = [((Q 0), .inr (12, [vR (Q 1), vR (Q 2), vR (Q 3), vR (Q 4), vR (Q 5), vI pn, vR (Q 6), vL g0, vL g1, vL g2, vL g3, vL x2, vL y2, vL d2, vI rg, vI wr, vR (Q 7), vI rn, vR (Q 8), vI wn])), ((Q 1), cL E 310 a), ((Q 2), cL E 310 t2), ((Q 3), cL E 620 s3), ((Q 4), cZ E 2 s4), ((Q 5), cI E 80 tx), ((Q 6), cI E 24 cosT), ((Q 7), cI E 16 rr), ((Q 8), cI E 120 ww)]) := by
  refine Mc.intro (cc := cX11_test) (maxL := 7) (ret := (some .int)) (lv0 := [(0, vR (Q 0)), (1, vI p), (2, vI q), (3, vI m), (4, vI w)]) (by decide +kernel) rfl rfl (Nat.le_of_ble_eq_true rfl) ?_
  intro p9 e9 s9 m9 args9 below9 meth9 c9 A9 C hr hmn
  have C : Cx p9 s9 m9 args9 meth9 c9 E A9 7 cX11_test wsX11_test RX11 := C
  have hI0 := hI
  obtain ⟨iP, i4, iR, iE, iN, ⟨i21, i22, i23, i24, i25, i26, i27, i28⟩, iD, iW, i35, iS, iM, i90, i91, i94, i95, i96, i97, iT, iK, i104, iPn, iPc⟩ := hI
  refine g_iload_n C 1 rfl dX11_test_0 rfl ?_
  refine g_iload_n C 2 rfl dX11_test_1 rfl ?_
  refine g_callS C (As := [vI p, vI q]) (wc := []) (wr := [((Q 0), .inr (12, [vR (Q 1), vR (Q 2), vR (Q 3), vR (Q 4), vR (Q 5), vI pn, vR (Q 6), vL f0, vL f1, vL f2, vL f3, vL px, vL py, vL pb, vI rg, vI wr, vR (Q 7), vI rn, vR (Q 8), vI wn])), ((Q 1), cL E 310 a), ((Q 2), cL E 310 s2), ((Q 3), cL E 620 s3), ((Q 4), cZ E 2 s4), ((Q 5), cI E 80 tx), ((Q 6), cI E 24 cosT), ((Q 7), cI E 16 rr), ((Q 8), cI E 120 ww)]) (st := []) gX11_test_X11_isFault rfl (K_m_isFault l E p q b_p b_q) hyd_X11_isFault rfl [] [0, 1, 2, 3, 4, 5, 6, 7, 8] rfl rfl rfl rfl rfl (by decide) ⟨rfl, rfl⟩ ⟨Nat.le_of_ble_eq_true rfl, Nat.le_of_ble_eq_true rfl, Nat.le_of_ble_eq_true rfl, Nat.le_of_ble_eq_true rfl⟩ (Nat.le_of_ble_eq_true rfl) dX11_test_2 (rfl : _ = 0) (rfl : _ = 0) rfl ?_
  rintro _ _ ⟨rfl, rfl⟩
  refine g_is (ws' := [((Q 0), .inr (12, [vR (Q 1), vR (Q 2), vR (Q 3), vR (Q 4), vR (Q 5), vI pn, vR (Q 6), vL f0, vL f1, vL f2, vL f3, vL px, vL py, vL pb, vI rg, vI wr, vR (Q 7), vI rn, vR (Q 8), vI wn])), ((Q 1), cL E 310 a), ((Q 2), cL E 310 s2), ((Q 3), cL E 620 s3), ((Q 4), cZ E 2 s4), ((Q 5), cI E 80 tx), ((Q 6), cI E 24 cosT), ((Q 7), cI E 16 rr), ((Q 8), cI E 120 ww)]) (st' := [vI (bP ((0 ≤ p ∧ p ≤ 1000) ∧ (0 ≤ q ∧ q ≤ 20000)))]) rfl rfl ?_
  refine g_ifb_eq C (tgt := 31) dX11_test_5 (by decide) rfl (fun c_1 => ?_) (fun c_1 => ?_)
  · refine g_bipush C (by decide) dX11_test_31 rfl ?_
    refine g_top (v' := vI (q_test a p q m w)) (congrArg (fun z_ : Int => vI z_) (show (q_test a p q m w) = (-2) by unfold q_test sD fzR fzX; (repeat' split) <;> first | rfl | omega | contradiction)) ?_
    exact g_iret C hr rfl (Nat.le_of_ble_eq_true rfl) (Nat.le_of_ble_eq_true rfl) dX11_test_33 ⟨f0, f1, f2, f3, px, py, pb, s2, rfl, rfl⟩
  refine g_iload_n C 3 rfl dX11_test_8 rfl ?_
  refine g_i2l C (b_m) rfl dX11_test_9 rfl ?_
  refine g_lconst1 C dX11_test_10 rfl ?_
  refine g_ldc2 C (x := 2400) w_X11_test_k122 (by decide) dX11_test_11 rfl ?_
  refine g_callS C (As := [vL m, vL 1, vL 2400]) (wc := []) (wr := [((Q 0), .inr (12, [vR (Q 1), vR (Q 2), vR (Q 3), vR (Q 4), vR (Q 5), vI pn, vR (Q 6), vL f0, vL f1, vL f2, vL f3, vL px, vL py, vL pb, vI rg, vI wr, vR (Q 7), vI rn, vR (Q 8), vI wn])), ((Q 1), cL E 310 a), ((Q 2), cL E 310 s2), ((Q 3), cL E 620 s3), ((Q 4), cZ E 2 s4), ((Q 5), cI E 80 tx), ((Q 6), cI E 24 cosT), ((Q 7), cI E 16 rr), ((Q 8), cI E 120 ww)]) (st := []) gX11_test_X11_in rfl (K_m_in l E m 1 2400 ⟨by omega, by omega⟩ ⟨by omega, by omega⟩ ⟨by omega, by omega⟩) hyd_X11_in rfl [] [0, 1, 2, 3, 4, 5, 6, 7, 8] rfl rfl rfl rfl rfl (by decide) ⟨rfl, rfl⟩ ⟨Nat.le_of_ble_eq_true rfl, Nat.le_of_ble_eq_true rfl, Nat.le_of_ble_eq_true rfl, Nat.le_of_ble_eq_true rfl⟩ (Nat.le_of_ble_eq_true rfl) dX11_test_14 (rfl : _ = 0) (rfl : _ = 0) rfl ?_
  rintro _ _ ⟨rfl, rfl⟩
  refine g_is (ws' := [((Q 0), .inr (12, [vR (Q 1), vR (Q 2), vR (Q 3), vR (Q 4), vR (Q 5), vI pn, vR (Q 6), vL f0, vL f1, vL f2, vL f3, vL px, vL py, vL pb, vI rg, vI wr, vR (Q 7), vI rn, vR (Q 8), vI wn])), ((Q 1), cL E 310 a), ((Q 2), cL E 310 s2), ((Q 3), cL E 620 s3), ((Q 4), cZ E 2 s4), ((Q 5), cI E 80 tx), ((Q 6), cI E 24 cosT), ((Q 7), cI E 16 rr), ((Q 8), cI E 120 ww)]) (st' := [vI (bP (1 ≤ m ∧ m ≤ 2400))]) rfl rfl ?_
  refine g_ifb_eq C (tgt := 31) dX11_test_17 (by decide) rfl (fun c_2 => ?_) (fun c_2 => ?_)
  · refine g_bipush C (by decide) dX11_test_31 rfl ?_
    refine g_top (v' := vI (q_test a p q m w)) (congrArg (fun z_ : Int => vI z_) (show (q_test a p q m w) = (-2) by unfold q_test sD fzR fzX; (repeat' split) <;> first | rfl | omega | contradiction)) ?_
    exact g_iret C hr rfl (Nat.le_of_ble_eq_true rfl) (Nat.le_of_ble_eq_true rfl) dX11_test_33 ⟨f0, f1, f2, f3, px, py, pb, s2, rfl, rfl⟩
  refine g_iload C 4 rfl dX11_test_20 rfl ?_
  refine g_i2l C (b_w) rfl dX11_test_22 rfl ?_
  refine g_lconst0 C dX11_test_23 rfl ?_
  refine g_lconst1 C dX11_test_24 rfl ?_
  refine g_callS C (As := [vL w, vL 0, vL 1]) (wc := []) (wr := [((Q 0), .inr (12, [vR (Q 1), vR (Q 2), vR (Q 3), vR (Q 4), vR (Q 5), vI pn, vR (Q 6), vL f0, vL f1, vL f2, vL f3, vL px, vL py, vL pb, vI rg, vI wr, vR (Q 7), vI rn, vR (Q 8), vI wn])), ((Q 1), cL E 310 a), ((Q 2), cL E 310 s2), ((Q 3), cL E 620 s3), ((Q 4), cZ E 2 s4), ((Q 5), cI E 80 tx), ((Q 6), cI E 24 cosT), ((Q 7), cI E 16 rr), ((Q 8), cI E 120 ww)]) (st := []) gX11_test_X11_in rfl (K_m_in l E w 0 1 ⟨by omega, by omega⟩ ⟨by omega, by omega⟩ ⟨by omega, by omega⟩) hyd_X11_in rfl [] [0, 1, 2, 3, 4, 5, 6, 7, 8] rfl rfl rfl rfl rfl (by decide) ⟨rfl, rfl⟩ ⟨Nat.le_of_ble_eq_true rfl, Nat.le_of_ble_eq_true rfl, Nat.le_of_ble_eq_true rfl, Nat.le_of_ble_eq_true rfl⟩ (Nat.le_of_ble_eq_true rfl) dX11_test_25 (rfl : _ = 0) (rfl : _ = 0) rfl ?_
  rintro _ _ ⟨rfl, rfl⟩
  refine g_is (ws' := [((Q 0), .inr (12, [vR (Q 1), vR (Q 2), vR (Q 3), vR (Q 4), vR (Q 5), vI pn, vR (Q 6), vL f0, vL f1, vL f2, vL f3, vL px, vL py, vL pb, vI rg, vI wr, vR (Q 7), vI rn, vR (Q 8), vI wn])), ((Q 1), cL E 310 a), ((Q 2), cL E 310 s2), ((Q 3), cL E 620 s3), ((Q 4), cZ E 2 s4), ((Q 5), cI E 80 tx), ((Q 6), cI E 24 cosT), ((Q 7), cI E 16 rr), ((Q 8), cI E 120 ww)]) (st' := [vI (bP (0 ≤ w ∧ w ≤ 1))]) rfl rfl ?_
  refine g_ifb_ne C (tgt := 34) dX11_test_28 (by decide) rfl (fun c_3 => ?_) (fun c_3 => ?_)
  · by_cases hDh : slD (a 15) (a 16) (a 17 + a 19) (a 18 + a 20) = 0
    · refine g_aload_n C 0 rfl dX11_test_34 rfl ?_
      refine g_callV C (b := (Q 0)) (As := []) (wc := [((Q 0), .inr (12, [vR (Q 1), vR (Q 2), vR (Q 3), vR (Q 4), vR (Q 5), vI pn, vR (Q 6), vL f0, vL f1, vL f2, vL f3, vL px, vL py, vL pb, vI rg, vI wr, vR (Q 7), vI rn, vR (Q 8), vI wn])), ((Q 1), cL E 310 a)]) (wr := [((Q 2), cL E 310 s2), ((Q 3), cL E 620 s3), ((Q 4), cZ E 2 s4), ((Q 5), cI E 80 tx), ((Q 6), cI E 24 cosT), ((Q 7), cI E 16 rr), ((Q 8), cI E 120 ww)]) (st := []) gX11_test_X11_findsHealthy (q9 := 0) (ci := 12) rfl rfl rfl (K_m_fH0 l E Q pn f0 f1 f2 f3 px py pb rg wr rn wn a ⟨by omega, by omega⟩ (iN 15 (by decide) (by decide)) (iN 16 (by decide) (by decide)) (iN 17 (by decide) (by decide)) (iN 18 (by decide) (by decide)) (iN 19 (by decide) (by decide)) (iN 20 (by decide) (by decide)) hDh) hyd_X11_findsHealthy rfl [0, 1] [2, 3, 4, 5, 6, 7, 8] rfl rfl rfl rfl rfl (by decide) ⟨rfl, rfl⟩ ⟨Nat.le_of_ble_eq_true rfl, Nat.le_of_ble_eq_true rfl, Nat.le_of_ble_eq_true rfl, Nat.le_of_ble_eq_true rfl⟩ (Nat.le_of_ble_eq_true rfl) dX11_test_35 (rfl : _ = 0) (rfl : _ = 0) rfl ?_
      rintro _ _ ⟨rfl, rfl⟩
      refine g_is (ws' := [((Q 2), cL E 310 s2), ((Q 3), cL E 620 s3), ((Q 4), cZ E 2 s4), ((Q 5), cI E 80 tx), ((Q 6), cI E 24 cosT), ((Q 7), cI E 16 rr), ((Q 8), cI E 120 ww), ((Q 0), .inr (12, [vR (Q 1), vR (Q 2), vR (Q 3), vR (Q 4), vR (Q 5), vI pn, vR (Q 6), vL f0, vL f1, vL f2, vL f3, vL px, vL py, vL pb, vI rg, vI wr, vR (Q 7), vI rn, vR (Q 8), vI wn])), ((Q 1), cL E 310 a)]) (st' := [vI 0]) rfl rfl ?_
      refine g_sub (ws' := [((Q 0), .inr (12, [vR (Q 1), vR (Q 2), vR (Q 3), vR (Q 4), vR (Q 5), vI pn, vR (Q 6), vL f0, vL f1, vL f2, vL f3, vL px, vL py, vL pb, vI rg, vI wr, vR (Q 7), vI rn, vR (Q 8), vI wn])), ((Q 1), cL E 310 a), ((Q 2), cL E 310 s2), ((Q 3), cL E 620 s3), ((Q 4), cZ E 2 s4), ((Q 5), cI E 80 tx), ((Q 6), cI E 24 cosT), ((Q 7), cI E 16 rr), ((Q 8), cI E 120 ww)]) [7, 8, 0, 1, 2, 3, 4, 5, 6] rfl rfl rfl ?_
      refine g_if_eq C (tgt := 50) ⟨by decide, by decide⟩ dX11_test_38 (by decide) rfl (fun c_4 => ?_) (fun c_4 => ?_)
      · refine g_bipush C (by decide) dX11_test_50 rfl ?_
        refine g_top (v' := vI (q_test a p q m w)) (congrArg (fun z_ : Int => vI z_) (show (q_test a p q m w) = (-5) by unfold q_test sD fzR fzX; (repeat' split) <;> first | rfl | omega | contradiction)) ?_
        exact g_iret C hr rfl (Nat.le_of_ble_eq_true rfl) (Nat.le_of_ble_eq_true rfl) dX11_test_52 ⟨f0, f1, f2, f3, px, py, pb, s2, rfl, rfl⟩
      exact absurd c_4 (by decide)
    · refine g_aload_n C 0 rfl dX11_test_34 rfl ?_
      refine g_callV C (b := (Q 0)) (As := []) (wc := [((Q 0), .inr (12, [vR (Q 1), vR (Q 2), vR (Q 3), vR (Q 4), vR (Q 5), vI pn, vR (Q 6), vL f0, vL f1, vL f2, vL f3, vL px, vL py, vL pb, vI rg, vI wr, vR (Q 7), vI rn, vR (Q 8), vI wn])), ((Q 1), cL E 310 a)]) (wr := [((Q 2), cL E 310 s2), ((Q 3), cL E 620 s3), ((Q 4), cZ E 2 s4), ((Q 5), cI E 80 tx), ((Q 6), cI E 24 cosT), ((Q 7), cI E 16 rr), ((Q 8), cI E 120 ww)]) (st := []) gX11_test_X11_findsHealthy (q9 := 0) (ci := 12) rfl rfl rfl (K_m_fH1 l E Q pn f0 f1 f2 f3 px py pb rg wr rn wn a ⟨by omega, by omega⟩ (iN 15 (by decide) (by decide)) (iN 16 (by decide) (by decide)) (iN 17 (by decide) (by decide)) (iN 18 (by decide) (by decide)) (iN 19 (by decide) (by decide)) (iN 20 (by decide) (by decide)) hDh) hyd_X11_findsHealthy rfl [0, 1] [2, 3, 4, 5, 6, 7, 8] rfl rfl rfl rfl rfl (by decide) ⟨rfl, rfl⟩ ⟨Nat.le_of_ble_eq_true rfl, Nat.le_of_ble_eq_true rfl, Nat.le_of_ble_eq_true rfl, Nat.le_of_ble_eq_true rfl⟩ (Nat.le_of_ble_eq_true rfl) dX11_test_35 (rfl : _ = 0) (rfl : _ = 0) rfl ?_
      rintro _ _ ⟨rfl, rfl⟩
      refine g_is (ws' := [((Q 2), cL E 310 s2), ((Q 3), cL E 620 s3), ((Q 4), cZ E 2 s4), ((Q 5), cI E 80 tx), ((Q 6), cI E 24 cosT), ((Q 7), cI E 16 rr), ((Q 8), cI E 120 ww), ((Q 0), .inr (12, [vR (Q 1), vR (Q 2), vR (Q 3), vR (Q 4), vR (Q 5), vI pn, vR (Q 6), vL (lim (slVa (a 14) (a 15) (a 16) ((a 17) + (a 19)) ((a 18) + (a 20)))), vL (lim (slVb (a 14) (a 15) (a 16) ((a 17) + (a 19)) ((a 18) + (a 20)))), vL (lim (slIa (a 14) (a 15) (a 16) ((a 17) + (a 19)) ((a 18) + (a 20)))), vL (lim (slIb (a 14) (a 15) (a 16) ((a 17) + (a 19)) ((a 18) + (a 20)))), vL px, vL py, vL pb, vI rg, vI wr, vR (Q 7), vI rn, vR (Q 8), vI wn])), ((Q 1), cL E 310 a)]) (st' := [vI 1]) rfl rfl ?_
      refine g_sub (ws' := [((Q 0), .inr (12, [vR (Q 1), vR (Q 2), vR (Q 3), vR (Q 4), vR (Q 5), vI pn, vR (Q 6), vL (lim (slVa (a 14) (a 15) (a 16) ((a 17) + (a 19)) ((a 18) + (a 20)))), vL (lim (slVb (a 14) (a 15) (a 16) ((a 17) + (a 19)) ((a 18) + (a 20)))), vL (lim (slIa (a 14) (a 15) (a 16) ((a 17) + (a 19)) ((a 18) + (a 20)))), vL (lim (slIb (a 14) (a 15) (a 16) ((a 17) + (a 19)) ((a 18) + (a 20)))), vL px, vL py, vL pb, vI rg, vI wr, vR (Q 7), vI rn, vR (Q 8), vI wn])), ((Q 1), cL E 310 a), ((Q 2), cL E 310 s2), ((Q 3), cL E 620 s3), ((Q 4), cZ E 2 s4), ((Q 5), cI E 80 tx), ((Q 6), cI E 24 cosT), ((Q 7), cI E 16 rr), ((Q 8), cI E 120 ww)]) [7, 8, 0, 1, 2, 3, 4, 5, 6] rfl rfl rfl ?_
      refine g_if_eq C (tgt := 50) ⟨by decide, by decide⟩ dX11_test_38 (by decide) rfl (fun c_5 => ?_) (fun c_5 => ?_)
      · exact absurd c_5 (by decide)
      by_cases hDz : slD (a 15) (a 16) (Int.tdiv (a 17 * p) 1000 + q) (Int.tdiv (a 18 * p) 1000) = 0
      · refine g_aload_n C 0 rfl dX11_test_41 rfl ?_
        refine g_iload_n C 1 rfl dX11_test_42 rfl ?_
        refine g_iload_n C 2 rfl dX11_test_43 rfl ?_
        refine g_callV C (b := (Q 0)) (As := [vI p, vI q]) (wc := [((Q 0), .inr (12, [vR (Q 1), vR (Q 2), vR (Q 3), vR (Q 4), vR (Q 5), vI pn, vR (Q 6), vL (lim (slVa (a 14) (a 15) (a 16) ((a 17) + (a 19)) ((a 18) + (a 20)))), vL (lim (slVb (a 14) (a 15) (a 16) ((a 17) + (a 19)) ((a 18) + (a 20)))), vL (lim (slIa (a 14) (a 15) (a 16) ((a 17) + (a 19)) ((a 18) + (a 20)))), vL (lim (slIb (a 14) (a 15) (a 16) ((a 17) + (a 19)) ((a 18) + (a 20)))), vL px, vL py, vL pb, vI rg, vI wr, vR (Q 7), vI rn, vR (Q 8), vI wn])), ((Q 1), cL E 310 a)]) (wr := [((Q 2), cL E 310 s2), ((Q 3), cL E 620 s3), ((Q 4), cZ E 2 s4), ((Q 5), cI E 80 tx), ((Q 6), cI E 24 cosT), ((Q 7), cI E 16 rr), ((Q 8), cI E 120 ww)]) (st := []) gX11_test_X11_findsFault (q9 := 0) (ci := 12) rfl rfl rfl (K_m_fF0 l E Q pn (lim (slVa (a 14) (a 15) (a 16) ((a 17) + (a 19)) ((a 18) + (a 20)))) (lim (slVb (a 14) (a 15) (a 16) ((a 17) + (a 19)) ((a 18) + (a 20)))) (lim (slIa (a 14) (a 15) (a 16) ((a 17) + (a 19)) ((a 18) + (a 20)))) (lim (slIb (a 14) (a 15) (a 16) ((a 17) + (a 19)) ((a 18) + (a 20)))) px py pb rg wr rn wn a p q ⟨by omega, by omega⟩ (iN 15 (by decide) (by decide)) (iN 16 (by decide) (by decide)) (iN 17 (by decide) (by decide)) (iN 18 (by decide) (by decide)) (by omega) (by omega) hDz) hyd_X11_findsFault rfl [0, 1] [2, 3, 4, 5, 6, 7, 8] rfl rfl rfl rfl rfl (by decide) ⟨rfl, rfl⟩ ⟨Nat.le_of_ble_eq_true rfl, Nat.le_of_ble_eq_true rfl, Nat.le_of_ble_eq_true rfl, Nat.le_of_ble_eq_true rfl⟩ (Nat.le_of_ble_eq_true rfl) dX11_test_44 (rfl : _ = 0) (rfl : _ = 0) rfl ?_
        rintro _ _ ⟨rfl, rfl⟩
        refine g_is (ws' := [((Q 2), cL E 310 s2), ((Q 3), cL E 620 s3), ((Q 4), cZ E 2 s4), ((Q 5), cI E 80 tx), ((Q 6), cI E 24 cosT), ((Q 7), cI E 16 rr), ((Q 8), cI E 120 ww), ((Q 0), .inr (12, [vR (Q 1), vR (Q 2), vR (Q 3), vR (Q 4), vR (Q 5), vI pn, vR (Q 6), vL (lim (slVa (a 14) (a 15) (a 16) ((a 17) + (a 19)) ((a 18) + (a 20)))), vL (lim (slVb (a 14) (a 15) (a 16) ((a 17) + (a 19)) ((a 18) + (a 20)))), vL (lim (slIa (a 14) (a 15) (a 16) ((a 17) + (a 19)) ((a 18) + (a 20)))), vL (lim (slIb (a 14) (a 15) (a 16) ((a 17) + (a 19)) ((a 18) + (a 20)))), vL px, vL py, vL pb, vI rg, vI wr, vR (Q 7), vI rn, vR (Q 8), vI wn])), ((Q 1), cL E 310 a)]) (st' := [vI 0]) rfl rfl ?_
        refine g_sub (ws' := [((Q 0), .inr (12, [vR (Q 1), vR (Q 2), vR (Q 3), vR (Q 4), vR (Q 5), vI pn, vR (Q 6), vL (lim (slVa (a 14) (a 15) (a 16) ((a 17) + (a 19)) ((a 18) + (a 20)))), vL (lim (slVb (a 14) (a 15) (a 16) ((a 17) + (a 19)) ((a 18) + (a 20)))), vL (lim (slIa (a 14) (a 15) (a 16) ((a 17) + (a 19)) ((a 18) + (a 20)))), vL (lim (slIb (a 14) (a 15) (a 16) ((a 17) + (a 19)) ((a 18) + (a 20)))), vL px, vL py, vL pb, vI rg, vI wr, vR (Q 7), vI rn, vR (Q 8), vI wn])), ((Q 1), cL E 310 a), ((Q 2), cL E 310 s2), ((Q 3), cL E 620 s3), ((Q 4), cZ E 2 s4), ((Q 5), cI E 80 tx), ((Q 6), cI E 24 cosT), ((Q 7), cI E 16 rr), ((Q 8), cI E 120 ww)]) [7, 8, 0, 1, 2, 3, 4, 5, 6] rfl rfl rfl ?_
        refine g_if_ne C (tgt := 53) ⟨by decide, by decide⟩ dX11_test_47 (by decide) rfl (fun c_6 => ?_) (fun c_6 => ?_)
        · exact absurd c_6 (by decide)
        refine g_bipush C (by decide) dX11_test_50 rfl ?_
        refine g_top (v' := vI (q_test a p q m w)) (congrArg (fun z_ : Int => vI z_) (show (q_test a p q m w) = (-5) by unfold q_test sD fzR fzX; (repeat' split) <;> first | rfl | omega | contradiction)) ?_
        exact g_iret C hr rfl (Nat.le_of_ble_eq_true rfl) (Nat.le_of_ble_eq_true rfl) dX11_test_52 ⟨(lim (slVa (a 14) (a 15) (a 16) ((a 17) + (a 19)) ((a 18) + (a 20)))), (lim (slVb (a 14) (a 15) (a 16) ((a 17) + (a 19)) ((a 18) + (a 20)))), (lim (slIa (a 14) (a 15) (a 16) ((a 17) + (a 19)) ((a 18) + (a 20)))), (lim (slIb (a 14) (a 15) (a 16) ((a 17) + (a 19)) ((a 18) + (a 20)))), px, py, pb, s2, rfl, rfl⟩
      · refine g_aload_n C 0 rfl dX11_test_41 rfl ?_
        refine g_iload_n C 1 rfl dX11_test_42 rfl ?_
        refine g_iload_n C 2 rfl dX11_test_43 rfl ?_
        refine g_callV C (b := (Q 0)) (As := [vI p, vI q]) (wc := [((Q 0), .inr (12, [vR (Q 1), vR (Q 2), vR (Q 3), vR (Q 4), vR (Q 5), vI pn, vR (Q 6), vL (lim (slVa (a 14) (a 15) (a 16) ((a 17) + (a 19)) ((a 18) + (a 20)))), vL (lim (slVb (a 14) (a 15) (a 16) ((a 17) + (a 19)) ((a 18) + (a 20)))), vL (lim (slIa (a 14) (a 15) (a 16) ((a 17) + (a 19)) ((a 18) + (a 20)))), vL (lim (slIb (a 14) (a 15) (a 16) ((a 17) + (a 19)) ((a 18) + (a 20)))), vL px, vL py, vL pb, vI rg, vI wr, vR (Q 7), vI rn, vR (Q 8), vI wn])), ((Q 1), cL E 310 a)]) (wr := [((Q 2), cL E 310 s2), ((Q 3), cL E 620 s3), ((Q 4), cZ E 2 s4), ((Q 5), cI E 80 tx), ((Q 6), cI E 24 cosT), ((Q 7), cI E 16 rr), ((Q 8), cI E 120 ww)]) (st := []) gX11_test_X11_findsFault (q9 := 0) (ci := 12) rfl rfl rfl (K_m_fF1 l E Q pn (lim (slVa (a 14) (a 15) (a 16) ((a 17) + (a 19)) ((a 18) + (a 20)))) (lim (slVb (a 14) (a 15) (a 16) ((a 17) + (a 19)) ((a 18) + (a 20)))) (lim (slIa (a 14) (a 15) (a 16) ((a 17) + (a 19)) ((a 18) + (a 20)))) (lim (slIb (a 14) (a 15) (a 16) ((a 17) + (a 19)) ((a 18) + (a 20)))) px py pb rg wr rn wn a p q ⟨by omega, by omega⟩ (iN 15 (by decide) (by decide)) (iN 16 (by decide) (by decide)) (iN 17 (by decide) (by decide)) (iN 18 (by decide) (by decide)) (by omega) (by omega) hDz) hyd_X11_findsFault rfl [0, 1] [2, 3, 4, 5, 6, 7, 8] rfl rfl rfl rfl rfl (by decide) ⟨rfl, rfl⟩ ⟨Nat.le_of_ble_eq_true rfl, Nat.le_of_ble_eq_true rfl, Nat.le_of_ble_eq_true rfl, Nat.le_of_ble_eq_true rfl⟩ (Nat.le_of_ble_eq_true rfl) dX11_test_44 (rfl : _ = 0) (rfl : _ = 0) rfl ?_
        rintro _ _ ⟨rfl, rfl⟩
        refine g_is (ws' := [((Q 2), cL E 310 s2), ((Q 3), cL E 620 s3), ((Q 4), cZ E 2 s4), ((Q 5), cI E 80 tx), ((Q 6), cI E 24 cosT), ((Q 7), cI E 16 rr), ((Q 8), cI E 120 ww), ((Q 0), .inr (12, [vR (Q 1), vR (Q 2), vR (Q 3), vR (Q 4), vR (Q 5), vI pn, vR (Q 6), vL (lim (slVa (a 14) (a 15) (a 16) ((Int.tdiv ((a 17) * p) 1000) + q) (Int.tdiv ((a 18) * p) 1000))), vL (lim (slVb (a 14) (a 15) (a 16) ((Int.tdiv ((a 17) * p) 1000) + q) (Int.tdiv ((a 18) * p) 1000))), vL (lim (slIa (a 14) (a 15) (a 16) ((Int.tdiv ((a 17) * p) 1000) + q) (Int.tdiv ((a 18) * p) 1000))), vL (lim (slIb (a 14) (a 15) (a 16) ((Int.tdiv ((a 17) * p) 1000) + q) (Int.tdiv ((a 18) * p) 1000))), vL px, vL py, vL pb, vI rg, vI wr, vR (Q 7), vI rn, vR (Q 8), vI wn])), ((Q 1), cL E 310 a)]) (st' := [vI 1]) rfl rfl ?_
        refine g_sub (ws' := [((Q 0), .inr (12, [vR (Q 1), vR (Q 2), vR (Q 3), vR (Q 4), vR (Q 5), vI pn, vR (Q 6), vL (lim (slVa (a 14) (a 15) (a 16) ((Int.tdiv ((a 17) * p) 1000) + q) (Int.tdiv ((a 18) * p) 1000))), vL (lim (slVb (a 14) (a 15) (a 16) ((Int.tdiv ((a 17) * p) 1000) + q) (Int.tdiv ((a 18) * p) 1000))), vL (lim (slIa (a 14) (a 15) (a 16) ((Int.tdiv ((a 17) * p) 1000) + q) (Int.tdiv ((a 18) * p) 1000))), vL (lim (slIb (a 14) (a 15) (a 16) ((Int.tdiv ((a 17) * p) 1000) + q) (Int.tdiv ((a 18) * p) 1000))), vL px, vL py, vL pb, vI rg, vI wr, vR (Q 7), vI rn, vR (Q 8), vI wn])), ((Q 1), cL E 310 a), ((Q 2), cL E 310 s2), ((Q 3), cL E 620 s3), ((Q 4), cZ E 2 s4), ((Q 5), cI E 80 tx), ((Q 6), cI E 24 cosT), ((Q 7), cI E 16 rr), ((Q 8), cI E 120 ww)]) [7, 8, 0, 1, 2, 3, 4, 5, 6] rfl rfl rfl ?_
        refine g_if_ne C (tgt := 53) ⟨by decide, by decide⟩ dX11_test_47 (by decide) rfl (fun c_7 => ?_) (fun c_7 => ?_)
        · have iH : Inv (s_jmp (s_rst a) (sVa a (a 17 + a 19) (a 18 + a 20)) (sVb a (a 17 + a 19) (a 18 + a 20)) (sIa a (a 17 + a 19) (a 18 + a 20)) (sIb a (a 17 + a 19) (a 18 + a 20))) B := inv_jmp (inv_rst hI0) (lim_r _) (lim_r _) (lim_r _) (lim_r _)
          refine g_aload_n C 0 rfl dX11_test_53 rfl ?_
          refine g_callV C (b := (Q 0)) (As := []) (wc := [((Q 0), .inr (12, [vR (Q 1), vR (Q 2), vR (Q 3), vR (Q 4), vR (Q 5), vI pn, vR (Q 6), vL (lim (slVa (a 14) (a 15) (a 16) ((Int.tdiv ((a 17) * p) 1000) + q) (Int.tdiv ((a 18) * p) 1000))), vL (lim (slVb (a 14) (a 15) (a 16) ((Int.tdiv ((a 17) * p) 1000) + q) (Int.tdiv ((a 18) * p) 1000))), vL (lim (slIa (a 14) (a 15) (a 16) ((Int.tdiv ((a 17) * p) 1000) + q) (Int.tdiv ((a 18) * p) 1000))), vL (lim (slIb (a 14) (a 15) (a 16) ((Int.tdiv ((a 17) * p) 1000) + q) (Int.tdiv ((a 18) * p) 1000))), vL px, vL py, vL pb, vI rg, vI wr, vR (Q 7), vI rn, vR (Q 8), vI wn])), ((Q 1), cL E 310 a), ((Q 2), cL E 310 s2)]) (wr := [((Q 3), cL E 620 s3), ((Q 4), cZ E 2 s4), ((Q 5), cI E 80 tx), ((Q 6), cI E 24 cosT), ((Q 7), cI E 16 rr), ((Q 8), cI E 120 ww)]) (st := []) gX11_test_X11_putAside (q9 := 0) (ci := 12) rfl rfl rfl (K_m_aside l E Q pn (lim (slVa (a 14) (a 15) (a 16) ((Int.tdiv ((a 17) * p) 1000) + q) (Int.tdiv ((a 18) * p) 1000))) (lim (slVb (a 14) (a 15) (a 16) ((Int.tdiv ((a 17) * p) 1000) + q) (Int.tdiv ((a 18) * p) 1000))) (lim (slIa (a 14) (a 15) (a 16) ((Int.tdiv ((a 17) * p) 1000) + q) (Int.tdiv ((a 18) * p) 1000))) (lim (slIb (a 14) (a 15) (a 16) ((Int.tdiv ((a 17) * p) 1000) + q) (Int.tdiv ((a 18) * p) 1000))) px py pb rg wr rn wn a s2 ) hyd_X11_putAside rfl [0, 1, 2] [3, 4, 5, 6, 7, 8] rfl rfl rfl rfl rfl (by decide) ⟨rfl, rfl⟩ ⟨Nat.le_of_ble_eq_true rfl, Nat.le_of_ble_eq_true rfl, Nat.le_of_ble_eq_true rfl, Nat.le_of_ble_eq_true rfl⟩ (Nat.le_of_ble_eq_true rfl) dX11_test_54 (rfl : _ = 0) (rfl : _ = 0) rfl ?_
          rintro _ _ ⟨rfl, rfl⟩
          refine g_is (ws' := [((Q 3), cL E 620 s3), ((Q 4), cZ E 2 s4), ((Q 5), cI E 80 tx), ((Q 6), cI E 24 cosT), ((Q 7), cI E 16 rr), ((Q 8), cI E 120 ww), ((Q 0), .inr (12, [vR (Q 1), vR (Q 2), vR (Q 3), vR (Q 4), vR (Q 5), vI pn, vR (Q 6), vL (lim (slVa (a 14) (a 15) (a 16) ((Int.tdiv ((a 17) * p) 1000) + q) (Int.tdiv ((a 18) * p) 1000))), vL (lim (slVb (a 14) (a 15) (a 16) ((Int.tdiv ((a 17) * p) 1000) + q) (Int.tdiv ((a 18) * p) 1000))), vL (lim (slIa (a 14) (a 15) (a 16) ((Int.tdiv ((a 17) * p) 1000) + q) (Int.tdiv ((a 18) * p) 1000))), vL (lim (slIb (a 14) (a 15) (a 16) ((Int.tdiv ((a 17) * p) 1000) + q) (Int.tdiv ((a 18) * p) 1000))), vL px, vL py, vL pb, vI rg, vI wr, vR (Q 7), vI rn, vR (Q 8), vI wn])), ((Q 1), cL E 310 a), ((Q 2), cL E 310 a)]) (st' := []) rfl rfl ?_
          refine g_sub (ws' := [((Q 0), .inr (12, [vR (Q 1), vR (Q 2), vR (Q 3), vR (Q 4), vR (Q 5), vI pn, vR (Q 6), vL (lim (slVa (a 14) (a 15) (a 16) ((Int.tdiv ((a 17) * p) 1000) + q) (Int.tdiv ((a 18) * p) 1000))), vL (lim (slVb (a 14) (a 15) (a 16) ((Int.tdiv ((a 17) * p) 1000) + q) (Int.tdiv ((a 18) * p) 1000))), vL (lim (slIa (a 14) (a 15) (a 16) ((Int.tdiv ((a 17) * p) 1000) + q) (Int.tdiv ((a 18) * p) 1000))), vL (lim (slIb (a 14) (a 15) (a 16) ((Int.tdiv ((a 17) * p) 1000) + q) (Int.tdiv ((a 18) * p) 1000))), vL px, vL py, vL pb, vI rg, vI wr, vR (Q 7), vI rn, vR (Q 8), vI wn])), ((Q 1), cL E 310 a), ((Q 2), cL E 310 a), ((Q 3), cL E 620 s3), ((Q 4), cZ E 2 s4), ((Q 5), cI E 80 tx), ((Q 6), cI E 24 cosT), ((Q 7), cI E 16 rr), ((Q 8), cI E 120 ww)]) [6, 7, 8, 0, 1, 2, 3, 4, 5] rfl rfl rfl ?_
          refine g_aload_n C 0 rfl dX11_test_57 rfl ?_
          refine g_callV C (b := (Q 0)) (As := []) (wc := [((Q 0), .inr (12, [vR (Q 1), vR (Q 2), vR (Q 3), vR (Q 4), vR (Q 5), vI pn, vR (Q 6), vL (lim (slVa (a 14) (a 15) (a 16) ((Int.tdiv ((a 17) * p) 1000) + q) (Int.tdiv ((a 18) * p) 1000))), vL (lim (slVb (a 14) (a 15) (a 16) ((Int.tdiv ((a 17) * p) 1000) + q) (Int.tdiv ((a 18) * p) 1000))), vL (lim (slIa (a 14) (a 15) (a 16) ((Int.tdiv ((a 17) * p) 1000) + q) (Int.tdiv ((a 18) * p) 1000))), vL (lim (slIb (a 14) (a 15) (a 16) ((Int.tdiv ((a 17) * p) 1000) + q) (Int.tdiv ((a 18) * p) 1000))), vL px, vL py, vL pb, vI rg, vI wr, vR (Q 7), vI rn, vR (Q 8), vI wn])), ((Q 1), cL E 310 a)]) (wr := [((Q 2), cL E 310 a), ((Q 3), cL E 620 s3), ((Q 4), cZ E 2 s4), ((Q 5), cI E 80 tx), ((Q 6), cI E 24 cosT), ((Q 7), cI E 16 rr), ((Q 8), cI E 120 ww)]) (st := []) gX11_test_X11_reset (q9 := 0) (ci := 12) rfl rfl rfl (K_m_reset l E Q pn (lim (slVa (a 14) (a 15) (a 16) ((Int.tdiv ((a 17) * p) 1000) + q) (Int.tdiv ((a 18) * p) 1000))) (lim (slVb (a 14) (a 15) (a 16) ((Int.tdiv ((a 17) * p) 1000) + q) (Int.tdiv ((a 18) * p) 1000))) (lim (slIa (a 14) (a 15) (a 16) ((Int.tdiv ((a 17) * p) 1000) + q) (Int.tdiv ((a 18) * p) 1000))) (lim (slIb (a 14) (a 15) (a 16) ((Int.tdiv ((a 17) * p) 1000) + q) (Int.tdiv ((a 18) * p) 1000))) px py pb rg wr rn wn a B hI0 hB) hyd_X11_reset rfl [0, 1] [2, 3, 4, 5, 6, 7, 8] rfl rfl rfl rfl rfl (by decide) ⟨rfl, rfl⟩ ⟨Nat.le_of_ble_eq_true rfl, Nat.le_of_ble_eq_true rfl, Nat.le_of_ble_eq_true rfl, Nat.le_of_ble_eq_true rfl⟩ (Nat.le_of_ble_eq_true rfl) dX11_test_58 (rfl : _ = 0) (rfl : _ = 0) rfl ?_
          rintro _ _ ⟨rfl, rfl⟩
          refine g_is (ws' := [((Q 2), cL E 310 a), ((Q 3), cL E 620 s3), ((Q 4), cZ E 2 s4), ((Q 5), cI E 80 tx), ((Q 6), cI E 24 cosT), ((Q 7), cI E 16 rr), ((Q 8), cI E 120 ww), ((Q 0), .inr (12, [vR (Q 1), vR (Q 2), vR (Q 3), vR (Q 4), vR (Q 5), vI pn, vR (Q 6), vL (lim (slVa (a 14) (a 15) (a 16) ((Int.tdiv ((a 17) * p) 1000) + q) (Int.tdiv ((a 18) * p) 1000))), vL (lim (slVb (a 14) (a 15) (a 16) ((Int.tdiv ((a 17) * p) 1000) + q) (Int.tdiv ((a 18) * p) 1000))), vL (lim (slIa (a 14) (a 15) (a 16) ((Int.tdiv ((a 17) * p) 1000) + q) (Int.tdiv ((a 18) * p) 1000))), vL (lim (slIb (a 14) (a 15) (a 16) ((Int.tdiv ((a 17) * p) 1000) + q) (Int.tdiv ((a 18) * p) 1000))), vL px, vL py, vL pb, vI rg, vI wr, vR (Q 7), vI rn, vR (Q 8), vI wn])), ((Q 1), cL E 310 (s_rst a))]) (st' := [vI (a 97)]) rfl rfl ?_
          refine g_sub (ws' := [((Q 0), .inr (12, [vR (Q 1), vR (Q 2), vR (Q 3), vR (Q 4), vR (Q 5), vI pn, vR (Q 6), vL (lim (slVa (a 14) (a 15) (a 16) ((Int.tdiv ((a 17) * p) 1000) + q) (Int.tdiv ((a 18) * p) 1000))), vL (lim (slVb (a 14) (a 15) (a 16) ((Int.tdiv ((a 17) * p) 1000) + q) (Int.tdiv ((a 18) * p) 1000))), vL (lim (slIa (a 14) (a 15) (a 16) ((Int.tdiv ((a 17) * p) 1000) + q) (Int.tdiv ((a 18) * p) 1000))), vL (lim (slIb (a 14) (a 15) (a 16) ((Int.tdiv ((a 17) * p) 1000) + q) (Int.tdiv ((a 18) * p) 1000))), vL px, vL py, vL pb, vI rg, vI wr, vR (Q 7), vI rn, vR (Q 8), vI wn])), ((Q 1), cL E 310 (s_rst a)), ((Q 2), cL E 310 a), ((Q 3), cL E 620 s3), ((Q 4), cZ E 2 s4), ((Q 5), cI E 80 tx), ((Q 6), cI E 24 cosT), ((Q 7), cI E 16 rr), ((Q 8), cI E 120 ww)]) [7, 8, 0, 1, 2, 3, 4, 5, 6] rfl rfl rfl ?_
          refine g_pop C rfl dX11_test_61 rfl ?_
          refine g_aload_n C 0 rfl dX11_test_62 rfl ?_
          refine g_callV C (b := (Q 0)) (As := []) (wc := [((Q 0), .inr (12, [vR (Q 1), vR (Q 2), vR (Q 3), vR (Q 4), vR (Q 5), vI pn, vR (Q 6), vL (lim (slVa (a 14) (a 15) (a 16) ((Int.tdiv ((a 17) * p) 1000) + q) (Int.tdiv ((a 18) * p) 1000))), vL (lim (slVb (a 14) (a 15) (a 16) ((Int.tdiv ((a 17) * p) 1000) + q) (Int.tdiv ((a 18) * p) 1000))), vL (lim (slIa (a 14) (a 15) (a 16) ((Int.tdiv ((a 17) * p) 1000) + q) (Int.tdiv ((a 18) * p) 1000))), vL (lim (slIb (a 14) (a 15) (a 16) ((Int.tdiv ((a 17) * p) 1000) + q) (Int.tdiv ((a 18) * p) 1000))), vL px, vL py, vL pb, vI rg, vI wr, vR (Q 7), vI rn, vR (Q 8), vI wn])), ((Q 1), cL E 310 (s_rst a))]) (wr := [((Q 2), cL E 310 a), ((Q 3), cL E 620 s3), ((Q 4), cZ E 2 s4), ((Q 5), cI E 80 tx), ((Q 6), cI E 24 cosT), ((Q 7), cI E 16 rr), ((Q 8), cI E 120 ww)]) (st := []) gX11_test_X11_healthy (q9 := 0) (ci := 12) rfl rfl rfl (K_m_heal1 l E Q pn (lim (slVa (a 14) (a 15) (a 16) ((Int.tdiv ((a 17) * p) 1000) + q) (Int.tdiv ((a 18) * p) 1000))) (lim (slVb (a 14) (a 15) (a 16) ((Int.tdiv ((a 17) * p) 1000) + q) (Int.tdiv ((a 18) * p) 1000))) (lim (slIa (a 14) (a 15) (a 16) ((Int.tdiv ((a 17) * p) 1000) + q) (Int.tdiv ((a 18) * p) 1000))) (lim (slIb (a 14) (a 15) (a 16) ((Int.tdiv ((a 17) * p) 1000) + q) (Int.tdiv ((a 18) * p) 1000))) px py pb rg wr rn wn (s_rst a) (show 0 ≤ a 14 ∧ a 14 ≤ 20000 from ⟨by omega, by omega⟩) (show 0 ≤ a 15 ∧ a 15 ≤ 20000 from iN 15 (by decide) (by decide)) (show 0 ≤ a 16 ∧ a 16 ≤ 20000 from iN 16 (by decide) (by decide)) (show 0 ≤ a 17 ∧ a 17 ≤ 20000 from iN 17 (by decide) (by decide)) (show 0 ≤ a 18 ∧ a 18 ≤ 20000 from iN 18 (by decide) (by decide)) (show 0 ≤ a 19 ∧ a 19 ≤ 20000 from iN 19 (by decide) (by decide)) (show 0 ≤ a 20 ∧ a 20 ≤ 20000 from iN 20 (by decide) (by decide)) hDh) hyd_X11_healthy rfl [0, 1] [2, 3, 4, 5, 6, 7, 8] rfl rfl rfl rfl rfl (by decide) ⟨rfl, rfl⟩ ⟨Nat.le_of_ble_eq_true rfl, Nat.le_of_ble_eq_true rfl, Nat.le_of_ble_eq_true rfl, Nat.le_of_ble_eq_true rfl⟩ (Nat.le_of_ble_eq_true rfl) dX11_test_63 (rfl : _ = 0) (rfl : _ = 0) rfl ?_
          rintro _ _ ⟨g0_8, g1_9, g2_10, g3_11, rfl, rfl⟩
          refine g_is (ws' := [((Q 2), cL E 310 a), ((Q 3), cL E 620 s3), ((Q 4), cZ E 2 s4), ((Q 5), cI E 80 tx), ((Q 6), cI E 24 cosT), ((Q 7), cI E 16 rr), ((Q 8), cI E 120 ww), ((Q 0), .inr (12, [vR (Q 1), vR (Q 2), vR (Q 3), vR (Q 4), vR (Q 5), vI pn, vR (Q 6), vL g0_8, vL g1_9, vL g2_10, vL g3_11, vL px, vL py, vL pb, vI rg, vI wr, vR (Q 7), vI rn, vR (Q 8), vI wn])), ((Q 1), cL E 310 (s_sol (s_rst a) (((s_rst a) 17) + ((s_rst a) 19)) (((s_rst a) 18) + ((s_rst a) 20))))]) (st' := [vI ((s_rst a) 35)]) rfl rfl ?_
          refine g_sub (ws' := [((Q 0), .inr (12, [vR (Q 1), vR (Q 2), vR (Q 3), vR (Q 4), vR (Q 5), vI pn, vR (Q 6), vL g0_8, vL g1_9, vL g2_10, vL g3_11, vL px, vL py, vL pb, vI rg, vI wr, vR (Q 7), vI rn, vR (Q 8), vI wn])), ((Q 1), cL E 310 (s_sol (s_rst a) (((s_rst a) 17) + ((s_rst a) 19)) (((s_rst a) 18) + ((s_rst a) 20)))), ((Q 2), cL E 310 a), ((Q 3), cL E 620 s3), ((Q 4), cZ E 2 s4), ((Q 5), cI E 80 tx), ((Q 6), cI E 24 cosT), ((Q 7), cI E 16 rr), ((Q 8), cI E 120 ww)]) [7, 8, 0, 1, 2, 3, 4, 5, 6] rfl rfl rfl ?_
          refine g_ws (ws' := [((Q 0), .inr (12, [vR (Q 1), vR (Q 2), vR (Q 3), vR (Q 4), vR (Q 5), vI pn, vR (Q 6), vL g0_8, vL g1_9, vL g2_10, vL g3_11, vL px, vL py, vL pb, vI rg, vI wr, vR (Q 7), vI rn, vR (Q 8), vI wn])), ((Q 1), cL E 310 (s_jmp (s_rst a) (sVa a ((a 17) + (a 19)) ((a 18) + (a 20))) (sVb a ((a 17) + (a 19)) ((a 18) + (a 20))) (sIa a ((a 17) + (a 19)) ((a 18) + (a 20))) (sIb a ((a 17) + (a 19)) ((a 18) + (a 20))))), ((Q 2), cL E 310 a), ((Q 3), cL E 620 s3), ((Q 4), cZ E 2 s4), ((Q 5), cI E 80 tx), ((Q 6), cI E 24 cosT), ((Q 7), cI E 16 rr), ((Q 8), cI E 120 ww)]) (congrArg (fun z_ : Nat → Int64 => ([((Q 0), .inr (12, [vR (Q 1), vR (Q 2), vR (Q 3), vR (Q 4), vR (Q 5), vI pn, vR (Q 6), vL g0_8, vL g1_9, vL g2_10, vL g3_11, vL px, vL py, vL pb, vI rg, vI wr, vR (Q 7), vI rn, vR (Q 8), vI wn])), ((Q 1), .inl (E.2.1 1, 310, .inr (.inl z_))), ((Q 2), cL E 310 a), ((Q 3), cL E 620 s3), ((Q 4), cZ E 2 s4), ((Q 5), cI E 80 tx), ((Q 6), cI E 24 cosT), ((Q 7), cI E 16 rr), ((Q 8), cI E 120 ww)] : va_W)) (show AL 310 (s_jmp (s_rst a) (sVa a ((a 17) + (a 19)) ((a 18) + (a 20))) (sVb a ((a 17) + (a 19)) ((a 18) + (a 20))) (sIa a ((a 17) + (a 19)) ((a 18) + (a 20))) (sIb a ((a 17) + (a 19)) ((a 18) + (a 20)))) = AL 310 (s_sol (s_rst a) (((s_rst a) 17) + ((s_rst a) 19)) (((s_rst a) 18) + ((s_rst a) 20))) from AL_c (fun k_ k0_ k1_ => by exact congrFun (sol_rst a) k_))) ?_
          refine g_pop C rfl dX11_test_66 rfl ?_
          refine g_iconst C dX11_test_67 rfl ?_
          refine g_istore C (lv' := [(0, vR (Q 0)), (1, vI p), (2, vI q), (3, vI m), (4, vI w), (5, vI 0)]) [1, 2, 3, 4, 5, 0] (by decide) rfl rfl dX11_test_68 rfl ?_
          have hL_70 : ∀ (fuel : Nat) (i : Int) (u0 : Int) (u1 : Int) (u2 : Int) (u3 : Int) (x9 : Int) (y9 : Int) (d9 : Int) (h0 : 0 ≤ i) (h1 : i ≤ 48) (hfu : (48 - i).toNat = fuel), G p9 l e9 rm_M_test s9 m9 args9 below9 meth9 c9 (RQ E (fun v9 w9 => ∃ (g0 : Int) (g1 : Int) (g2 : Int) (g3 : Int) (x2 : Int) (y2 : Int) (d2 : Int) (t2 : Int → Int), v9 = some (vI (q_test a p q m w)) ∧ w9 = [((Q 0), .inr (12, [vR (Q 1), vR (Q 2), vR (Q 3), vR (Q 4), vR (Q 5), vI pn, vR (Q 6), vL g0, vL g1, vL g2, vL g3, vL x2, vL y2, vL d2, vI rg, vI wr, vR (Q 7), vI rn, vR (Q 8), vI wn])), ((Q 1), cL E 310 a), ((Q 2), cL E 310 t2), ((Q 3), cL E 620 s3), ((Q 4), cZ E 2 s4), ((Q 5), cI E 80 tx), ((Q 6), cI E 24 cosT), ((Q 7), cI E 16 rr), ((Q 8), cI E 120 ww)]) A9 below9 args9 s9 0 0) E A9 7 0 0 [((Q 0), .inr (12, [vR (Q 1), vR (Q 2), vR (Q 3), vR (Q 4), vR (Q 5), vI pn, vR (Q 6), vL u0, vL u1, vL u2, vL u3, vL x9, vL y9, vL d9, vI rg, vI wr, vR (Q 7), vI rn, vR (Q 8), vI wn])), ((Q 1), cL E 310 (itr (Int.toNat i) (s_jmp (s_rst a) (sVa a ((a 17) + (a 19)) ((a 18) + (a 20))) (sVb a ((a 17) + (a 19)) ((a 18) + (a 20))) (sIa a ((a 17) + (a 19)) ((a 18) + (a 20))) (sIb a ((a 17) + (a 19)) ((a 18) + (a 20)))))), ((Q 2), cL E 310 a), ((Q 3), cL E 620 s3), ((Q 4), cZ E 2 s4), ((Q 5), cI E 80 tx), ((Q 6), cI E 24 cosT), ((Q 7), cI E 16 rr), ((Q 8), cI E 120 ww)] [(0, vR (Q 0)), (1, vI p), (2, vI q), (3, vI m), (4, vI w), (5, vI i)] 70 [] := by
            intro fuel
            induction fuel using Nat.strongRecOn with
            | ind fuel ih =>
              intro i u0 u1 u2 u3 x9 y9 d9 h0 h1 hfu
              refine g_iload C 5 rfl dX11_test_70 rfl ?_
              refine g_bipush C (by decide) dX11_test_72 rfl ?_
              refine g_icmp_ge C (tgt := 87) ⟨by omega, by omega⟩ ⟨by decide, by decide⟩ dX11_test_74 (by decide) rfl (fun c_12 => ?_) (fun c_12 => ?_)
              · have ei : i = 48 := by omega
                subst ei
                have iJ := itr_inv iH (Int.toNat 48)
                have oJ : ∀ j : Int, 5 ≤ j → j ≤ 34 → itr (Int.toNat 48) (s_jmp (s_rst a) (sVa a (a 17 + a 19) (a 18 + a 20)) (sVb a (a 17 + a 19) (a 18 + a 20)) (sIa a (a 17 + a 19) (a 18 + a 20)) (sIb a (a 17 + a 19) (a 18 + a 20))) j = a j := fun j h1 h2 => (itr_o iH 48 (by omega)).trans ((jmp_o (by omega)).trans (rst_o (by omega)))
                have o14 := oJ 14 (by decide) (by decide)
                have o15 := oJ 15 (by decide) (by decide)
                have o16 := oJ 16 (by decide) (by decide)
                have o17 := oJ 17 (by decide) (by decide)
                have o18 := oJ 18 (by decide) (by decide)
                refine g_aload_n C 0 rfl dX11_test_87 rfl ?_
                refine g_iload_n C 1 rfl dX11_test_88 rfl ?_
                refine g_iload_n C 2 rfl dX11_test_89 rfl ?_
                refine g_callV C (b := (Q 0)) (As := [vI p, vI q]) (wc := [((Q 0), .inr (12, [vR (Q 1), vR (Q 2), vR (Q 3), vR (Q 4), vR (Q 5), vI pn, vR (Q 6), vL u0, vL u1, vL u2, vL u3, vL x9, vL y9, vL d9, vI rg, vI wr, vR (Q 7), vI rn, vR (Q 8), vI wn])), ((Q 1), cL E 310 (itr (Int.toNat 48) (s_jmp (s_rst a) (sVa a ((a 17) + (a 19)) ((a 18) + (a 20))) (sVb a ((a 17) + (a 19)) ((a 18) + (a 20))) (sIa a ((a 17) + (a 19)) ((a 18) + (a 20))) (sIb a ((a 17) + (a 19)) ((a 18) + (a 20))))))]) (wr := [((Q 2), cL E 310 a), ((Q 3), cL E 620 s3), ((Q 4), cZ E 2 s4), ((Q 5), cI E 80 tx), ((Q 6), cI E 24 cosT), ((Q 7), cI E 16 rr), ((Q 8), cI E 120 ww)]) (st := []) gX11_test_X11_fault (q9 := 0) (ci := 12) rfl rfl rfl (K_m_flt1 l E Q pn u0 u1 u2 u3 x9 y9 d9 rg wr rn wn (itr (Int.toNat 48) (s_jmp (s_rst a) (sVa a ((a 17) + (a 19)) ((a 18) + (a 20))) (sVb a ((a 17) + (a 19)) ((a 18) + (a 20))) (sIa a ((a 17) + (a 19)) ((a 18) + (a 20))) (sIb a ((a 17) + (a 19)) ((a 18) + (a 20))))) p q (by rw [o14]; omega) (by rw [o15]; exact iN 15 (by decide) (by decide)) (by rw [o16]; exact iN 16 (by decide) (by decide)) (by rw [o17]; exact iN 17 (by decide) (by decide)) (by rw [o18]; exact iN 18 (by decide) (by decide)) (by omega) (fun z => hDz (by rw [o15, o16, o17, o18] at z; exact z))) hyd_X11_fault rfl [0, 1] [2, 3, 4, 5, 6, 7, 8] rfl rfl rfl rfl rfl (by decide) ⟨rfl, rfl⟩ ⟨Nat.le_of_ble_eq_true rfl, Nat.le_of_ble_eq_true rfl, Nat.le_of_ble_eq_true rfl, Nat.le_of_ble_eq_true rfl⟩ (Nat.le_of_ble_eq_true rfl) dX11_test_90 (rfl : _ = 0) (rfl : _ = 0) rfl ?_
                rintro _ _ ⟨g0_13, g1_14, g2_15, g3_16, rfl, rfl⟩
                refine g_is (ws' := [((Q 2), cL E 310 a), ((Q 3), cL E 620 s3), ((Q 4), cZ E 2 s4), ((Q 5), cI E 80 tx), ((Q 6), cI E 24 cosT), ((Q 7), cI E 16 rr), ((Q 8), cI E 120 ww), ((Q 0), .inr (12, [vR (Q 1), vR (Q 2), vR (Q 3), vR (Q 4), vR (Q 5), vI pn, vR (Q 6), vL g0_13, vL g1_14, vL g2_15, vL g3_16, vL x9, vL y9, vL d9, vI rg, vI wr, vR (Q 7), vI rn, vR (Q 8), vI wn])), ((Q 1), cL E 310 (s_sol (itr (Int.toNat 48) (s_jmp (s_rst a) (sVa a ((a 17) + (a 19)) ((a 18) + (a 20))) (sVb a ((a 17) + (a 19)) ((a 18) + (a 20))) (sIa a ((a 17) + (a 19)) ((a 18) + (a 20))) (sIb a ((a 17) + (a 19)) ((a 18) + (a 20))))) (fzR (itr (Int.toNat 48) (s_jmp (s_rst a) (sVa a ((a 17) + (a 19)) ((a 18) + (a 20))) (sVb a ((a 17) + (a 19)) ((a 18) + (a 20))) (sIa a ((a 17) + (a 19)) ((a 18) + (a 20))) (sIb a ((a 17) + (a 19)) ((a 18) + (a 20))))) p q) (fzX (itr (Int.toNat 48) (s_jmp (s_rst a) (sVa a ((a 17) + (a 19)) ((a 18) + (a 20))) (sVb a ((a 17) + (a 19)) ((a 18) + (a 20))) (sIa a ((a 17) + (a 19)) ((a 18) + (a 20))) (sIb a ((a 17) + (a 19)) ((a 18) + (a 20))))) p)))]) (st' := [vI ((itr (Int.toNat 48) (s_jmp (s_rst a) (sVa a ((a 17) + (a 19)) ((a 18) + (a 20))) (sVb a ((a 17) + (a 19)) ((a 18) + (a 20))) (sIa a ((a 17) + (a 19)) ((a 18) + (a 20))) (sIb a ((a 17) + (a 19)) ((a 18) + (a 20))))) 35)]) rfl rfl ?_
                refine g_sub (ws' := [((Q 0), .inr (12, [vR (Q 1), vR (Q 2), vR (Q 3), vR (Q 4), vR (Q 5), vI pn, vR (Q 6), vL g0_13, vL g1_14, vL g2_15, vL g3_16, vL x9, vL y9, vL d9, vI rg, vI wr, vR (Q 7), vI rn, vR (Q 8), vI wn])), ((Q 1), cL E 310 (s_sol (itr (Int.toNat 48) (s_jmp (s_rst a) (sVa a ((a 17) + (a 19)) ((a 18) + (a 20))) (sVb a ((a 17) + (a 19)) ((a 18) + (a 20))) (sIa a ((a 17) + (a 19)) ((a 18) + (a 20))) (sIb a ((a 17) + (a 19)) ((a 18) + (a 20))))) (fzR (itr (Int.toNat 48) (s_jmp (s_rst a) (sVa a ((a 17) + (a 19)) ((a 18) + (a 20))) (sVb a ((a 17) + (a 19)) ((a 18) + (a 20))) (sIa a ((a 17) + (a 19)) ((a 18) + (a 20))) (sIb a ((a 17) + (a 19)) ((a 18) + (a 20))))) p q) (fzX (itr (Int.toNat 48) (s_jmp (s_rst a) (sVa a ((a 17) + (a 19)) ((a 18) + (a 20))) (sVb a ((a 17) + (a 19)) ((a 18) + (a 20))) (sIa a ((a 17) + (a 19)) ((a 18) + (a 20))) (sIb a ((a 17) + (a 19)) ((a 18) + (a 20))))) p))), ((Q 2), cL E 310 a), ((Q 3), cL E 620 s3), ((Q 4), cZ E 2 s4), ((Q 5), cI E 80 tx), ((Q 6), cI E 24 cosT), ((Q 7), cI E 16 rr), ((Q 8), cI E 120 ww)]) [7, 8, 0, 1, 2, 3, 4, 5, 6] rfl rfl rfl ?_
                refine g_ws (ws' := [((Q 0), .inr (12, [vR (Q 1), vR (Q 2), vR (Q 3), vR (Q 4), vR (Q 5), vI pn, vR (Q 6), vL g0_13, vL g1_14, vL g2_15, vL g3_16, vL x9, vL y9, vL d9, vI rg, vI wr, vR (Q 7), vI rn, vR (Q 8), vI wn])), ((Q 1), cL E 310 (s_tst a p q)), ((Q 2), cL E 310 a), ((Q 3), cL E 620 s3), ((Q 4), cZ E 2 s4), ((Q 5), cI E 80 tx), ((Q 6), cI E 24 cosT), ((Q 7), cI E 16 rr), ((Q 8), cI E 120 ww)]) (congrArg (fun z_ : Nat → Int64 => ([((Q 0), .inr (12, [vR (Q 1), vR (Q 2), vR (Q 3), vR (Q 4), vR (Q 5), vI pn, vR (Q 6), vL g0_13, vL g1_14, vL g2_15, vL g3_16, vL x9, vL y9, vL d9, vI rg, vI wr, vR (Q 7), vI rn, vR (Q 8), vI wn])), ((Q 1), .inl (E.2.1 1, 310, .inr (.inl z_))), ((Q 2), cL E 310 a), ((Q 3), cL E 620 s3), ((Q 4), cZ E 2 s4), ((Q 5), cI E 80 tx), ((Q 6), cI E 24 cosT), ((Q 7), cI E 16 rr), ((Q 8), cI E 120 ww)] : va_W)) (show AL 310 (s_tst a p q) = AL 310 (s_sol (itr (Int.toNat 48) (s_jmp (s_rst a) (sVa a ((a 17) + (a 19)) ((a 18) + (a 20))) (sVb a ((a 17) + (a 19)) ((a 18) + (a 20))) (sIa a ((a 17) + (a 19)) ((a 18) + (a 20))) (sIb a ((a 17) + (a 19)) ((a 18) + (a 20))))) (fzR (itr (Int.toNat 48) (s_jmp (s_rst a) (sVa a ((a 17) + (a 19)) ((a 18) + (a 20))) (sVb a ((a 17) + (a 19)) ((a 18) + (a 20))) (sIa a ((a 17) + (a 19)) ((a 18) + (a 20))) (sIb a ((a 17) + (a 19)) ((a 18) + (a 20))))) p q) (fzX (itr (Int.toNat 48) (s_jmp (s_rst a) (sVa a ((a 17) + (a 19)) ((a 18) + (a 20))) (sVb a ((a 17) + (a 19)) ((a 18) + (a 20))) (sIa a ((a 17) + (a 19)) ((a 18) + (a 20))) (sIb a ((a 17) + (a 19)) ((a 18) + (a 20))))) p)) from AL_c (fun k_ k0_ k1_ => by exact congrFun (sol_tst hI0) k_))) ?_
                have iK2 : Inv (s_tst a p q) (B + 48) := inv_tst hI0
                refine g_pop C rfl dX11_test_93 rfl ?_
                refine g_aload_n C 0 rfl dX11_test_94 rfl ?_
                refine g_iload_n C 3 rfl dX11_test_95 rfl ?_
                refine g_callV C (b := (Q 0)) (As := [vI m]) (wc := [((Q 0), .inr (12, [vR (Q 1), vR (Q 2), vR (Q 3), vR (Q 4), vR (Q 5), vI pn, vR (Q 6), vL g0_13, vL g1_14, vL g2_15, vL g3_16, vL x9, vL y9, vL d9, vI rg, vI wr, vR (Q 7), vI rn, vR (Q 8), vI wn])), ((Q 1), cL E 310 (s_tst a p q)), ((Q 6), cI E 24 cosT)]) (wr := [((Q 2), cL E 310 a), ((Q 3), cL E 620 s3), ((Q 4), cZ E 2 s4), ((Q 5), cI E 80 tx), ((Q 7), cI E 16 rr), ((Q 8), cI E 120 ww)]) (st := []) gX11_test_X11_samplesToTrip (q9 := 0) (ci := 12) rfl rfl rfl (K_m_until l E Q pn g0_13 g1_14 g2_15 g3_16 x9 y9 d9 rg wr rn wn (s_tst a p q) (B + 48) m iK2 (by omega) (by omega)) hyd_X11_samplesToTrip rfl [0, 1, 6] [2, 3, 4, 5, 7, 8] rfl rfl rfl rfl rfl (by decide) ⟨rfl, rfl⟩ ⟨Nat.le_of_ble_eq_true rfl, Nat.le_of_ble_eq_true rfl, Nat.le_of_ble_eq_true rfl, Nat.le_of_ble_eq_true rfl⟩ (Nat.le_of_ble_eq_true rfl) dX11_test_96 (rfl : _ = 0) (rfl : _ = 0) rfl ?_
                rintro _ _ ⟨x2_17, y2_18, d2_19, rfl, rfl⟩
                refine g_is (ws' := [((Q 2), cL E 310 a), ((Q 3), cL E 620 s3), ((Q 4), cZ E 2 s4), ((Q 5), cI E 80 tx), ((Q 7), cI E 16 rr), ((Q 8), cI E 120 ww), ((Q 0), .inr (12, [vR (Q 1), vR (Q 2), vR (Q 3), vR (Q 4), vR (Q 5), vI pn, vR (Q 6), vL g0_13, vL g1_14, vL g2_15, vL g3_16, vL x2_17, vL y2_18, vL d2_19, vI rg, vI wr, vR (Q 7), vI rn, vR (Q 8), vI wn])), ((Q 1), cL E 310 (utS (Int.toNat m) (s_tst a p q))), ((Q 6), cI E 24 cosT)]) (st' := [vI (utR (Int.toNat m) 0 (s_tst a p q))]) rfl rfl ?_
                refine g_sub (ws' := [((Q 0), .inr (12, [vR (Q 1), vR (Q 2), vR (Q 3), vR (Q 4), vR (Q 5), vI pn, vR (Q 6), vL g0_13, vL g1_14, vL g2_15, vL g3_16, vL x2_17, vL y2_18, vL d2_19, vI rg, vI wr, vR (Q 7), vI rn, vR (Q 8), vI wn])), ((Q 1), cL E 310 (utS (Int.toNat m) (s_tst a p q))), ((Q 2), cL E 310 a), ((Q 3), cL E 620 s3), ((Q 4), cZ E 2 s4), ((Q 5), cI E 80 tx), ((Q 6), cI E 24 cosT), ((Q 7), cI E 16 rr), ((Q 8), cI E 120 ww)]) [6, 7, 0, 1, 2, 3, 8, 4, 5] rfl rfl rfl ?_
                refine g_istore C (lv' := [(0, vR (Q 0)), (1, vI p), (2, vI q), (3, vI m), (4, vI w), (5, vI (utR (Int.toNat m) 0 (s_tst a p q)))]) [1, 2, 3, 4, 5, 0] (by decide) rfl rfl dX11_test_99 rfl ?_
                refine g_aload_n C 0 rfl dX11_test_101 rfl ?_
                refine g_get C 0 fd_X11_test_7 rfl rfl rfl dX11_test_102 rfl ?_
                refine g_bipush C (by decide) dX11_test_105 rfl ?_
                refine g_lald C 1 rfl (by decide) (by decide) (by decide) rfl dX11_test_107 rfl ?_
                refine g_l2i C rfl dX11_test_108 rfl ?_
                refine g_istore C (lv' := [(0, vR (Q 0)), (1, vI p), (2, vI q), (3, vI m), (4, vI w), (5, vI (utR (Int.toNat m) 0 (s_tst a p q))), (6, vI ((utS (Int.toNat m) (s_tst a p q)) 97))]) [1, 2, 3, 4, 5, 6, 0] (by decide) rfl rfl dX11_test_109 rfl ?_
                refine g_aload_n C 0 rfl dX11_test_111 rfl ?_
                refine g_callV C (b := (Q 0)) (As := []) (wc := [((Q 0), .inr (12, [vR (Q 1), vR (Q 2), vR (Q 3), vR (Q 4), vR (Q 5), vI pn, vR (Q 6), vL g0_13, vL g1_14, vL g2_15, vL g3_16, vL x2_17, vL y2_18, vL d2_19, vI rg, vI wr, vR (Q 7), vI rn, vR (Q 8), vI wn])), ((Q 1), cL E 310 (utS (Int.toNat m) (s_tst a p q))), ((Q 2), cL E 310 a)]) (wr := [((Q 3), cL E 620 s3), ((Q 4), cZ E 2 s4), ((Q 5), cI E 80 tx), ((Q 6), cI E 24 cosT), ((Q 7), cI E 16 rr), ((Q 8), cI E 120 ww)]) (st := []) gX11_test_X11_putBack (q9 := 0) (ci := 12) rfl rfl rfl (K_m_back l E Q pn g0_13 g1_14 g2_15 g3_16 x2_17 y2_18 d2_19 rg wr rn wn (utS (Int.toNat m) (s_tst a p q)) a ) hyd_X11_putBack rfl [0, 1, 2] [3, 4, 5, 6, 7, 8] rfl rfl rfl rfl rfl (by decide) ⟨rfl, rfl⟩ ⟨Nat.le_of_ble_eq_true rfl, Nat.le_of_ble_eq_true rfl, Nat.le_of_ble_eq_true rfl, Nat.le_of_ble_eq_true rfl⟩ (Nat.le_of_ble_eq_true rfl) dX11_test_112 (rfl : _ = 0) (rfl : _ = 0) rfl ?_
                rintro _ _ ⟨rfl, rfl⟩
                refine g_is (ws' := [((Q 3), cL E 620 s3), ((Q 4), cZ E 2 s4), ((Q 5), cI E 80 tx), ((Q 6), cI E 24 cosT), ((Q 7), cI E 16 rr), ((Q 8), cI E 120 ww), ((Q 0), .inr (12, [vR (Q 1), vR (Q 2), vR (Q 3), vR (Q 4), vR (Q 5), vI pn, vR (Q 6), vL g0_13, vL g1_14, vL g2_15, vL g3_16, vL x2_17, vL y2_18, vL d2_19, vI rg, vI wr, vR (Q 7), vI rn, vR (Q 8), vI wn])), ((Q 1), cL E 310 a), ((Q 2), cL E 310 a)]) (st' := []) rfl rfl ?_
                refine g_sub (ws' := [((Q 0), .inr (12, [vR (Q 1), vR (Q 2), vR (Q 3), vR (Q 4), vR (Q 5), vI pn, vR (Q 6), vL g0_13, vL g1_14, vL g2_15, vL g3_16, vL x2_17, vL y2_18, vL d2_19, vI rg, vI wr, vR (Q 7), vI rn, vR (Q 8), vI wn])), ((Q 1), cL E 310 a), ((Q 2), cL E 310 a), ((Q 3), cL E 620 s3), ((Q 4), cZ E 2 s4), ((Q 5), cI E 80 tx), ((Q 6), cI E 24 cosT), ((Q 7), cI E 16 rr), ((Q 8), cI E 120 ww)]) [6, 7, 8, 0, 1, 2, 3, 4, 5] rfl rfl rfl ?_
                refine g_iload C 4 rfl dX11_test_115 rfl ?_
                refine g_if_ne C (tgt := 125) (b_w) dX11_test_117 (by decide) rfl (fun c_20 => ?_) (fun c_20 => ?_)
                · refine g_iload C 6 rfl dX11_test_125 rfl ?_
                  refine g_top (v' := vI (q_test a p q m w)) (congrArg (fun z_ : Int => vI z_) (show (q_test a p q m w) = ((utS (Int.toNat m) (s_tst a p q)) 97) by unfold q_test sD fzR fzX; (repeat' split) <;> first | rfl | omega | contradiction)) ?_
                  exact g_iret C hr rfl (Nat.le_of_ble_eq_true rfl) (Nat.le_of_ble_eq_true rfl) dX11_test_127 ⟨g0_13, g1_14, g2_15, g3_16, x2_17, y2_18, d2_19, a, rfl, rfl⟩
                refine g_iload C 5 rfl dX11_test_120 rfl ?_
                refine g_goto C (pc' := 127) dX11_test_122 (by decide) ?_
                refine g_top (v' := vI (q_test a p q m w)) (congrArg (fun z_ : Int => vI z_) (show (q_test a p q m w) = (utR (Int.toNat m) 0 (s_tst a p q)) by unfold q_test sD fzR fzX; (repeat' split) <;> first | rfl | omega | contradiction)) ?_
                exact g_iret C hr rfl (Nat.le_of_ble_eq_true rfl) (Nat.le_of_ble_eq_true rfl) dX11_test_127 ⟨g0_13, g1_14, g2_15, g3_16, x2_17, y2_18, d2_19, a, rfl, rfl⟩
              have iI := itr_inv iH (Int.toNat i)
              refine g_aload_n C 0 rfl dX11_test_77 rfl ?_
              refine g_callV C (b := (Q 0)) (As := []) (wc := [((Q 0), .inr (12, [vR (Q 1), vR (Q 2), vR (Q 3), vR (Q 4), vR (Q 5), vI pn, vR (Q 6), vL u0, vL u1, vL u2, vL u3, vL x9, vL y9, vL d9, vI rg, vI wr, vR (Q 7), vI rn, vR (Q 8), vI wn])), ((Q 1), cL E 310 (itr (Int.toNat i) (s_jmp (s_rst a) (sVa a ((a 17) + (a 19)) ((a 18) + (a 20))) (sVb a ((a 17) + (a 19)) ((a 18) + (a 20))) (sIa a ((a 17) + (a 19)) ((a 18) + (a 20))) (sIb a ((a 17) + (a 19)) ((a 18) + (a 20)))))), ((Q 6), cI E 24 cosT)]) (wr := [((Q 2), cL E 310 a), ((Q 3), cL E 620 s3), ((Q 4), cZ E 2 s4), ((Q 5), cI E 80 tx), ((Q 7), cI E 16 rr), ((Q 8), cI E 120 ww)]) (st := []) gX11_test_X11_sample (q9 := 0) (ci := 12) rfl rfl rfl (K_m_sample l E Q pn u0 u1 u2 u3 x9 y9 d9 rg wr rn wn (itr (Int.toNat i) (s_jmp (s_rst a) (sVa a ((a 17) + (a 19)) ((a 18) + (a 20))) (sVb a ((a 17) + (a 19)) ((a 18) + (a 20))) (sIa a ((a 17) + (a 19)) ((a 18) + (a 20))) (sIb a ((a 17) + (a 19)) ((a 18) + (a 20))))) (B + ((Int.toNat i : Nat) : Int)) iI (by omega)) hyd_X11_sample rfl [0, 1, 6] [2, 3, 4, 5, 7, 8] rfl rfl rfl rfl rfl (by decide) ⟨rfl, rfl⟩ ⟨Nat.le_of_ble_eq_true rfl, Nat.le_of_ble_eq_true rfl, Nat.le_of_ble_eq_true rfl, Nat.le_of_ble_eq_true rfl⟩ (Nat.le_of_ble_eq_true rfl) dX11_test_78 (rfl : _ = 0) (rfl : _ = 0) rfl ?_
              rintro _ _ ⟨x2_21, y2_22, d2_23, rfl, rfl⟩
              refine g_is (ws' := [((Q 2), cL E 310 a), ((Q 3), cL E 620 s3), ((Q 4), cZ E 2 s4), ((Q 5), cI E 80 tx), ((Q 7), cI E 16 rr), ((Q 8), cI E 120 ww), ((Q 0), .inr (12, [vR (Q 1), vR (Q 2), vR (Q 3), vR (Q 4), vR (Q 5), vI pn, vR (Q 6), vL u0, vL u1, vL u2, vL u3, vL x2_21, vL y2_22, vL d2_23, vI rg, vI wr, vR (Q 7), vI rn, vR (Q 8), vI wn])), ((Q 1), cL E 310 (stp (itr (Int.toNat i) (s_jmp (s_rst a) (sVa a ((a 17) + (a 19)) ((a 18) + (a 20))) (sVb a ((a 17) + (a 19)) ((a 18) + (a 20))) (sIa a ((a 17) + (a 19)) ((a 18) + (a 20))) (sIb a ((a 17) + (a 19)) ((a 18) + (a 20))))))), ((Q 6), cI E 24 cosT)]) (st' := []) rfl rfl ?_
              refine g_sub (ws' := [((Q 0), .inr (12, [vR (Q 1), vR (Q 2), vR (Q 3), vR (Q 4), vR (Q 5), vI pn, vR (Q 6), vL u0, vL u1, vL u2, vL u3, vL x2_21, vL y2_22, vL d2_23, vI rg, vI wr, vR (Q 7), vI rn, vR (Q 8), vI wn])), ((Q 1), cL E 310 (stp (itr (Int.toNat i) (s_jmp (s_rst a) (sVa a ((a 17) + (a 19)) ((a 18) + (a 20))) (sVb a ((a 17) + (a 19)) ((a 18) + (a 20))) (sIa a ((a 17) + (a 19)) ((a 18) + (a 20))) (sIb a ((a 17) + (a 19)) ((a 18) + (a 20))))))), ((Q 2), cL E 310 a), ((Q 3), cL E 620 s3), ((Q 4), cZ E 2 s4), ((Q 5), cI E 80 tx), ((Q 6), cI E 24 cosT), ((Q 7), cI E 16 rr), ((Q 8), cI E 120 ww)]) [6, 7, 0, 1, 2, 3, 8, 4, 5] rfl rfl rfl ?_
              refine g_iinc C (r := (i + 1)) (lv' := [(0, vR (Q 0)), (1, vI p), (2, vI q), (3, vI m), (4, vI w), (5, vI (i + 1))]) 5 [1, 2, 3, 4, 5, 0] rfl rfl (by decide) rfl rfl dX11_test_81 rfl ?_
              refine g_goto C (pc' := 70) dX11_test_84 (by decide) ?_
              refine g_ws (ws' := [((Q 0), .inr (12, [vR (Q 1), vR (Q 2), vR (Q 3), vR (Q 4), vR (Q 5), vI pn, vR (Q 6), vL u0, vL u1, vL u2, vL u3, vL x2_21, vL y2_22, vL d2_23, vI rg, vI wr, vR (Q 7), vI rn, vR (Q 8), vI wn])), ((Q 1), cL E 310 (itr (Int.toNat (i + 1)) (s_jmp (s_rst a) (sVa a ((a 17) + (a 19)) ((a 18) + (a 20))) (sVb a ((a 17) + (a 19)) ((a 18) + (a 20))) (sIa a ((a 17) + (a 19)) ((a 18) + (a 20))) (sIb a ((a 17) + (a 19)) ((a 18) + (a 20)))))), ((Q 2), cL E 310 a), ((Q 3), cL E 620 s3), ((Q 4), cZ E 2 s4), ((Q 5), cI E 80 tx), ((Q 6), cI E 24 cosT), ((Q 7), cI E 16 rr), ((Q 8), cI E 120 ww)]) (congrArg (fun z_ : Nat → Int64 => ([((Q 0), .inr (12, [vR (Q 1), vR (Q 2), vR (Q 3), vR (Q 4), vR (Q 5), vI pn, vR (Q 6), vL u0, vL u1, vL u2, vL u3, vL x2_21, vL y2_22, vL d2_23, vI rg, vI wr, vR (Q 7), vI rn, vR (Q 8), vI wn])), ((Q 1), .inl (E.2.1 1, 310, .inr (.inl z_))), ((Q 2), cL E 310 a), ((Q 3), cL E 620 s3), ((Q 4), cZ E 2 s4), ((Q 5), cI E 80 tx), ((Q 6), cI E 24 cosT), ((Q 7), cI E 16 rr), ((Q 8), cI E 120 ww)] : va_W)) (show AL 310 (itr (Int.toNat (i + 1)) (s_jmp (s_rst a) (sVa a ((a 17) + (a 19)) ((a 18) + (a 20))) (sVb a ((a 17) + (a 19)) ((a 18) + (a 20))) (sIa a ((a 17) + (a 19)) ((a 18) + (a 20))) (sIb a ((a 17) + (a 19)) ((a 18) + (a 20))))) = AL 310 (stp (itr (Int.toNat i) (s_jmp (s_rst a) (sVa a ((a 17) + (a 19)) ((a 18) + (a 20))) (sVb a ((a 17) + (a 19)) ((a 18) + (a 20))) (sIa a ((a 17) + (a 19)) ((a 18) + (a 20))) (sIb a ((a 17) + (a 19)) ((a 18) + (a 20)))))) from AL_c (fun k_ k0_ k1_ => by rw [show Int.toNat (i + 1) = Int.toNat i + 1 by omega]; rfl))) ?_
              exact ih _ (by omega) (i + 1) u0 u1 u2 u3 x2_21 y2_22 d2_23 (by omega) (by omega) rfl
          refine g_ws (ws' := [((Q 0), .inr (12, [vR (Q 1), vR (Q 2), vR (Q 3), vR (Q 4), vR (Q 5), vI pn, vR (Q 6), vL g0_8, vL g1_9, vL g2_10, vL g3_11, vL px, vL py, vL pb, vI rg, vI wr, vR (Q 7), vI rn, vR (Q 8), vI wn])), ((Q 1), cL E 310 (itr (Int.toNat 0) (s_jmp (s_rst a) (sVa a ((a 17) + (a 19)) ((a 18) + (a 20))) (sVb a ((a 17) + (a 19)) ((a 18) + (a 20))) (sIa a ((a 17) + (a 19)) ((a 18) + (a 20))) (sIb a ((a 17) + (a 19)) ((a 18) + (a 20)))))), ((Q 2), cL E 310 a), ((Q 3), cL E 620 s3), ((Q 4), cZ E 2 s4), ((Q 5), cI E 80 tx), ((Q 6), cI E 24 cosT), ((Q 7), cI E 16 rr), ((Q 8), cI E 120 ww)]) (congrArg (fun z_ : Nat → Int64 => ([((Q 0), .inr (12, [vR (Q 1), vR (Q 2), vR (Q 3), vR (Q 4), vR (Q 5), vI pn, vR (Q 6), vL g0_8, vL g1_9, vL g2_10, vL g3_11, vL px, vL py, vL pb, vI rg, vI wr, vR (Q 7), vI rn, vR (Q 8), vI wn])), ((Q 1), .inl (E.2.1 1, 310, .inr (.inl z_))), ((Q 2), cL E 310 a), ((Q 3), cL E 620 s3), ((Q 4), cZ E 2 s4), ((Q 5), cI E 80 tx), ((Q 6), cI E 24 cosT), ((Q 7), cI E 16 rr), ((Q 8), cI E 120 ww)] : va_W)) (show AL 310 (itr (Int.toNat 0) (s_jmp (s_rst a) (sVa a ((a 17) + (a 19)) ((a 18) + (a 20))) (sVb a ((a 17) + (a 19)) ((a 18) + (a 20))) (sIa a ((a 17) + (a 19)) ((a 18) + (a 20))) (sIb a ((a 17) + (a 19)) ((a 18) + (a 20))))) = AL 310 (s_jmp (s_rst a) (sVa a ((a 17) + (a 19)) ((a 18) + (a 20))) (sVb a ((a 17) + (a 19)) ((a 18) + (a 20))) (sIa a ((a 17) + (a 19)) ((a 18) + (a 20))) (sIb a ((a 17) + (a 19)) ((a 18) + (a 20)))) from AL_c (fun k_ k0_ k1_ => by rfl))) ?_
          exact hL_70 _ 0 g0_8 g1_9 g2_10 g3_11 px py pb (by omega) (by omega) rfl
        exact absurd c_7 (by decide)
  refine g_bipush C (by decide) dX11_test_31 rfl ?_
  refine g_top (v' := vI (q_test a p q m w)) (congrArg (fun z_ : Int => vI z_) (show (q_test a p q m w) = (-2) by unfold q_test sD fzR fzX; (repeat' split) <;> first | rfl | omega | contradiction)) ?_
  exact g_iret C hr rfl (Nat.le_of_ble_eq_true rfl) (Nat.le_of_ble_eq_true rfl) dX11_test_33 ⟨f0, f1, f2, f3, px, py, pb, s2, rfl, rfl⟩

theorem w_X11_forecast_k48 : Cond.constantLong RX11 48 (5000) ∈ wsX11_forecast := by decide +kernel
abbrev rm_M_fore : Room := { frames := 10, cells := 0, slots := 0, locals := 250 }
set_option maxHeartbeats 1000000 in
set_option maxRecDepth 100000 in
theorem M_fore (l : Launch) (E : Ev) (Q : Nat → Nat) (pn f0 f1 f2 f3 px py pb rg wr rn wn : Int) (a s2 s3 s4 tx rr ww : Int → Int) (B m : Int) (hI : Inv a B) (hB : B ≤ 2900000) (b_m : bi m) : Mc l yX11_forecast wsX11_forecast rm_M_fore E [vR (Q 0), vI m] [((Q 0), .inr (12, [vR (Q 1), vR (Q 2), vR (Q 3), vR (Q 4), vR (Q 5), vI pn, vR (Q 6), vL f0, vL f1, vL f2, vL f3, vL px, vL py, vL pb, vI rg, vI wr, vR (Q 7), vI rn, vR (Q 8), vI wn])), ((Q 1), cL E 310 a), ((Q 2), cL E 310 s2), ((Q 3), cL E 620 s3), ((Q 4), cZ E 2 s4), ((Q 5), cI E 80 tx), ((Q 6), cI E 24 cosT), ((Q 7), cI E 16 rr), ((Q 8), cI E 120 ww)] 0 0 (fun v9 w9 => ∃ (x2 : Int) (y2 : Int) (d2 : Int) (t2 : Int → Int), v9 = some (vI (q_fore a m)) ∧ w9 = [((Q 0), .inr (12, [vR (Q 1), vR (Q 2), vR (Q 3), vR (Q 4), vR (Q 5), vI pn, vR (Q 6), vL f0, vL f1, vL f2, vL f3, vL x2, vL y2, vL d2, vI rg, vI wr, vR (Q 7), vI rn, vR (Q 8), vI wn])), ((Q 1), cL E 310 a), ((Q 2), cL E 310 t2), ((Q 3), cL E 620 s3), ((Q 4), cZ E 2 s4), ((Q 5), cI E 80 tx), ((Q 6), cI E 24 cosT), ((Q 7), cI E 16 rr), ((Q 8), cI E 120 ww)]) := by
  refine Mc.intro (cc := cX11_forecast) (maxL := 3) (ret := (some .int)) (lv0 := [(0, vR (Q 0)), (1, vI m)]) (by decide +kernel) rfl rfl (Nat.le_of_ble_eq_true rfl) ?_
  intro p9 e9 s9 m9 args9 below9 meth9 c9 A9 C hr hmn
  have C : Cx p9 s9 m9 args9 meth9 c9 E A9 3 cX11_forecast wsX11_forecast RX11 := C
  have hI0 := hI
  obtain ⟨iP, i4, iR, iE, iN, ⟨i21, i22, i23, i24, i25, i26, i27, i28⟩, iD, iW, i35, iS, iM, i90, i91, i94, i95, i96, i97, iT, iK, i104, iPn, iPc⟩ := hI
  refine g_iload_n C 1 rfl dX11_forecast_0 rfl ?_
  refine g_i2l C (b_m) rfl dX11_forecast_1 rfl ?_
  refine g_lconst1 C dX11_forecast_2 rfl ?_
  refine g_ldc2 C (x := 5000) w_X11_forecast_k48 (by decide) dX11_forecast_3 rfl ?_
  refine g_callS C (As := [vL m, vL 1, vL 5000]) (wc := []) (wr := [((Q 0), .inr (12, [vR (Q 1), vR (Q 2), vR (Q 3), vR (Q 4), vR (Q 5), vI pn, vR (Q 6), vL f0, vL f1, vL f2, vL f3, vL px, vL py, vL pb, vI rg, vI wr, vR (Q 7), vI rn, vR (Q 8), vI wn])), ((Q 1), cL E 310 a), ((Q 2), cL E 310 s2), ((Q 3), cL E 620 s3), ((Q 4), cZ E 2 s4), ((Q 5), cI E 80 tx), ((Q 6), cI E 24 cosT), ((Q 7), cI E 16 rr), ((Q 8), cI E 120 ww)]) (st := []) gX11_forecast_X11_in rfl (K_m_in l E m 1 5000 ⟨by omega, by omega⟩ ⟨by omega, by omega⟩ ⟨by omega, by omega⟩) hyd_X11_in rfl [] [0, 1, 2, 3, 4, 5, 6, 7, 8] rfl rfl rfl rfl rfl (by decide) ⟨rfl, rfl⟩ ⟨Nat.le_of_ble_eq_true rfl, Nat.le_of_ble_eq_true rfl, Nat.le_of_ble_eq_true rfl, Nat.le_of_ble_eq_true rfl⟩ (Nat.le_of_ble_eq_true rfl) dX11_forecast_6 (rfl : _ = 0) (rfl : _ = 0) rfl ?_
  rintro _ _ ⟨rfl, rfl⟩
  refine g_is (ws' := [((Q 0), .inr (12, [vR (Q 1), vR (Q 2), vR (Q 3), vR (Q 4), vR (Q 5), vI pn, vR (Q 6), vL f0, vL f1, vL f2, vL f3, vL px, vL py, vL pb, vI rg, vI wr, vR (Q 7), vI rn, vR (Q 8), vI wn])), ((Q 1), cL E 310 a), ((Q 2), cL E 310 s2), ((Q 3), cL E 620 s3), ((Q 4), cZ E 2 s4), ((Q 5), cI E 80 tx), ((Q 6), cI E 24 cosT), ((Q 7), cI E 16 rr), ((Q 8), cI E 120 ww)]) (st' := [vI (bP (1 ≤ m ∧ m ≤ 5000))]) rfl rfl ?_
  refine g_ifb_ne C (tgt := 15) dX11_forecast_9 (by decide) rfl (fun c_1 => ?_) (fun c_1 => ?_)
  · refine g_aload_n C 0 rfl dX11_forecast_15 rfl ?_
    refine g_callV C (b := (Q 0)) (As := []) (wc := [((Q 0), .inr (12, [vR (Q 1), vR (Q 2), vR (Q 3), vR (Q 4), vR (Q 5), vI pn, vR (Q 6), vL f0, vL f1, vL f2, vL f3, vL px, vL py, vL pb, vI rg, vI wr, vR (Q 7), vI rn, vR (Q 8), vI wn])), ((Q 1), cL E 310 a), ((Q 2), cL E 310 s2)]) (wr := [((Q 3), cL E 620 s3), ((Q 4), cZ E 2 s4), ((Q 5), cI E 80 tx), ((Q 6), cI E 24 cosT), ((Q 7), cI E 16 rr), ((Q 8), cI E 120 ww)]) (st := []) gX11_forecast_X11_putAside (q9 := 0) (ci := 12) rfl rfl rfl (K_m_aside l E Q pn f0 f1 f2 f3 px py pb rg wr rn wn a s2 ) hyd_X11_putAside rfl [0, 1, 2] [3, 4, 5, 6, 7, 8] rfl rfl rfl rfl rfl (by decide) ⟨rfl, rfl⟩ ⟨Nat.le_of_ble_eq_true rfl, Nat.le_of_ble_eq_true rfl, Nat.le_of_ble_eq_true rfl, Nat.le_of_ble_eq_true rfl⟩ (Nat.le_of_ble_eq_true rfl) dX11_forecast_16 (rfl : _ = 0) (rfl : _ = 0) rfl ?_
    rintro _ _ ⟨rfl, rfl⟩
    refine g_is (ws' := [((Q 3), cL E 620 s3), ((Q 4), cZ E 2 s4), ((Q 5), cI E 80 tx), ((Q 6), cI E 24 cosT), ((Q 7), cI E 16 rr), ((Q 8), cI E 120 ww), ((Q 0), .inr (12, [vR (Q 1), vR (Q 2), vR (Q 3), vR (Q 4), vR (Q 5), vI pn, vR (Q 6), vL f0, vL f1, vL f2, vL f3, vL px, vL py, vL pb, vI rg, vI wr, vR (Q 7), vI rn, vR (Q 8), vI wn])), ((Q 1), cL E 310 a), ((Q 2), cL E 310 a)]) (st' := []) rfl rfl ?_
    refine g_sub (ws' := [((Q 0), .inr (12, [vR (Q 1), vR (Q 2), vR (Q 3), vR (Q 4), vR (Q 5), vI pn, vR (Q 6), vL f0, vL f1, vL f2, vL f3, vL px, vL py, vL pb, vI rg, vI wr, vR (Q 7), vI rn, vR (Q 8), vI wn])), ((Q 1), cL E 310 a), ((Q 2), cL E 310 a), ((Q 3), cL E 620 s3), ((Q 4), cZ E 2 s4), ((Q 5), cI E 80 tx), ((Q 6), cI E 24 cosT), ((Q 7), cI E 16 rr), ((Q 8), cI E 120 ww)]) [6, 7, 8, 0, 1, 2, 3, 4, 5] rfl rfl rfl ?_
    refine g_aload_n C 0 rfl dX11_forecast_19 rfl ?_
    refine g_iload_n C 1 rfl dX11_forecast_20 rfl ?_
    refine g_callV C (b := (Q 0)) (As := [vI m]) (wc := [((Q 0), .inr (12, [vR (Q 1), vR (Q 2), vR (Q 3), vR (Q 4), vR (Q 5), vI pn, vR (Q 6), vL f0, vL f1, vL f2, vL f3, vL px, vL py, vL pb, vI rg, vI wr, vR (Q 7), vI rn, vR (Q 8), vI wn])), ((Q 1), cL E 310 a), ((Q 6), cI E 24 cosT)]) (wr := [((Q 2), cL E 310 a), ((Q 3), cL E 620 s3), ((Q 4), cZ E 2 s4), ((Q 5), cI E 80 tx), ((Q 7), cI E 16 rr), ((Q 8), cI E 120 ww)]) (st := []) gX11_forecast_X11_samplesToTrip (q9 := 0) (ci := 12) rfl rfl rfl (K_m_until l E Q pn f0 f1 f2 f3 px py pb rg wr rn wn a B m hI0 (by omega) (by omega)) hyd_X11_samplesToTrip rfl [0, 1, 6] [2, 3, 4, 5, 7, 8] rfl rfl rfl rfl rfl (by decide) ⟨rfl, rfl⟩ ⟨Nat.le_of_ble_eq_true rfl, Nat.le_of_ble_eq_true rfl, Nat.le_of_ble_eq_true rfl, Nat.le_of_ble_eq_true rfl⟩ (Nat.le_of_ble_eq_true rfl) dX11_forecast_21 (rfl : _ = 0) (rfl : _ = 0) rfl ?_
    rintro _ _ ⟨x2_2, y2_3, d2_4, rfl, rfl⟩
    refine g_is (ws' := [((Q 2), cL E 310 a), ((Q 3), cL E 620 s3), ((Q 4), cZ E 2 s4), ((Q 5), cI E 80 tx), ((Q 7), cI E 16 rr), ((Q 8), cI E 120 ww), ((Q 0), .inr (12, [vR (Q 1), vR (Q 2), vR (Q 3), vR (Q 4), vR (Q 5), vI pn, vR (Q 6), vL f0, vL f1, vL f2, vL f3, vL x2_2, vL y2_3, vL d2_4, vI rg, vI wr, vR (Q 7), vI rn, vR (Q 8), vI wn])), ((Q 1), cL E 310 (utS (Int.toNat m) a)), ((Q 6), cI E 24 cosT)]) (st' := [vI (utR (Int.toNat m) 0 a)]) rfl rfl ?_
    refine g_sub (ws' := [((Q 0), .inr (12, [vR (Q 1), vR (Q 2), vR (Q 3), vR (Q 4), vR (Q 5), vI pn, vR (Q 6), vL f0, vL f1, vL f2, vL f3, vL x2_2, vL y2_3, vL d2_4, vI rg, vI wr, vR (Q 7), vI rn, vR (Q 8), vI wn])), ((Q 1), cL E 310 (utS (Int.toNat m) a)), ((Q 2), cL E 310 a), ((Q 3), cL E 620 s3), ((Q 4), cZ E 2 s4), ((Q 5), cI E 80 tx), ((Q 6), cI E 24 cosT), ((Q 7), cI E 16 rr), ((Q 8), cI E 120 ww)]) [6, 7, 0, 1, 2, 3, 8, 4, 5] rfl rfl rfl ?_
    refine g_istore_n C (lv' := [(0, vR (Q 0)), (1, vI m), (2, vI (utR (Int.toNat m) 0 a))]) [1, 2, 0] (by decide) rfl rfl dX11_forecast_24 rfl ?_
    refine g_aload_n C 0 rfl dX11_forecast_25 rfl ?_
    refine g_callV C (b := (Q 0)) (As := []) (wc := [((Q 0), .inr (12, [vR (Q 1), vR (Q 2), vR (Q 3), vR (Q 4), vR (Q 5), vI pn, vR (Q 6), vL f0, vL f1, vL f2, vL f3, vL x2_2, vL y2_3, vL d2_4, vI rg, vI wr, vR (Q 7), vI rn, vR (Q 8), vI wn])), ((Q 1), cL E 310 (utS (Int.toNat m) a)), ((Q 2), cL E 310 a)]) (wr := [((Q 3), cL E 620 s3), ((Q 4), cZ E 2 s4), ((Q 5), cI E 80 tx), ((Q 6), cI E 24 cosT), ((Q 7), cI E 16 rr), ((Q 8), cI E 120 ww)]) (st := []) gX11_forecast_X11_putBack (q9 := 0) (ci := 12) rfl rfl rfl (K_m_back l E Q pn f0 f1 f2 f3 x2_2 y2_3 d2_4 rg wr rn wn (utS (Int.toNat m) a) a ) hyd_X11_putBack rfl [0, 1, 2] [3, 4, 5, 6, 7, 8] rfl rfl rfl rfl rfl (by decide) ⟨rfl, rfl⟩ ⟨Nat.le_of_ble_eq_true rfl, Nat.le_of_ble_eq_true rfl, Nat.le_of_ble_eq_true rfl, Nat.le_of_ble_eq_true rfl⟩ (Nat.le_of_ble_eq_true rfl) dX11_forecast_26 (rfl : _ = 0) (rfl : _ = 0) rfl ?_
    rintro _ _ ⟨rfl, rfl⟩
    refine g_is (ws' := [((Q 3), cL E 620 s3), ((Q 4), cZ E 2 s4), ((Q 5), cI E 80 tx), ((Q 6), cI E 24 cosT), ((Q 7), cI E 16 rr), ((Q 8), cI E 120 ww), ((Q 0), .inr (12, [vR (Q 1), vR (Q 2), vR (Q 3), vR (Q 4), vR (Q 5), vI pn, vR (Q 6), vL f0, vL f1, vL f2, vL f3, vL x2_2, vL y2_3, vL d2_4, vI rg, vI wr, vR (Q 7), vI rn, vR (Q 8), vI wn])), ((Q 1), cL E 310 a), ((Q 2), cL E 310 a)]) (st' := []) rfl rfl ?_
    refine g_sub (ws' := [((Q 0), .inr (12, [vR (Q 1), vR (Q 2), vR (Q 3), vR (Q 4), vR (Q 5), vI pn, vR (Q 6), vL f0, vL f1, vL f2, vL f3, vL x2_2, vL y2_3, vL d2_4, vI rg, vI wr, vR (Q 7), vI rn, vR (Q 8), vI wn])), ((Q 1), cL E 310 a), ((Q 2), cL E 310 a), ((Q 3), cL E 620 s3), ((Q 4), cZ E 2 s4), ((Q 5), cI E 80 tx), ((Q 6), cI E 24 cosT), ((Q 7), cI E 16 rr), ((Q 8), cI E 120 ww)]) [6, 7, 8, 0, 1, 2, 3, 4, 5] rfl rfl rfl ?_
    refine g_iload_n C 2 rfl dX11_forecast_29 rfl ?_
    refine g_top (v' := vI (q_fore a m)) (congrArg (fun z_ : Int => vI z_) (show (q_fore a m) = (utR (Int.toNat m) 0 a) by unfold q_fore; (repeat' split) <;> first | rfl | omega | contradiction)) ?_
    exact g_iret C hr rfl (Nat.le_of_ble_eq_true rfl) (Nat.le_of_ble_eq_true rfl) dX11_forecast_30 ⟨x2_2, y2_3, d2_4, a, rfl, rfl⟩
  refine g_bipush C (by decide) dX11_forecast_12 rfl ?_
  refine g_top (v' := vI (q_fore a m)) (congrArg (fun z_ : Int => vI z_) (show (q_fore a m) = (-2) by unfold q_fore; (repeat' split) <;> first | rfl | omega | contradiction)) ?_
  exact g_iret C hr rfl (Nat.le_of_ble_eq_true rfl) (Nat.le_of_ble_eq_true rfl) dX11_forecast_14 ⟨px, py, pb, s2, rfl, rfl⟩

theorem w_X11_say_k274 : Cond.constantLong RX11 274 (33) ∈ wsX11_say := by decide +kernel
theorem w_X11_say_k276 : Cond.constantLong RX11 276 (126) ∈ wsX11_say := by decide +kernel
theorem in_X11_say_X11 : ∀ w ∈ u_ws RX11 TX11 20, w ∈ wsX11_say := by decide +kernel
theorem fd_X11_say_278 : fdk wsX11_say RX11 278 "ZoneRelayModel" RX11 TX11 20 5 := ⟨in_X11_say_X11, by decide +kernel, by decide, rfl⟩
theorem fd_X11_say_23 : fdk wsX11_say RX11 23 "ZoneRelayModel" RX11 TX11 20 4 := ⟨in_X11_say_X11, by decide +kernel, by decide, rfl⟩
abbrev rm_M_say : Room := { frames := 1, cells := 0, slots := 0, locals := 25 }
set_option maxHeartbeats 1000000 in
set_option maxRecDepth 100000 in
theorem M_say (l : Launch) (E : Ev) (Q : Nat → Nat) (pn f0 f1 f2 f3 px py pb rg wr rn wn : Int) (a s2 s3 s4 tx rr ww : Int → Int) (B c : Int) (hI : Inv a B) (hB : B ≤ 2900000) (b_c : bi c) (hpn : 0 ≤ pn ∧ pn ≤ 80) : Mc l yX11_say wsX11_say rm_M_say E [vR (Q 0), vI c] [((Q 0), .inr (12, [vR (Q 1), vR (Q 2), vR (Q 3), vR (Q 4), vR (Q 5), vI pn, vR (Q 6), vL f0, vL f1, vL f2, vL f3, vL px, vL py, vL pb, vI rg, vI wr, vR (Q 7), vI rn, vR (Q 8), vI wn])), ((Q 1), cL E 310 a), ((Q 2), cL E 310 s2), ((Q 3), cL E 620 s3), ((Q 4), cZ E 2 s4), ((Q 5), cI E 80 tx), ((Q 6), cI E 24 cosT), ((Q 7), cI E 16 rr), ((Q 8), cI E 120 ww)] 0 0 (fun v9 w9 => v9 = some (vI (q_say pn c)) ∧ w9 = [((Q 0), .inr (12, [vR (Q 1), vR (Q 2), vR (Q 3), vR (Q 4), vR (Q 5), vI (n_sayN pn c), vR (Q 6), vL f0, vL f1, vL f2, vL f3, vL px, vL py, vL pb, vI rg, vI wr, vR (Q 7), vI rn, vR (Q 8), vI wn])), ((Q 1), cL E 310 a), ((Q 2), cL E 310 s2), ((Q 3), cL E 620 s3), ((Q 4), cZ E 2 s4), ((Q 5), cI E 80 (n_sayT tx pn c)), ((Q 6), cI E 24 cosT), ((Q 7), cI E 16 rr), ((Q 8), cI E 120 ww)]) := by
  refine Mc.intro (cc := cX11_say) (maxL := 2) (ret := (some .int)) (lv0 := [(0, vR (Q 0)), (1, vI c)]) (by decide +kernel) rfl rfl (Nat.le_of_ble_eq_true rfl) ?_
  intro p9 e9 s9 m9 args9 below9 meth9 c9 A9 C hr hmn
  have C : Cx p9 s9 m9 args9 meth9 c9 E A9 2 cX11_say wsX11_say RX11 := C
  have hI0 := hI
  obtain ⟨iP, i4, iR, iE, iN, ⟨i21, i22, i23, i24, i25, i26, i27, i28⟩, iD, iW, i35, iS, iM, i90, i91, i94, i95, i96, i97, iT, iK, i104, iPn, iPc⟩ := hI
  refine g_iload_n C 1 rfl dX11_say_0 rfl ?_
  refine g_i2l C (b_c) rfl dX11_say_1 rfl ?_
  refine g_ldc2 C (x := 33) w_X11_say_k274 (by decide) dX11_say_2 rfl ?_
  refine g_ldc2 C (x := 126) w_X11_say_k276 (by decide) dX11_say_5 rfl ?_
  refine g_callS C (As := [vL c, vL 33, vL 126]) (wc := []) (wr := [((Q 0), .inr (12, [vR (Q 1), vR (Q 2), vR (Q 3), vR (Q 4), vR (Q 5), vI pn, vR (Q 6), vL f0, vL f1, vL f2, vL f3, vL px, vL py, vL pb, vI rg, vI wr, vR (Q 7), vI rn, vR (Q 8), vI wn])), ((Q 1), cL E 310 a), ((Q 2), cL E 310 s2), ((Q 3), cL E 620 s3), ((Q 4), cZ E 2 s4), ((Q 5), cI E 80 tx), ((Q 6), cI E 24 cosT), ((Q 7), cI E 16 rr), ((Q 8), cI E 120 ww)]) (st := []) gX11_say_X11_in rfl (K_m_in l E c 33 126 ⟨by omega, by omega⟩ ⟨by omega, by omega⟩ ⟨by omega, by omega⟩) hyd_X11_in rfl [] [0, 1, 2, 3, 4, 5, 6, 7, 8] rfl rfl rfl rfl rfl (by decide) ⟨rfl, rfl⟩ ⟨Nat.le_of_ble_eq_true rfl, Nat.le_of_ble_eq_true rfl, Nat.le_of_ble_eq_true rfl, Nat.le_of_ble_eq_true rfl⟩ (Nat.le_of_ble_eq_true rfl) dX11_say_8 (rfl : _ = 0) (rfl : _ = 0) rfl ?_
  rintro _ _ ⟨rfl, rfl⟩
  refine g_is (ws' := [((Q 0), .inr (12, [vR (Q 1), vR (Q 2), vR (Q 3), vR (Q 4), vR (Q 5), vI pn, vR (Q 6), vL f0, vL f1, vL f2, vL f3, vL px, vL py, vL pb, vI rg, vI wr, vR (Q 7), vI rn, vR (Q 8), vI wn])), ((Q 1), cL E 310 a), ((Q 2), cL E 310 s2), ((Q 3), cL E 620 s3), ((Q 4), cZ E 2 s4), ((Q 5), cI E 80 tx), ((Q 6), cI E 24 cosT), ((Q 7), cI E 16 rr), ((Q 8), cI E 120 ww)]) (st' := [vI (bP (33 ≤ c ∧ c ≤ 126))]) rfl rfl ?_
  refine g_ifb_ne C (tgt := 17) dX11_say_11 (by decide) rfl (fun c_1 => ?_) (fun c_1 => ?_)
  · refine g_aload_n C 0 rfl dX11_say_17 rfl ?_
    refine g_get C 0 fd_X11_say_278 rfl rfl rfl dX11_say_18 rfl ?_
    refine g_bipush C (by decide) dX11_say_21 rfl ?_
    refine g_icmp_ne C (tgt := 29) ⟨by omega, by omega⟩ ⟨by decide, by decide⟩ dX11_say_23 (by decide) rfl (fun c_2 => ?_) (fun c_2 => ?_)
    · refine g_aload_n C 0 rfl dX11_say_29 rfl ?_
      refine g_get C 0 fd_X11_say_23 rfl rfl rfl dX11_say_30 rfl ?_
      refine g_aload_n C 0 rfl dX11_say_33 rfl ?_
      refine g_get C 0 fd_X11_say_278 rfl rfl rfl dX11_say_34 rfl ?_
      refine g_iload_n C 1 rfl dX11_say_37 rfl ?_
      refine g_iast C 5 rfl (by omega) (by omega) (by decide) (ws' := [((Q 0), .inr (12, [vR (Q 1), vR (Q 2), vR (Q 3), vR (Q 4), vR (Q 5), vI pn, vR (Q 6), vL f0, vL f1, vL f2, vL f3, vL px, vL py, vL pb, vI rg, vI wr, vR (Q 7), vI rn, vR (Q 8), vI wn])), ((Q 1), cL E 310 a), ((Q 2), cL E 310 s2), ((Q 3), cL E 620 s3), ((Q 4), cZ E 2 s4), ((Q 5), cI E 80 (ua tx pn c)), ((Q 6), cI E 24 cosT), ((Q 7), cI E 16 rr), ((Q 8), cI E 120 ww)]) rfl dX11_say_38 rfl ?_
      refine g_aload_n C 0 rfl dX11_say_39 rfl ?_
      refine g_dup C rfl dX11_say_40 rfl ?_
      refine g_get C 0 fd_X11_say_278 rfl rfl rfl dX11_say_41 rfl ?_
      refine g_iconst C dX11_say_44 rfl ?_
      refine g_iadd C rfl dX11_say_45 rfl ?_
      refine g_put C tyX11 tyX11_ok nmX11 0 fd_X11_say_278 rfl rfl rfl rfl rfl rfl (Nat.le_of_ble_eq_true rfl) (ws' := [((Q 0), .inr (12, [vR (Q 1), vR (Q 2), vR (Q 3), vR (Q 4), vR (Q 5), vI (pn + 1), vR (Q 6), vL f0, vL f1, vL f2, vL f3, vL px, vL py, vL pb, vI rg, vI wr, vR (Q 7), vI rn, vR (Q 8), vI wn])), ((Q 1), cL E 310 a), ((Q 2), cL E 310 s2), ((Q 3), cL E 620 s3), ((Q 4), cZ E 2 s4), ((Q 5), cI E 80 (ua tx pn c)), ((Q 6), cI E 24 cosT), ((Q 7), cI E 16 rr), ((Q 8), cI E 120 ww)]) rfl dX11_say_46 rfl ?_
      refine g_aload_n C 0 rfl dX11_say_49 rfl ?_
      refine g_get C 0 fd_X11_say_278 rfl rfl rfl dX11_say_50 rfl ?_
      refine g_top (v' := vI (q_say pn c)) (congrArg (fun z_ : Int => vI z_) (show (q_say pn c) = (pn + 1) by unfold q_say; (repeat' split) <;> first | rfl | omega | contradiction)) ?_
      have z_3 : (n_sayN pn c) = (pn + 1) := by unfold n_sayN; (repeat' split) <;> first | rfl | omega | contradiction
      have z_4 : cI E 80 (n_sayT tx pn c) = cI E 80 (ua tx pn c) := cI_c (fun k_ k0_ k1_ => by unfold n_sayT; (repeat' split) <;> first | rfl | omega | contradiction)
      have zz_5 := congr (congrArg (fun (y9_0 : Int) (y9_1 : va_E) => ([((Q 0), .inr (12, [vR (Q 1), vR (Q 2), vR (Q 3), vR (Q 4), vR (Q 5), vI y9_0, vR (Q 6), vL f0, vL f1, vL f2, vL f3, vL px, vL py, vL pb, vI rg, vI wr, vR (Q 7), vI rn, vR (Q 8), vI wn])), ((Q 1), cL E 310 a), ((Q 2), cL E 310 s2), ((Q 3), cL E 620 s3), ((Q 4), cZ E 2 s4), ((Q 5), y9_1), ((Q 6), cI E 24 cosT), ((Q 7), cI E 16 rr), ((Q 8), cI E 120 ww)] : va_W)) z_3) z_4
      refine g_ws (ws' := [((Q 0), .inr (12, [vR (Q 1), vR (Q 2), vR (Q 3), vR (Q 4), vR (Q 5), vI (n_sayN pn c), vR (Q 6), vL f0, vL f1, vL f2, vL f3, vL px, vL py, vL pb, vI rg, vI wr, vR (Q 7), vI rn, vR (Q 8), vI wn])), ((Q 1), cL E 310 a), ((Q 2), cL E 310 s2), ((Q 3), cL E 620 s3), ((Q 4), cZ E 2 s4), ((Q 5), cI E 80 (n_sayT tx pn c)), ((Q 6), cI E 24 cosT), ((Q 7), cI E 16 rr), ((Q 8), cI E 120 ww)]) zz_5 ?_
      exact g_iret C hr rfl (Nat.le_of_ble_eq_true rfl) (Nat.le_of_ble_eq_true rfl) dX11_say_53 ⟨rfl, rfl⟩
    refine g_bipush C (by decide) dX11_say_26 rfl ?_
    refine g_top (v' := vI (q_say pn c)) (congrArg (fun z_ : Int => vI z_) (show (q_say pn c) = (-4) by unfold q_say; (repeat' split) <;> first | rfl | omega | contradiction)) ?_
    have z_6 : (n_sayN pn c) = pn := by unfold n_sayN; (repeat' split) <;> first | rfl | omega | contradiction
    have z_7 : cI E 80 (n_sayT tx pn c) = cI E 80 tx := cI_c (fun k_ k0_ k1_ => by unfold n_sayT; (repeat' split) <;> first | rfl | omega | contradiction)
    have zz_8 := congr (congrArg (fun (y9_0 : Int) (y9_1 : va_E) => ([((Q 0), .inr (12, [vR (Q 1), vR (Q 2), vR (Q 3), vR (Q 4), vR (Q 5), vI y9_0, vR (Q 6), vL f0, vL f1, vL f2, vL f3, vL px, vL py, vL pb, vI rg, vI wr, vR (Q 7), vI rn, vR (Q 8), vI wn])), ((Q 1), cL E 310 a), ((Q 2), cL E 310 s2), ((Q 3), cL E 620 s3), ((Q 4), cZ E 2 s4), ((Q 5), y9_1), ((Q 6), cI E 24 cosT), ((Q 7), cI E 16 rr), ((Q 8), cI E 120 ww)] : va_W)) z_6) z_7
    refine g_ws (ws' := [((Q 0), .inr (12, [vR (Q 1), vR (Q 2), vR (Q 3), vR (Q 4), vR (Q 5), vI (n_sayN pn c), vR (Q 6), vL f0, vL f1, vL f2, vL f3, vL px, vL py, vL pb, vI rg, vI wr, vR (Q 7), vI rn, vR (Q 8), vI wn])), ((Q 1), cL E 310 a), ((Q 2), cL E 310 s2), ((Q 3), cL E 620 s3), ((Q 4), cZ E 2 s4), ((Q 5), cI E 80 (n_sayT tx pn c)), ((Q 6), cI E 24 cosT), ((Q 7), cI E 16 rr), ((Q 8), cI E 120 ww)]) zz_8 ?_
    exact g_iret C hr rfl (Nat.le_of_ble_eq_true rfl) (Nat.le_of_ble_eq_true rfl) dX11_say_28 ⟨rfl, rfl⟩
  refine g_bipush C (by decide) dX11_say_14 rfl ?_
  refine g_top (v' := vI (q_say pn c)) (congrArg (fun z_ : Int => vI z_) (show (q_say pn c) = (-2) by unfold q_say; (repeat' split) <;> first | rfl | omega | contradiction)) ?_
  have z_9 : (n_sayN pn c) = pn := by unfold n_sayN; (repeat' split) <;> first | rfl | omega | contradiction
  have z_10 : cI E 80 (n_sayT tx pn c) = cI E 80 tx := cI_c (fun k_ k0_ k1_ => by unfold n_sayT; (repeat' split) <;> first | rfl | omega | contradiction)
  have zz_11 := congr (congrArg (fun (y9_0 : Int) (y9_1 : va_E) => ([((Q 0), .inr (12, [vR (Q 1), vR (Q 2), vR (Q 3), vR (Q 4), vR (Q 5), vI y9_0, vR (Q 6), vL f0, vL f1, vL f2, vL f3, vL px, vL py, vL pb, vI rg, vI wr, vR (Q 7), vI rn, vR (Q 8), vI wn])), ((Q 1), cL E 310 a), ((Q 2), cL E 310 s2), ((Q 3), cL E 620 s3), ((Q 4), cZ E 2 s4), ((Q 5), y9_1), ((Q 6), cI E 24 cosT), ((Q 7), cI E 16 rr), ((Q 8), cI E 120 ww)] : va_W)) z_9) z_10
  refine g_ws (ws' := [((Q 0), .inr (12, [vR (Q 1), vR (Q 2), vR (Q 3), vR (Q 4), vR (Q 5), vI (n_sayN pn c), vR (Q 6), vL f0, vL f1, vL f2, vL f3, vL px, vL py, vL pb, vI rg, vI wr, vR (Q 7), vI rn, vR (Q 8), vI wn])), ((Q 1), cL E 310 a), ((Q 2), cL E 310 s2), ((Q 3), cL E 620 s3), ((Q 4), cZ E 2 s4), ((Q 5), cI E 80 (n_sayT tx pn c)), ((Q 6), cI E 24 cosT), ((Q 7), cI E 16 rr), ((Q 8), cI E 120 ww)]) zz_11 ?_
  exact g_iret C hr rfl (Nat.le_of_ble_eq_true rfl) (Nat.le_of_ble_eq_true rfl) dX11_say_16 ⟨rfl, rfl⟩

abbrev rm_M_wipe : Room := { frames := 0, cells := 0, slots := 0, locals := 0 }
set_option maxHeartbeats 1000000 in
set_option maxRecDepth 100000 in
theorem M_wipe (l : Launch) (E : Ev) (Q : Nat → Nat) (pn f0 f1 f2 f3 px py pb rg wr rn wn : Int) (a s2 s3 s4 tx rr ww : Int → Int) (B : Int) (hI : Inv a B) (hB : B ≤ 2900000) : Mc l yX11_wipe wsX11_wipe rm_M_wipe E [vR (Q 0)] [((Q 0), .inr (12, [vR (Q 1), vR (Q 2), vR (Q 3), vR (Q 4), vR (Q 5), vI pn, vR (Q 6), vL f0, vL f1, vL f2, vL f3, vL px, vL py, vL pb, vI rg, vI wr, vR (Q 7), vI rn, vR (Q 8), vI wn])), ((Q 1), cL E 310 a), ((Q 2), cL E 310 s2), ((Q 3), cL E 620 s3), ((Q 4), cZ E 2 s4), ((Q 5), cI E 80 tx), ((Q 6), cI E 24 cosT), ((Q 7), cI E 16 rr), ((Q 8), cI E 120 ww)] 0 0 (fun v9 w9 => v9 = some (vI pn) ∧ w9 = [((Q 0), .inr (12, [vR (Q 1), vR (Q 2), vR (Q 3), vR (Q 4), vR (Q 5), vI 0, vR (Q 6), vL f0, vL f1, vL f2, vL f3, vL px, vL py, vL pb, vI rg, vI wr, vR (Q 7), vI rn, vR (Q 8), vI wn])), ((Q 1), cL E 310 a), ((Q 2), cL E 310 s2), ((Q 3), cL E 620 s3), ((Q 4), cZ E 2 s4), ((Q 5), cI E 80 tx), ((Q 6), cI E 24 cosT), ((Q 7), cI E 16 rr), ((Q 8), cI E 120 ww)]) := by
  refine Mc.intro (cc := cX11_wipe) (maxL := 2) (ret := (some .int)) (lv0 := [(0, vR (Q 0))]) (by decide +kernel) rfl rfl (Nat.le_of_ble_eq_true rfl) ?_
  intro p9 e9 s9 m9 args9 below9 meth9 c9 A9 C hr hmn
  have C : Cx p9 s9 m9 args9 meth9 c9 E A9 2 cX11_wipe wsX11_wipe RX11 := C
  have hI0 := hI
  obtain ⟨iP, i4, iR, iE, iN, ⟨i21, i22, i23, i24, i25, i26, i27, i28⟩, iD, iW, i35, iS, iM, i90, i91, i94, i95, i96, i97, iT, iK, i104, iPn, iPc⟩ := hI
  refine g_aload_n C 0 rfl dX11_wipe_0 rfl ?_
  refine g_get C 0 fd_X11_wipe_278 rfl rfl rfl dX11_wipe_1 rfl ?_
  refine g_istore_n C (lv' := [(0, vR (Q 0)), (1, vI pn)]) [1, 0] (by decide) rfl rfl dX11_wipe_4 rfl ?_
  refine g_aload_n C 0 rfl dX11_wipe_5 rfl ?_
  refine g_iconst C dX11_wipe_6 rfl ?_
  refine g_put C tyX11 tyX11_ok nmX11 0 fd_X11_wipe_278 rfl rfl rfl rfl rfl rfl (Nat.le_of_ble_eq_true rfl) (ws' := [((Q 0), .inr (12, [vR (Q 1), vR (Q 2), vR (Q 3), vR (Q 4), vR (Q 5), vI 0, vR (Q 6), vL f0, vL f1, vL f2, vL f3, vL px, vL py, vL pb, vI rg, vI wr, vR (Q 7), vI rn, vR (Q 8), vI wn])), ((Q 1), cL E 310 a), ((Q 2), cL E 310 s2), ((Q 3), cL E 620 s3), ((Q 4), cZ E 2 s4), ((Q 5), cI E 80 tx), ((Q 6), cI E 24 cosT), ((Q 7), cI E 16 rr), ((Q 8), cI E 120 ww)]) rfl dX11_wipe_7 rfl ?_
  refine g_iload_n C 1 rfl dX11_wipe_10 rfl ?_
  exact g_iret C hr rfl (Nat.le_of_ble_eq_true rfl) (Nat.le_of_ble_eq_true rfl) dX11_wipe_11 ⟨rfl, rfl⟩

theorem w_X11_count_k321 : Cond.constantLong RX11 321 (17) ∈ wsX11_count := by decide +kernel
theorem in_X11_count_X11 : ∀ w ∈ u_ws RX11 TX11 20, w ∈ wsX11_count := by decide +kernel
theorem fd_X11_count_7 : fdk wsX11_count RX11 7 "ZoneRelayModel" RX11 TX11 20 0 := ⟨in_X11_count_X11, by decide +kernel, by decide, rfl⟩
theorem fd_X11_count_278 : fdk wsX11_count RX11 278 "ZoneRelayModel" RX11 TX11 20 5 := ⟨in_X11_count_X11, by decide +kernel, by decide, rfl⟩
abbrev rm_M_count : Room := { frames := 1, cells := 0, slots := 0, locals := 25 }
set_option maxHeartbeats 1000000 in
set_option maxRecDepth 100000 in
theorem M_count (l : Launch) (E : Ev) (Q : Nat → Nat) (pn f0 f1 f2 f3 px py pb rg wr rn wn : Int) (a s2 s3 s4 tx rr ww : Int → Int) (B w : Int) (hI : Inv a B) (hB : B ≤ 2900000) (b_w : bi w) : Mc l yX11_count wsX11_count rm_M_count E [vR (Q 0), vI w] [((Q 0), .inr (12, [vR (Q 1), vR (Q 2), vR (Q 3), vR (Q 4), vR (Q 5), vI pn, vR (Q 6), vL f0, vL f1, vL f2, vL f3, vL px, vL py, vL pb, vI rg, vI wr, vR (Q 7), vI rn, vR (Q 8), vI wn])), ((Q 1), cL E 310 a), ((Q 2), cL E 310 s2), ((Q 3), cL E 620 s3), ((Q 4), cZ E 2 s4), ((Q 5), cI E 80 tx), ((Q 6), cI E 24 cosT), ((Q 7), cI E 16 rr), ((Q 8), cI E 120 ww)] 0 0 (fun v9 w9 => v9 = some (vI (q_count a pn w)) ∧ w9 = [((Q 0), .inr (12, [vR (Q 1), vR (Q 2), vR (Q 3), vR (Q 4), vR (Q 5), vI pn, vR (Q 6), vL f0, vL f1, vL f2, vL f3, vL px, vL py, vL pb, vI rg, vI wr, vR (Q 7), vI rn, vR (Q 8), vI wn])), ((Q 1), cL E 310 a), ((Q 2), cL E 310 s2), ((Q 3), cL E 620 s3), ((Q 4), cZ E 2 s4), ((Q 5), cI E 80 tx), ((Q 6), cI E 24 cosT), ((Q 7), cI E 16 rr), ((Q 8), cI E 120 ww)]) := by
  refine Mc.intro (cc := cX11_count) (maxL := 2) (ret := (some .int)) (lv0 := [(0, vR (Q 0)), (1, vI w)]) (by decide +kernel) rfl rfl (Nat.le_of_ble_eq_true rfl) ?_
  intro p9 e9 s9 m9 args9 below9 meth9 c9 A9 C hr hmn
  have C : Cx p9 s9 m9 args9 meth9 c9 E A9 2 cX11_count wsX11_count RX11 := C
  have hI0 := hI
  obtain ⟨iP, i4, iR, iE, iN, ⟨i21, i22, i23, i24, i25, i26, i27, i28⟩, iD, iW, i35, iS, iM, i90, i91, i94, i95, i96, i97, iT, iK, i104, iPn, iPc⟩ := hI
  refine g_iload_n C 1 rfl dX11_count_0 rfl ?_
  refine g_i2l C (b_w) rfl dX11_count_1 rfl ?_
  refine g_lconst0 C dX11_count_2 rfl ?_
  refine g_ldc2 C (x := 17) w_X11_count_k321 (by decide) dX11_count_3 rfl ?_
  refine g_callS C (As := [vL w, vL 0, vL 17]) (wc := []) (wr := [((Q 0), .inr (12, [vR (Q 1), vR (Q 2), vR (Q 3), vR (Q 4), vR (Q 5), vI pn, vR (Q 6), vL f0, vL f1, vL f2, vL f3, vL px, vL py, vL pb, vI rg, vI wr, vR (Q 7), vI rn, vR (Q 8), vI wn])), ((Q 1), cL E 310 a), ((Q 2), cL E 310 s2), ((Q 3), cL E 620 s3), ((Q 4), cZ E 2 s4), ((Q 5), cI E 80 tx), ((Q 6), cI E 24 cosT), ((Q 7), cI E 16 rr), ((Q 8), cI E 120 ww)]) (st := []) gX11_count_X11_in rfl (K_m_in l E w 0 17 ⟨by omega, by omega⟩ ⟨by omega, by omega⟩ ⟨by omega, by omega⟩) hyd_X11_in rfl [] [0, 1, 2, 3, 4, 5, 6, 7, 8] rfl rfl rfl rfl rfl (by decide) ⟨rfl, rfl⟩ ⟨Nat.le_of_ble_eq_true rfl, Nat.le_of_ble_eq_true rfl, Nat.le_of_ble_eq_true rfl, Nat.le_of_ble_eq_true rfl⟩ (Nat.le_of_ble_eq_true rfl) dX11_count_6 (rfl : _ = 0) (rfl : _ = 0) rfl ?_
  rintro _ _ ⟨rfl, rfl⟩
  refine g_is (ws' := [((Q 0), .inr (12, [vR (Q 1), vR (Q 2), vR (Q 3), vR (Q 4), vR (Q 5), vI pn, vR (Q 6), vL f0, vL f1, vL f2, vL f3, vL px, vL py, vL pb, vI rg, vI wr, vR (Q 7), vI rn, vR (Q 8), vI wn])), ((Q 1), cL E 310 a), ((Q 2), cL E 310 s2), ((Q 3), cL E 620 s3), ((Q 4), cZ E 2 s4), ((Q 5), cI E 80 tx), ((Q 6), cI E 24 cosT), ((Q 7), cI E 16 rr), ((Q 8), cI E 120 ww)]) (st' := [vI (bP (0 ≤ w ∧ w ≤ 17))]) rfl rfl ?_
  refine g_ifb_ne C (tgt := 15) dX11_count_9 (by decide) rfl (fun c_1 => ?_) (fun c_1 => ?_)
  · refine g_iload_n C 1 rfl dX11_count_15 rfl ?_
    by_cases c_2 : 0 ≤ w ∧ w ≤ 2
    · rcases (show w = 0 ∨ w = 1 ∨ w = 2 by omega) with c_2e | c_2e | c_2e
      · subst c_2e
        refine g_tsIn C (pc' := 44) ⟨by decide, by decide⟩ (by decide) (by decide) (by rfl) dX11_count_16 (by decide) ?_
        refine g_aload_n C 0 rfl dX11_count_44 rfl ?_
        refine g_get C 0 fd_X11_count_7 rfl rfl rfl dX11_count_45 rfl ?_
        refine g_bipush C (by decide) dX11_count_48 rfl ?_
        refine g_lald C 1 rfl (by decide) (by decide) (by decide) rfl dX11_count_50 rfl ?_
        refine g_l2i C rfl dX11_count_51 rfl ?_
        refine g_top (v' := vI (q_count a pn 0)) (congrArg (fun z_ : Int => vI z_) (show (q_count a pn 0) = (a 35) by unfold q_count; (repeat' split) <;> first | rfl | omega | contradiction | (congr 1; omega))) ?_
        exact g_iret C hr rfl (Nat.le_of_ble_eq_true rfl) (Nat.le_of_ble_eq_true rfl) dX11_count_52 ⟨rfl, rfl⟩
      · subst c_2e
        refine g_tsIn C (pc' := 53) ⟨by decide, by decide⟩ (by decide) (by decide) (by rfl) dX11_count_16 (by decide) ?_
        refine g_aload_n C 0 rfl dX11_count_53 rfl ?_
        refine g_get C 0 fd_X11_count_7 rfl rfl rfl dX11_count_54 rfl ?_
        refine g_bipush C (by decide) dX11_count_57 rfl ?_
        refine g_lald C 1 rfl (by decide) (by decide) (by decide) rfl dX11_count_59 rfl ?_
        refine g_l2i C rfl dX11_count_60 rfl ?_
        refine g_top (v' := vI (q_count a pn 1)) (congrArg (fun z_ : Int => vI z_) (show (q_count a pn 1) = (a 104) by unfold q_count; (repeat' split) <;> first | rfl | omega | contradiction | (congr 1; omega))) ?_
        exact g_iret C hr rfl (Nat.le_of_ble_eq_true rfl) (Nat.le_of_ble_eq_true rfl) dX11_count_61 ⟨rfl, rfl⟩
      · subst c_2e
        refine g_tsIn C (pc' := 62) ⟨by decide, by decide⟩ (by decide) (by decide) (by rfl) dX11_count_16 (by decide) ?_
        refine g_aload_n C 0 rfl dX11_count_62 rfl ?_
        refine g_get C 0 fd_X11_count_278 rfl rfl rfl dX11_count_63 rfl ?_
        refine g_top (v' := vI (q_count a pn 2)) (congrArg (fun z_ : Int => vI z_) (show (q_count a pn 2) = pn by unfold q_count; (repeat' split) <;> first | rfl | omega | contradiction | (congr 1; omega))) ?_
        exact g_iret C hr rfl (Nat.le_of_ble_eq_true rfl) (Nat.le_of_ble_eq_true rfl) dX11_count_66 ⟨rfl, rfl⟩
    refine g_tsOut C (pc' := 67) (b_w) (by omega) dX11_count_16 (by decide) ?_
    refine g_iload_n C 1 rfl dX11_count_67 rfl ?_
    refine g_bipush C (by decide) dX11_count_68 rfl ?_
    refine g_icmp_ge C (tgt := 87) (b_w) ⟨by decide, by decide⟩ dX11_count_70 (by decide) rfl (fun c_3 => ?_) (fun c_3 => ?_)
    · refine g_aload_n C 0 rfl dX11_count_87 rfl ?_
      refine g_get C 0 fd_X11_count_7 rfl rfl rfl dX11_count_88 rfl ?_
      refine g_bipush C (by decide) dX11_count_91 rfl ?_
      refine g_iload_n C 1 rfl dX11_count_93 rfl ?_
      refine g_iadd C rfl dX11_count_94 rfl ?_
      refine g_bipush C (by decide) dX11_count_95 rfl ?_
      refine g_isub C rfl dX11_count_97 rfl ?_
      refine g_lald C 1 rfl (by omega) (by omega) (by decide) rfl dX11_count_98 rfl ?_
      refine g_l2i C rfl dX11_count_99 rfl ?_
      refine g_top (v' := vI (q_count a pn w)) (congrArg (fun z_ : Int => vI z_) (show (q_count a pn w) = (a ((21 + w) - 10)) by unfold q_count; (repeat' split) <;> first | rfl | omega | contradiction | (congr 1; omega))) ?_
      exact g_iret C hr rfl (Nat.le_of_ble_eq_true rfl) (Nat.le_of_ble_eq_true rfl) dX11_count_100 ⟨rfl, rfl⟩
    refine g_aload_n C 0 rfl dX11_count_73 rfl ?_
    refine g_get C 0 fd_X11_count_7 rfl rfl rfl dX11_count_74 rfl ?_
    refine g_bipush C (by decide) dX11_count_77 rfl ?_
    refine g_iload_n C 1 rfl dX11_count_79 rfl ?_
    refine g_iadd C rfl dX11_count_80 rfl ?_
    refine g_iconst C dX11_count_81 rfl ?_
    refine g_isub C rfl dX11_count_82 rfl ?_
    refine g_lald C 1 rfl (by omega) (by omega) (by decide) rfl dX11_count_83 rfl ?_
    refine g_goto C (pc' := 99) dX11_count_84 (by decide) ?_
    refine g_l2i C rfl dX11_count_99 rfl ?_
    refine g_top (v' := vI (q_count a pn w)) (congrArg (fun z_ : Int => vI z_) (show (q_count a pn w) = (a ((14 + w) - 3)) by unfold q_count; (repeat' split) <;> first | rfl | omega | contradiction | (congr 1; omega))) ?_
    exact g_iret C hr rfl (Nat.le_of_ble_eq_true rfl) (Nat.le_of_ble_eq_true rfl) dX11_count_100 ⟨rfl, rfl⟩
  refine g_bipush C (by decide) dX11_count_12 rfl ?_
  refine g_top (v' := vI (q_count a pn w)) (congrArg (fun z_ : Int => vI z_) (show (q_count a pn w) = (-2) by unfold q_count; (repeat' split) <;> first | rfl | omega | contradiction | (congr 1; omega))) ?_
  exact g_iret C hr rfl (Nat.le_of_ble_eq_true rfl) (Nat.le_of_ble_eq_true rfl) dX11_count_14 ⟨rfl, rfl⟩

theorem in_X11_save_X11 : ∀ w ∈ u_ws RX11 TX11 20, w ∈ wsX11_save := by decide +kernel
theorem fd_X11_save_19 : fdk wsX11_save RX11 19 "ZoneRelayModel" RX11 TX11 20 3 := ⟨in_X11_save_X11, by decide +kernel, by decide, rfl⟩
theorem fd_X11_save_7 : fdk wsX11_save RX11 7 "ZoneRelayModel" RX11 TX11 20 0 := ⟨in_X11_save_X11, by decide +kernel, by decide, rfl⟩
theorem fd_X11_save_16 : fdk wsX11_save RX11 16 "ZoneRelayModel" RX11 TX11 20 2 := ⟨in_X11_save_X11, by decide +kernel, by decide, rfl⟩
abbrev rm_M_save : Room := { frames := 1, cells := 0, slots := 0, locals := 25 }
set_option maxHeartbeats 1000000 in
set_option maxRecDepth 100000 in
theorem M_save (l : Launch) (E : Ev) (Q : Nat → Nat) (pn f0 f1 f2 f3 px py pb rg wr rn wn : Int) (a s2 s3 s4 tx rr ww : Int → Int) (B s : Int) (hI : Inv a B) (hB : B ≤ 2900000) (b_s : bi s) : Mc l yX11_save wsX11_save rm_M_save E [vR (Q 0), vI s] [((Q 0), .inr (12, [vR (Q 1), vR (Q 2), vR (Q 3), vR (Q 4), vR (Q 5), vI pn, vR (Q 6), vL f0, vL f1, vL f2, vL f3, vL px, vL py, vL pb, vI rg, vI wr, vR (Q 7), vI rn, vR (Q 8), vI wn])), ((Q 1), cL E 310 a), ((Q 2), cL E 310 s2), ((Q 3), cL E 620 s3), ((Q 4), cZ E 2 s4), ((Q 5), cI E 80 tx), ((Q 6), cI E 24 cosT), ((Q 7), cI E 16 rr), ((Q 8), cI E 120 ww)] 0 0 (fun v9 w9 => v9 = some (vI (q_save a s)) ∧ w9 = [((Q 0), .inr (12, [vR (Q 1), vR (Q 2), vR (Q 3), vR (Q 4), vR (Q 5), vI pn, vR (Q 6), vL f0, vL f1, vL f2, vL f3, vL px, vL py, vL pb, vI rg, vI wr, vR (Q 7), vI rn, vR (Q 8), vI wn])), ((Q 1), cL E 310 a), ((Q 2), cL E 310 s2), ((Q 3), cL E 620 (n_saveS a s3 s)), ((Q 4), cZ E 2 (n_saveF s4 s)), ((Q 5), cI E 80 tx), ((Q 6), cI E 24 cosT), ((Q 7), cI E 16 rr), ((Q 8), cI E 120 ww)]) := by
  refine Mc.intro (cc := cX11_save) (maxL := 3) (ret := (some .int)) (lv0 := [(0, vR (Q 0)), (1, vI s)]) (by decide +kernel) rfl rfl (Nat.le_of_ble_eq_true rfl) ?_
  intro p9 e9 s9 m9 args9 below9 meth9 c9 A9 C hr hmn
  have C : Cx p9 s9 m9 args9 meth9 c9 E A9 3 cX11_save wsX11_save RX11 := C
  have hI0 := hI
  obtain ⟨iP, i4, iR, iE, iN, ⟨i21, i22, i23, i24, i25, i26, i27, i28⟩, iD, iW, i35, iS, iM, i90, i91, i94, i95, i96, i97, iT, iK, i104, iPn, iPc⟩ := hI
  refine g_iload_n C 1 rfl dX11_save_0 rfl ?_
  refine g_i2l C (b_s) rfl dX11_save_1 rfl ?_
  refine g_lconst0 C dX11_save_2 rfl ?_
  refine g_lconst1 C dX11_save_3 rfl ?_
  refine g_callS C (As := [vL s, vL 0, vL 1]) (wc := []) (wr := [((Q 0), .inr (12, [vR (Q 1), vR (Q 2), vR (Q 3), vR (Q 4), vR (Q 5), vI pn, vR (Q 6), vL f0, vL f1, vL f2, vL f3, vL px, vL py, vL pb, vI rg, vI wr, vR (Q 7), vI rn, vR (Q 8), vI wn])), ((Q 1), cL E 310 a), ((Q 2), cL E 310 s2), ((Q 3), cL E 620 s3), ((Q 4), cZ E 2 s4), ((Q 5), cI E 80 tx), ((Q 6), cI E 24 cosT), ((Q 7), cI E 16 rr), ((Q 8), cI E 120 ww)]) (st := []) gX11_save_X11_in rfl (K_m_in l E s 0 1 ⟨by omega, by omega⟩ ⟨by omega, by omega⟩ ⟨by omega, by omega⟩) hyd_X11_in rfl [] [0, 1, 2, 3, 4, 5, 6, 7, 8] rfl rfl rfl rfl rfl (by decide) ⟨rfl, rfl⟩ ⟨Nat.le_of_ble_eq_true rfl, Nat.le_of_ble_eq_true rfl, Nat.le_of_ble_eq_true rfl, Nat.le_of_ble_eq_true rfl⟩ (Nat.le_of_ble_eq_true rfl) dX11_save_4 (rfl : _ = 0) (rfl : _ = 0) rfl ?_
  rintro _ _ ⟨rfl, rfl⟩
  refine g_is (ws' := [((Q 0), .inr (12, [vR (Q 1), vR (Q 2), vR (Q 3), vR (Q 4), vR (Q 5), vI pn, vR (Q 6), vL f0, vL f1, vL f2, vL f3, vL px, vL py, vL pb, vI rg, vI wr, vR (Q 7), vI rn, vR (Q 8), vI wn])), ((Q 1), cL E 310 a), ((Q 2), cL E 310 s2), ((Q 3), cL E 620 s3), ((Q 4), cZ E 2 s4), ((Q 5), cI E 80 tx), ((Q 6), cI E 24 cosT), ((Q 7), cI E 16 rr), ((Q 8), cI E 120 ww)]) (st' := [vI (bP (0 ≤ s ∧ s ≤ 1))]) rfl rfl ?_
  refine g_ifb_ne C (tgt := 13) dX11_save_7 (by decide) rfl (fun c_1 => ?_) (fun c_1 => ?_)
  · refine g_iconst C dX11_save_13 rfl ?_
    refine g_istore_n C (lv' := [(0, vR (Q 0)), (1, vI s), (2, vI 0)]) [1, 2, 0] (by decide) rfl rfl dX11_save_14 rfl ?_
    have hL_15 : ∀ (fuel : Nat) (i : Int) (h0 : 0 ≤ i) (h1 : i ≤ 310) (hfu : (310 - i).toNat = fuel), G p9 l e9 rm_M_save s9 m9 args9 below9 meth9 c9 (RQ E (fun v9 w9 => v9 = some (vI (q_save a s)) ∧ w9 = [((Q 0), .inr (12, [vR (Q 1), vR (Q 2), vR (Q 3), vR (Q 4), vR (Q 5), vI pn, vR (Q 6), vL f0, vL f1, vL f2, vL f3, vL px, vL py, vL pb, vI rg, vI wr, vR (Q 7), vI rn, vR (Q 8), vI wn])), ((Q 1), cL E 310 a), ((Q 2), cL E 310 s2), ((Q 3), cL E 620 (n_saveS a s3 s)), ((Q 4), cZ E 2 (n_saveF s4 s)), ((Q 5), cI E 80 tx), ((Q 6), cI E 24 cosT), ((Q 7), cI E 16 rr), ((Q 8), cI E 120 ww)]) A9 below9 args9 s9 0 0) E A9 3 0 0 [((Q 0), .inr (12, [vR (Q 1), vR (Q 2), vR (Q 3), vR (Q 4), vR (Q 5), vI pn, vR (Q 6), vL f0, vL f1, vL f2, vL f3, vL px, vL py, vL pb, vI rg, vI wr, vR (Q 7), vI rn, vR (Q 8), vI wn])), ((Q 1), cL E 310 a), ((Q 2), cL E 310 s2), ((Q 3), cL E 620 (cpyT a s3 0 (310 * s) i)), ((Q 4), cZ E 2 s4), ((Q 5), cI E 80 tx), ((Q 6), cI E 24 cosT), ((Q 7), cI E 16 rr), ((Q 8), cI E 120 ww)] [(0, vR (Q 0)), (1, vI s), (2, vI i)] 15 [] := by
      intro fuel
      induction fuel using Nat.strongRecOn with
      | ind fuel ih =>
        intro i h0 h1 hfu
        refine g_iload_n C 2 rfl dX11_save_15 rfl ?_
        refine g_sipush C (by decide) dX11_save_16 rfl ?_
        refine g_icmp_ge C (tgt := 46) ⟨by omega, by omega⟩ ⟨by decide, by decide⟩ dX11_save_19 (by decide) rfl (fun c_2 => ?_) (fun c_2 => ?_)
        · have ei : i = 310 := by omega
          subst ei
          refine g_aload_n C 0 rfl dX11_save_46 rfl ?_
          refine g_get C 0 fd_X11_save_19 rfl rfl rfl dX11_save_47 rfl ?_
          refine g_iload_n C 1 rfl dX11_save_50 rfl ?_
          refine g_iconst C dX11_save_51 rfl ?_
          refine g_zast C 4 rfl (by omega) (by omega) (by decide) (by decide) (ws' := [((Q 0), .inr (12, [vR (Q 1), vR (Q 2), vR (Q 3), vR (Q 4), vR (Q 5), vI pn, vR (Q 6), vL f0, vL f1, vL f2, vL f3, vL px, vL py, vL pb, vI rg, vI wr, vR (Q 7), vI rn, vR (Q 8), vI wn])), ((Q 1), cL E 310 a), ((Q 2), cL E 310 s2), ((Q 3), cL E 620 (cpyT a s3 0 (310 * s) 310)), ((Q 4), cZ E 2 (ua s4 s 1)), ((Q 5), cI E 80 tx), ((Q 6), cI E 24 cosT), ((Q 7), cI E 16 rr), ((Q 8), cI E 120 ww)]) rfl dX11_save_52 rfl ?_
          refine g_aload_n C 0 rfl dX11_save_53 rfl ?_
          refine g_get C 0 fd_X11_save_7 rfl rfl rfl dX11_save_54 rfl ?_
          refine g_bipush C (by decide) dX11_save_57 rfl ?_
          refine g_lald C 1 rfl (by decide) (by decide) (by decide) rfl dX11_save_59 rfl ?_
          refine g_l2i C rfl dX11_save_60 rfl ?_
          refine g_top (v' := vI (q_save a s)) (congrArg (fun z_ : Int => vI z_) (show (q_save a s) = (a 35) by unfold q_save; (repeat' split) <;> first | rfl | omega | contradiction)) ?_
          have z_3 : cL E 620 (n_saveS a s3 s) = cL E 620 (cpyT a s3 0 (310 * s) 310) := cL_c (fun k_ k0_ k1_ => by unfold n_saveS; (repeat' split) <;> first | rfl | omega | contradiction)
          have z_4 : cZ E 2 (n_saveF s4 s) = cZ E 2 (ua s4 s 1) := cZ_c (fun k_ k0_ k1_ => by unfold n_saveF; (repeat' split) <;> first | rfl | omega | contradiction)
          have zz_5 := congr (congrArg (fun (y9_0 : va_E) (y9_1 : va_E) => ([((Q 0), .inr (12, [vR (Q 1), vR (Q 2), vR (Q 3), vR (Q 4), vR (Q 5), vI pn, vR (Q 6), vL f0, vL f1, vL f2, vL f3, vL px, vL py, vL pb, vI rg, vI wr, vR (Q 7), vI rn, vR (Q 8), vI wn])), ((Q 1), cL E 310 a), ((Q 2), cL E 310 s2), ((Q 3), y9_0), ((Q 4), y9_1), ((Q 5), cI E 80 tx), ((Q 6), cI E 24 cosT), ((Q 7), cI E 16 rr), ((Q 8), cI E 120 ww)] : va_W)) z_3) z_4
          refine g_ws (ws' := [((Q 0), .inr (12, [vR (Q 1), vR (Q 2), vR (Q 3), vR (Q 4), vR (Q 5), vI pn, vR (Q 6), vL f0, vL f1, vL f2, vL f3, vL px, vL py, vL pb, vI rg, vI wr, vR (Q 7), vI rn, vR (Q 8), vI wn])), ((Q 1), cL E 310 a), ((Q 2), cL E 310 s2), ((Q 3), cL E 620 (n_saveS a s3 s)), ((Q 4), cZ E 2 (n_saveF s4 s)), ((Q 5), cI E 80 tx), ((Q 6), cI E 24 cosT), ((Q 7), cI E 16 rr), ((Q 8), cI E 120 ww)]) zz_5 ?_
          exact g_iret C hr rfl (Nat.le_of_ble_eq_true rfl) (Nat.le_of_ble_eq_true rfl) dX11_save_61 ⟨rfl, rfl⟩
        refine g_aload_n C 0 rfl dX11_save_22 rfl ?_
        refine g_get C 0 fd_X11_save_16 rfl rfl rfl dX11_save_23 rfl ?_
        refine g_sipush C (by decide) dX11_save_26 rfl ?_
        refine g_iload_n C 1 rfl dX11_save_29 rfl ?_
        refine g_imul C rfl dX11_save_30 rfl ?_
        refine g_iload_n C 2 rfl dX11_save_31 rfl ?_
        refine g_iadd C rfl dX11_save_32 rfl ?_
        refine g_aload_n C 0 rfl dX11_save_33 rfl ?_
        refine g_get C 0 fd_X11_save_7 rfl rfl rfl dX11_save_34 rfl ?_
        refine g_iload_n C 2 rfl dX11_save_37 rfl ?_
        refine g_lald C 1 rfl (by omega) (by omega) (by decide) rfl dX11_save_38 rfl ?_
        refine g_last C 3 rfl (by omega) (by omega) (by decide) (ws' := [((Q 0), .inr (12, [vR (Q 1), vR (Q 2), vR (Q 3), vR (Q 4), vR (Q 5), vI pn, vR (Q 6), vL f0, vL f1, vL f2, vL f3, vL px, vL py, vL pb, vI rg, vI wr, vR (Q 7), vI rn, vR (Q 8), vI wn])), ((Q 1), cL E 310 a), ((Q 2), cL E 310 s2), ((Q 3), cL E 620 (ua (cpyT a s3 0 (310 * s) i) ((310 * s) + i) (a i))), ((Q 4), cZ E 2 s4), ((Q 5), cI E 80 tx), ((Q 6), cI E 24 cosT), ((Q 7), cI E 16 rr), ((Q 8), cI E 120 ww)]) rfl dX11_save_39 rfl ?_
        refine g_iinc C (r := (i + 1)) (lv' := [(0, vR (Q 0)), (1, vI s), (2, vI (i + 1))]) 2 [1, 2, 0] rfl rfl (by decide) rfl rfl dX11_save_40 rfl ?_
        refine g_goto C (pc' := 15) dX11_save_43 (by decide) ?_
        refine g_ws (ws' := [((Q 0), .inr (12, [vR (Q 1), vR (Q 2), vR (Q 3), vR (Q 4), vR (Q 5), vI pn, vR (Q 6), vL f0, vL f1, vL f2, vL f3, vL px, vL py, vL pb, vI rg, vI wr, vR (Q 7), vI rn, vR (Q 8), vI wn])), ((Q 1), cL E 310 a), ((Q 2), cL E 310 s2), ((Q 3), cL E 620 (cpyT a s3 0 (310 * s) (i + 1))), ((Q 4), cZ E 2 s4), ((Q 5), cI E 80 tx), ((Q 6), cI E 24 cosT), ((Q 7), cI E 16 rr), ((Q 8), cI E 120 ww)]) (congrArg (fun z_ : Nat → Int64 => ([((Q 0), .inr (12, [vR (Q 1), vR (Q 2), vR (Q 3), vR (Q 4), vR (Q 5), vI pn, vR (Q 6), vL f0, vL f1, vL f2, vL f3, vL px, vL py, vL pb, vI rg, vI wr, vR (Q 7), vI rn, vR (Q 8), vI wn])), ((Q 1), cL E 310 a), ((Q 2), cL E 310 s2), ((Q 3), .inl (E.2.1 1, 620, .inr (.inl z_))), ((Q 4), cZ E 2 s4), ((Q 5), cI E 80 tx), ((Q 6), cI E 24 cosT), ((Q 7), cI E 16 rr), ((Q 8), cI E 120 ww)] : va_W)) (show AL 620 (cpyT a s3 0 (310 * s) (i + 1)) = AL 620 (ua (cpyT a s3 0 (310 * s) i) ((310 * s) + i) (a i)) from AL_c (fun k_ k0_ k1_ => by exact cpy_s0 h0))) ?_
        exact ih _ (by omega) (i + 1) (by omega) (by omega) rfl
    refine g_ws (ws' := [((Q 0), .inr (12, [vR (Q 1), vR (Q 2), vR (Q 3), vR (Q 4), vR (Q 5), vI pn, vR (Q 6), vL f0, vL f1, vL f2, vL f3, vL px, vL py, vL pb, vI rg, vI wr, vR (Q 7), vI rn, vR (Q 8), vI wn])), ((Q 1), cL E 310 a), ((Q 2), cL E 310 s2), ((Q 3), cL E 620 (cpyT a s3 0 (310 * s) 0)), ((Q 4), cZ E 2 s4), ((Q 5), cI E 80 tx), ((Q 6), cI E 24 cosT), ((Q 7), cI E 16 rr), ((Q 8), cI E 120 ww)]) (congrArg (fun z_ : Nat → Int64 => ([((Q 0), .inr (12, [vR (Q 1), vR (Q 2), vR (Q 3), vR (Q 4), vR (Q 5), vI pn, vR (Q 6), vL f0, vL f1, vL f2, vL f3, vL px, vL py, vL pb, vI rg, vI wr, vR (Q 7), vI rn, vR (Q 8), vI wn])), ((Q 1), cL E 310 a), ((Q 2), cL E 310 s2), ((Q 3), .inl (E.2.1 1, 620, .inr (.inl z_))), ((Q 4), cZ E 2 s4), ((Q 5), cI E 80 tx), ((Q 6), cI E 24 cosT), ((Q 7), cI E 16 rr), ((Q 8), cI E 120 ww)] : va_W)) (show AL 620 (cpyT a s3 0 (310 * s) 0) = AL 620 s3 from AL_c (fun k_ k0_ k1_ => by exact cpy_0))) ?_
    exact hL_15 _ 0 (by omega) (by omega) rfl
  refine g_bipush C (by decide) dX11_save_10 rfl ?_
  refine g_top (v' := vI (q_save a s)) (congrArg (fun z_ : Int => vI z_) (show (q_save a s) = (-2) by unfold q_save; (repeat' split) <;> first | rfl | omega | contradiction)) ?_
  have z_6 : cL E 620 (n_saveS a s3 s) = cL E 620 s3 := cL_c (fun k_ k0_ k1_ => by unfold n_saveS; (repeat' split) <;> first | rfl | omega | contradiction)
  have z_7 : cZ E 2 (n_saveF s4 s) = cZ E 2 s4 := cZ_c (fun k_ k0_ k1_ => by unfold n_saveF; (repeat' split) <;> first | rfl | omega | contradiction)
  have zz_8 := congr (congrArg (fun (y9_0 : va_E) (y9_1 : va_E) => ([((Q 0), .inr (12, [vR (Q 1), vR (Q 2), vR (Q 3), vR (Q 4), vR (Q 5), vI pn, vR (Q 6), vL f0, vL f1, vL f2, vL f3, vL px, vL py, vL pb, vI rg, vI wr, vR (Q 7), vI rn, vR (Q 8), vI wn])), ((Q 1), cL E 310 a), ((Q 2), cL E 310 s2), ((Q 3), y9_0), ((Q 4), y9_1), ((Q 5), cI E 80 tx), ((Q 6), cI E 24 cosT), ((Q 7), cI E 16 rr), ((Q 8), cI E 120 ww)] : va_W)) z_6) z_7
  refine g_ws (ws' := [((Q 0), .inr (12, [vR (Q 1), vR (Q 2), vR (Q 3), vR (Q 4), vR (Q 5), vI pn, vR (Q 6), vL f0, vL f1, vL f2, vL f3, vL px, vL py, vL pb, vI rg, vI wr, vR (Q 7), vI rn, vR (Q 8), vI wn])), ((Q 1), cL E 310 a), ((Q 2), cL E 310 s2), ((Q 3), cL E 620 (n_saveS a s3 s)), ((Q 4), cZ E 2 (n_saveF s4 s)), ((Q 5), cI E 80 tx), ((Q 6), cI E 24 cosT), ((Q 7), cI E 16 rr), ((Q 8), cI E 120 ww)]) zz_8 ?_
  exact g_iret C hr rfl (Nat.le_of_ble_eq_true rfl) (Nat.le_of_ble_eq_true rfl) dX11_save_12 ⟨rfl, rfl⟩

theorem in_X11_restore_X11 : ∀ w ∈ u_ws RX11 TX11 20, w ∈ wsX11_restore := by decide +kernel
theorem fd_X11_restore_19 : fdk wsX11_restore RX11 19 "ZoneRelayModel" RX11 TX11 20 3 := ⟨in_X11_restore_X11, by decide +kernel, by decide, rfl⟩
theorem fd_X11_restore_7 : fdk wsX11_restore RX11 7 "ZoneRelayModel" RX11 TX11 20 0 := ⟨in_X11_restore_X11, by decide +kernel, by decide, rfl⟩
theorem fd_X11_restore_16 : fdk wsX11_restore RX11 16 "ZoneRelayModel" RX11 TX11 20 2 := ⟨in_X11_restore_X11, by decide +kernel, by decide, rfl⟩
abbrev rm_M_rest : Room := { frames := 1, cells := 0, slots := 0, locals := 25 }
set_option maxHeartbeats 1000000 in
set_option maxRecDepth 100000 in
theorem M_rest (l : Launch) (E : Ev) (Q : Nat → Nat) (pn f0 f1 f2 f3 px py pb rg wr rn wn : Int) (a s2 s3 s4 tx rr ww : Int → Int) (B s : Int) (hI : Inv a B) (hB : B ≤ 2900000) (b_s : bi s) (hf : ∀ k : Int, 0 ≤ k → k ≤ 1 → s4 k = 0 ∨ s4 k = 1) : Mc l yX11_restore wsX11_restore rm_M_rest E [vR (Q 0), vI s] [((Q 0), .inr (12, [vR (Q 1), vR (Q 2), vR (Q 3), vR (Q 4), vR (Q 5), vI pn, vR (Q 6), vL f0, vL f1, vL f2, vL f3, vL px, vL py, vL pb, vI rg, vI wr, vR (Q 7), vI rn, vR (Q 8), vI wn])), ((Q 1), cL E 310 a), ((Q 2), cL E 310 s2), ((Q 3), cL E 620 s3), ((Q 4), cZ E 2 s4), ((Q 5), cI E 80 tx), ((Q 6), cI E 24 cosT), ((Q 7), cI E 16 rr), ((Q 8), cI E 120 ww)] 0 0 (fun v9 w9 => v9 = some (vI (q_rest s3 s4 s)) ∧ w9 = [((Q 0), .inr (12, [vR (Q 1), vR (Q 2), vR (Q 3), vR (Q 4), vR (Q 5), vI pn, vR (Q 6), vL f0, vL f1, vL f2, vL f3, vL px, vL py, vL pb, vI rg, vI wr, vR (Q 7), vI rn, vR (Q 8), vI wn])), ((Q 1), cL E 310 (n_rest a s3 s4 s)), ((Q 2), cL E 310 s2), ((Q 3), cL E 620 s3), ((Q 4), cZ E 2 s4), ((Q 5), cI E 80 tx), ((Q 6), cI E 24 cosT), ((Q 7), cI E 16 rr), ((Q 8), cI E 120 ww)]) := by
  refine Mc.intro (cc := cX11_restore) (maxL := 3) (ret := (some .int)) (lv0 := [(0, vR (Q 0)), (1, vI s)]) (by decide +kernel) rfl rfl (Nat.le_of_ble_eq_true rfl) ?_
  intro p9 e9 s9 m9 args9 below9 meth9 c9 A9 C hr hmn
  have C : Cx p9 s9 m9 args9 meth9 c9 E A9 3 cX11_restore wsX11_restore RX11 := C
  have hI0 := hI
  obtain ⟨iP, i4, iR, iE, iN, ⟨i21, i22, i23, i24, i25, i26, i27, i28⟩, iD, iW, i35, iS, iM, i90, i91, i94, i95, i96, i97, iT, iK, i104, iPn, iPc⟩ := hI
  refine g_iload_n C 1 rfl dX11_restore_0 rfl ?_
  refine g_i2l C (b_s) rfl dX11_restore_1 rfl ?_
  refine g_lconst0 C dX11_restore_2 rfl ?_
  refine g_lconst1 C dX11_restore_3 rfl ?_
  refine g_callS C (As := [vL s, vL 0, vL 1]) (wc := []) (wr := [((Q 0), .inr (12, [vR (Q 1), vR (Q 2), vR (Q 3), vR (Q 4), vR (Q 5), vI pn, vR (Q 6), vL f0, vL f1, vL f2, vL f3, vL px, vL py, vL pb, vI rg, vI wr, vR (Q 7), vI rn, vR (Q 8), vI wn])), ((Q 1), cL E 310 a), ((Q 2), cL E 310 s2), ((Q 3), cL E 620 s3), ((Q 4), cZ E 2 s4), ((Q 5), cI E 80 tx), ((Q 6), cI E 24 cosT), ((Q 7), cI E 16 rr), ((Q 8), cI E 120 ww)]) (st := []) gX11_restore_X11_in rfl (K_m_in l E s 0 1 ⟨by omega, by omega⟩ ⟨by omega, by omega⟩ ⟨by omega, by omega⟩) hyd_X11_in rfl [] [0, 1, 2, 3, 4, 5, 6, 7, 8] rfl rfl rfl rfl rfl (by decide) ⟨rfl, rfl⟩ ⟨Nat.le_of_ble_eq_true rfl, Nat.le_of_ble_eq_true rfl, Nat.le_of_ble_eq_true rfl, Nat.le_of_ble_eq_true rfl⟩ (Nat.le_of_ble_eq_true rfl) dX11_restore_4 (rfl : _ = 0) (rfl : _ = 0) rfl ?_
  rintro _ _ ⟨rfl, rfl⟩
  refine g_is (ws' := [((Q 0), .inr (12, [vR (Q 1), vR (Q 2), vR (Q 3), vR (Q 4), vR (Q 5), vI pn, vR (Q 6), vL f0, vL f1, vL f2, vL f3, vL px, vL py, vL pb, vI rg, vI wr, vR (Q 7), vI rn, vR (Q 8), vI wn])), ((Q 1), cL E 310 a), ((Q 2), cL E 310 s2), ((Q 3), cL E 620 s3), ((Q 4), cZ E 2 s4), ((Q 5), cI E 80 tx), ((Q 6), cI E 24 cosT), ((Q 7), cI E 16 rr), ((Q 8), cI E 120 ww)]) (st' := [vI (bP (0 ≤ s ∧ s ≤ 1))]) rfl rfl ?_
  refine g_ifb_ne C (tgt := 13) dX11_restore_7 (by decide) rfl (fun c_1 => ?_) (fun c_1 => ?_)
  · have f01 := hf s (by omega) (by omega)
    refine g_aload_n C 0 rfl dX11_restore_13 rfl ?_
    refine g_get C 0 fd_X11_restore_19 rfl rfl rfl dX11_restore_14 rfl ?_
    refine g_iload_n C 1 rfl dX11_restore_17 rfl ?_
    refine g_zald C 4 rfl (by omega) (by omega) (by decide) rfl dX11_restore_18 rfl ?_
    refine g_if_ne C (tgt := 25) ⟨by omega, by omega⟩ dX11_restore_19 (by decide) rfl (fun c_2 => ?_) (fun c_2 => ?_)
    · refine g_iconst C dX11_restore_25 rfl ?_
      refine g_istore_n C (lv' := [(0, vR (Q 0)), (1, vI s), (2, vI 0)]) [1, 2, 0] (by decide) rfl rfl dX11_restore_26 rfl ?_
      have hL_27 : ∀ (fuel : Nat) (i : Int) (h0 : 0 ≤ i) (h1 : i ≤ 310) (hfu : (310 - i).toNat = fuel), G p9 l e9 rm_M_rest s9 m9 args9 below9 meth9 c9 (RQ E (fun v9 w9 => v9 = some (vI (q_rest s3 s4 s)) ∧ w9 = [((Q 0), .inr (12, [vR (Q 1), vR (Q 2), vR (Q 3), vR (Q 4), vR (Q 5), vI pn, vR (Q 6), vL f0, vL f1, vL f2, vL f3, vL px, vL py, vL pb, vI rg, vI wr, vR (Q 7), vI rn, vR (Q 8), vI wn])), ((Q 1), cL E 310 (n_rest a s3 s4 s)), ((Q 2), cL E 310 s2), ((Q 3), cL E 620 s3), ((Q 4), cZ E 2 s4), ((Q 5), cI E 80 tx), ((Q 6), cI E 24 cosT), ((Q 7), cI E 16 rr), ((Q 8), cI E 120 ww)]) A9 below9 args9 s9 0 0) E A9 3 0 0 [((Q 0), .inr (12, [vR (Q 1), vR (Q 2), vR (Q 3), vR (Q 4), vR (Q 5), vI pn, vR (Q 6), vL f0, vL f1, vL f2, vL f3, vL px, vL py, vL pb, vI rg, vI wr, vR (Q 7), vI rn, vR (Q 8), vI wn])), ((Q 1), cL E 310 (cpyT s3 a (310 * s) 0 i)), ((Q 2), cL E 310 s2), ((Q 3), cL E 620 s3), ((Q 4), cZ E 2 s4), ((Q 5), cI E 80 tx), ((Q 6), cI E 24 cosT), ((Q 7), cI E 16 rr), ((Q 8), cI E 120 ww)] [(0, vR (Q 0)), (1, vI s), (2, vI i)] 27 [] := by
        intro fuel
        induction fuel using Nat.strongRecOn with
        | ind fuel ih =>
          intro i h0 h1 hfu
          refine g_iload_n C 2 rfl dX11_restore_27 rfl ?_
          refine g_sipush C (by decide) dX11_restore_28 rfl ?_
          refine g_icmp_ge C (tgt := 58) ⟨by omega, by omega⟩ ⟨by decide, by decide⟩ dX11_restore_31 (by decide) rfl (fun c_3 => ?_) (fun c_3 => ?_)
          · have ei : i = 310 := by omega
            subst ei
            refine g_aload_n C 0 rfl dX11_restore_58 rfl ?_
            refine g_get C 0 fd_X11_restore_7 rfl rfl rfl dX11_restore_59 rfl ?_
            refine g_bipush C (by decide) dX11_restore_62 rfl ?_
            refine g_lald C 1 rfl (by decide) (by decide) (by decide) rfl dX11_restore_64 rfl ?_
            refine g_l2i C rfl dX11_restore_65 rfl ?_
            refine g_top (v' := vI (q_rest s3 s4 s)) (congrArg (fun z_ : Int => vI z_) (show (q_rest s3 s4 s) = ((cpyT s3 a (310 * s) 0 310) 35) by unfold q_rest; (repeat' split) <;> first | rfl | omega | contradiction | (exact cpy_35))) ?_
            refine g_ws (ws' := [((Q 0), .inr (12, [vR (Q 1), vR (Q 2), vR (Q 3), vR (Q 4), vR (Q 5), vI pn, vR (Q 6), vL f0, vL f1, vL f2, vL f3, vL px, vL py, vL pb, vI rg, vI wr, vR (Q 7), vI rn, vR (Q 8), vI wn])), ((Q 1), cL E 310 (n_rest a s3 s4 s)), ((Q 2), cL E 310 s2), ((Q 3), cL E 620 s3), ((Q 4), cZ E 2 s4), ((Q 5), cI E 80 tx), ((Q 6), cI E 24 cosT), ((Q 7), cI E 16 rr), ((Q 8), cI E 120 ww)]) (congrArg (fun z_ : Nat → Int64 => ([((Q 0), .inr (12, [vR (Q 1), vR (Q 2), vR (Q 3), vR (Q 4), vR (Q 5), vI pn, vR (Q 6), vL f0, vL f1, vL f2, vL f3, vL px, vL py, vL pb, vI rg, vI wr, vR (Q 7), vI rn, vR (Q 8), vI wn])), ((Q 1), .inl (E.2.1 1, 310, .inr (.inl z_))), ((Q 2), cL E 310 s2), ((Q 3), cL E 620 s3), ((Q 4), cZ E 2 s4), ((Q 5), cI E 80 tx), ((Q 6), cI E 24 cosT), ((Q 7), cI E 16 rr), ((Q 8), cI E 120 ww)] : va_W)) (show AL 310 (n_rest a s3 s4 s) = AL 310 (cpyT s3 a (310 * s) 0 310) from AL_c (fun k_ k0_ k1_ => by unfold n_rest; (repeat' split) <;> first | rfl | omega | contradiction))) ?_
            exact g_iret C hr rfl (Nat.le_of_ble_eq_true rfl) (Nat.le_of_ble_eq_true rfl) dX11_restore_66 ⟨rfl, rfl⟩
          refine g_aload_n C 0 rfl dX11_restore_34 rfl ?_
          refine g_get C 0 fd_X11_restore_7 rfl rfl rfl dX11_restore_35 rfl ?_
          refine g_iload_n C 2 rfl dX11_restore_38 rfl ?_
          refine g_aload_n C 0 rfl dX11_restore_39 rfl ?_
          refine g_get C 0 fd_X11_restore_16 rfl rfl rfl dX11_restore_40 rfl ?_
          refine g_sipush C (by decide) dX11_restore_43 rfl ?_
          refine g_iload_n C 1 rfl dX11_restore_46 rfl ?_
          refine g_imul C rfl dX11_restore_47 rfl ?_
          refine g_iload_n C 2 rfl dX11_restore_48 rfl ?_
          refine g_iadd C rfl dX11_restore_49 rfl ?_
          refine g_lald C 3 rfl (by omega) (by omega) (by decide) rfl dX11_restore_50 rfl ?_
          refine g_last C 1 rfl (by omega) (by omega) (by decide) (ws' := [((Q 0), .inr (12, [vR (Q 1), vR (Q 2), vR (Q 3), vR (Q 4), vR (Q 5), vI pn, vR (Q 6), vL f0, vL f1, vL f2, vL f3, vL px, vL py, vL pb, vI rg, vI wr, vR (Q 7), vI rn, vR (Q 8), vI wn])), ((Q 1), cL E 310 (ua (cpyT s3 a (310 * s) 0 i) i (s3 ((310 * s) + i)))), ((Q 2), cL E 310 s2), ((Q 3), cL E 620 s3), ((Q 4), cZ E 2 s4), ((Q 5), cI E 80 tx), ((Q 6), cI E 24 cosT), ((Q 7), cI E 16 rr), ((Q 8), cI E 120 ww)]) rfl dX11_restore_51 rfl ?_
          refine g_iinc C (r := (i + 1)) (lv' := [(0, vR (Q 0)), (1, vI s), (2, vI (i + 1))]) 2 [1, 2, 0] rfl rfl (by decide) rfl rfl dX11_restore_52 rfl ?_
          refine g_goto C (pc' := 27) dX11_restore_55 (by decide) ?_
          refine g_ws (ws' := [((Q 0), .inr (12, [vR (Q 1), vR (Q 2), vR (Q 3), vR (Q 4), vR (Q 5), vI pn, vR (Q 6), vL f0, vL f1, vL f2, vL f3, vL px, vL py, vL pb, vI rg, vI wr, vR (Q 7), vI rn, vR (Q 8), vI wn])), ((Q 1), cL E 310 (cpyT s3 a (310 * s) 0 (i + 1))), ((Q 2), cL E 310 s2), ((Q 3), cL E 620 s3), ((Q 4), cZ E 2 s4), ((Q 5), cI E 80 tx), ((Q 6), cI E 24 cosT), ((Q 7), cI E 16 rr), ((Q 8), cI E 120 ww)]) (congrArg (fun z_ : Nat → Int64 => ([((Q 0), .inr (12, [vR (Q 1), vR (Q 2), vR (Q 3), vR (Q 4), vR (Q 5), vI pn, vR (Q 6), vL f0, vL f1, vL f2, vL f3, vL px, vL py, vL pb, vI rg, vI wr, vR (Q 7), vI rn, vR (Q 8), vI wn])), ((Q 1), .inl (E.2.1 1, 310, .inr (.inl z_))), ((Q 2), cL E 310 s2), ((Q 3), cL E 620 s3), ((Q 4), cZ E 2 s4), ((Q 5), cI E 80 tx), ((Q 6), cI E 24 cosT), ((Q 7), cI E 16 rr), ((Q 8), cI E 120 ww)] : va_W)) (show AL 310 (cpyT s3 a (310 * s) 0 (i + 1)) = AL 310 (ua (cpyT s3 a (310 * s) 0 i) i (s3 ((310 * s) + i))) from AL_c (fun k_ k0_ k1_ => by exact cpy_sd h0))) ?_
          exact ih _ (by omega) (i + 1) (by omega) (by omega) rfl
      refine g_ws (ws' := [((Q 0), .inr (12, [vR (Q 1), vR (Q 2), vR (Q 3), vR (Q 4), vR (Q 5), vI pn, vR (Q 6), vL f0, vL f1, vL f2, vL f3, vL px, vL py, vL pb, vI rg, vI wr, vR (Q 7), vI rn, vR (Q 8), vI wn])), ((Q 1), cL E 310 (cpyT s3 a (310 * s) 0 0)), ((Q 2), cL E 310 s2), ((Q 3), cL E 620 s3), ((Q 4), cZ E 2 s4), ((Q 5), cI E 80 tx), ((Q 6), cI E 24 cosT), ((Q 7), cI E 16 rr), ((Q 8), cI E 120 ww)]) (congrArg (fun z_ : Nat → Int64 => ([((Q 0), .inr (12, [vR (Q 1), vR (Q 2), vR (Q 3), vR (Q 4), vR (Q 5), vI pn, vR (Q 6), vL f0, vL f1, vL f2, vL f3, vL px, vL py, vL pb, vI rg, vI wr, vR (Q 7), vI rn, vR (Q 8), vI wn])), ((Q 1), .inl (E.2.1 1, 310, .inr (.inl z_))), ((Q 2), cL E 310 s2), ((Q 3), cL E 620 s3), ((Q 4), cZ E 2 s4), ((Q 5), cI E 80 tx), ((Q 6), cI E 24 cosT), ((Q 7), cI E 16 rr), ((Q 8), cI E 120 ww)] : va_W)) (show AL 310 (cpyT s3 a (310 * s) 0 0) = AL 310 a from AL_c (fun k_ k0_ k1_ => by exact cpy_0))) ?_
      exact hL_27 _ 0 (by omega) (by omega) rfl
    refine g_bipush C (by decide) dX11_restore_22 rfl ?_
    refine g_top (v' := vI (q_rest s3 s4 s)) (congrArg (fun z_ : Int => vI z_) (show (q_rest s3 s4 s) = (-5) by unfold q_rest; (repeat' split) <;> first | rfl | omega | contradiction | (exact cpy_35))) ?_
    refine g_ws (ws' := [((Q 0), .inr (12, [vR (Q 1), vR (Q 2), vR (Q 3), vR (Q 4), vR (Q 5), vI pn, vR (Q 6), vL f0, vL f1, vL f2, vL f3, vL px, vL py, vL pb, vI rg, vI wr, vR (Q 7), vI rn, vR (Q 8), vI wn])), ((Q 1), cL E 310 (n_rest a s3 s4 s)), ((Q 2), cL E 310 s2), ((Q 3), cL E 620 s3), ((Q 4), cZ E 2 s4), ((Q 5), cI E 80 tx), ((Q 6), cI E 24 cosT), ((Q 7), cI E 16 rr), ((Q 8), cI E 120 ww)]) (congrArg (fun z_ : Nat → Int64 => ([((Q 0), .inr (12, [vR (Q 1), vR (Q 2), vR (Q 3), vR (Q 4), vR (Q 5), vI pn, vR (Q 6), vL f0, vL f1, vL f2, vL f3, vL px, vL py, vL pb, vI rg, vI wr, vR (Q 7), vI rn, vR (Q 8), vI wn])), ((Q 1), .inl (E.2.1 1, 310, .inr (.inl z_))), ((Q 2), cL E 310 s2), ((Q 3), cL E 620 s3), ((Q 4), cZ E 2 s4), ((Q 5), cI E 80 tx), ((Q 6), cI E 24 cosT), ((Q 7), cI E 16 rr), ((Q 8), cI E 120 ww)] : va_W)) (show AL 310 (n_rest a s3 s4 s) = AL 310 a from AL_c (fun k_ k0_ k1_ => by unfold n_rest; (repeat' split) <;> first | rfl | omega | contradiction))) ?_
    exact g_iret C hr rfl (Nat.le_of_ble_eq_true rfl) (Nat.le_of_ble_eq_true rfl) dX11_restore_24 ⟨rfl, rfl⟩
  refine g_bipush C (by decide) dX11_restore_10 rfl ?_
  refine g_top (v' := vI (q_rest s3 s4 s)) (congrArg (fun z_ : Int => vI z_) (show (q_rest s3 s4 s) = (-2) by unfold q_rest; (repeat' split) <;> first | rfl | omega | contradiction | (exact cpy_35))) ?_
  refine g_ws (ws' := [((Q 0), .inr (12, [vR (Q 1), vR (Q 2), vR (Q 3), vR (Q 4), vR (Q 5), vI pn, vR (Q 6), vL f0, vL f1, vL f2, vL f3, vL px, vL py, vL pb, vI rg, vI wr, vR (Q 7), vI rn, vR (Q 8), vI wn])), ((Q 1), cL E 310 (n_rest a s3 s4 s)), ((Q 2), cL E 310 s2), ((Q 3), cL E 620 s3), ((Q 4), cZ E 2 s4), ((Q 5), cI E 80 tx), ((Q 6), cI E 24 cosT), ((Q 7), cI E 16 rr), ((Q 8), cI E 120 ww)]) (congrArg (fun z_ : Nat → Int64 => ([((Q 0), .inr (12, [vR (Q 1), vR (Q 2), vR (Q 3), vR (Q 4), vR (Q 5), vI pn, vR (Q 6), vL f0, vL f1, vL f2, vL f3, vL px, vL py, vL pb, vI rg, vI wr, vR (Q 7), vI rn, vR (Q 8), vI wn])), ((Q 1), .inl (E.2.1 1, 310, .inr (.inl z_))), ((Q 2), cL E 310 s2), ((Q 3), cL E 620 s3), ((Q 4), cZ E 2 s4), ((Q 5), cI E 80 tx), ((Q 6), cI E 24 cosT), ((Q 7), cI E 16 rr), ((Q 8), cI E 120 ww)] : va_W)) (show AL 310 (n_rest a s3 s4 s) = AL 310 a from AL_c (fun k_ k0_ k1_ => by unfold n_rest; (repeat' split) <;> first | rfl | omega | contradiction))) ?_
  exact g_iret C hr rfl (Nat.le_of_ble_eq_true rfl) (Nat.le_of_ble_eq_true rfl) dX11_restore_12 ⟨rfl, rfl⟩
