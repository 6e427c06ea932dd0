abbrev rm_K_m_in : Room := { frames := 0, cells := 0, slots := 0, locals := 0 }
set_option maxHeartbeats 8000000 in
set_option maxRecDepth 100000 in
theorem K_m_in (l : Launch) (E : Ev) (x lo hi : Int) (hx : bl x) (hlo : bl lo) (hhi : bl hi) : Mc l yX11_in wsX11_in rm_K_m_in E [vL x, vL lo, vL hi] [] 0 0 (fun v9 w9 => v9 = some (vI (bP (lo ≤ x ∧ x ≤ hi))) ∧ w9 = []) := by
  refine Mc.intro (cc := cX11_in) (maxL := 6) (ret := (some .boolean)) (lv0 := [(0, vL x), (2, vL lo), (4, vL hi)]) (by decide +kernel) rfl rfl (Nat.le_of_ble_eq_true rfl) ?_
  intro p9 e9 s9 m9 args9 below9 meth9 c9 A9 C hr hmn
  have C : Cx p9 s9 m9 args9 meth9 c9 E A9 6 cX11_in wsX11_in RX11 := C
  refine g_lload_n C 0 rfl dX11_in_0 rfl ?_
  refine g_lload_n C 1 rfl dX11_in_1 rfl ?_
  refine g_lcmp_lt C (hx) (hlo) dX11_in_2 rfl (tgt := 17) dX11_in_3 (by decide) rfl (fun c_1 => ?_) (fun c_1 => ?_)
  · refine g_iconst C dX11_in_17 rfl ?_
    refine g_top (v' := vI (bP (lo ≤ x ∧ x ≤ hi))) (congrArg (fun z_ : Int => vI z_) (show (bP (lo ≤ x ∧ x ≤ hi)) = 0 by first | exact bP_t (by first | assumption | omega) | exact bP_f (by first | assumption | omega))) ?_
    exact g_iret C hr (nrZ _) (Nat.le_of_ble_eq_true rfl) (Nat.le_of_ble_eq_true rfl) dX11_in_18 ⟨rfl, rfl⟩
  refine g_lload_n C 0 rfl dX11_in_6 rfl ?_
  refine g_lload C 2 rfl dX11_in_7 rfl ?_
  refine g_lcmp_gt C (hx) (hhi) dX11_in_9 rfl (tgt := 17) dX11_in_10 (by decide) rfl (fun c_2 => ?_) (fun c_2 => ?_)
  · refine g_iconst C dX11_in_17 rfl ?_
    refine g_top (v' := vI (bP (lo ≤ x ∧ x ≤ hi))) (congrArg (fun z_ : Int => vI z_) (show (bP (lo ≤ x ∧ x ≤ hi)) = 0 by first | exact bP_t (by first | assumption | omega) | exact bP_f (by first | assumption | omega))) ?_
    exact g_iret C hr (nrZ _) (Nat.le_of_ble_eq_true rfl) (Nat.le_of_ble_eq_true rfl) dX11_in_18 ⟨rfl, rfl⟩
  refine g_iconst C dX11_in_13 rfl ?_
  refine g_goto C (pc' := 18) dX11_in_14 (by decide) ?_
  refine g_top (v' := vI (bP (lo ≤ x ∧ x ≤ hi))) (congrArg (fun z_ : Int => vI z_) (show (bP (lo ≤ x ∧ x ≤ hi)) = 1 by first | exact bP_t (by first | assumption | omega) | exact bP_f (by first | assumption | omega))) ?_
  exact g_iret C hr (nrZ _) (Nat.le_of_ble_eq_true rfl) (Nat.le_of_ble_eq_true rfl) dX11_in_18 ⟨rfl, rfl⟩

abbrev rm_K_m_size : Room := { frames := 0, cells := 0, slots := 0, locals := 0 }
set_option maxHeartbeats 8000000 in
set_option maxRecDepth 100000 in
theorem K_m_size (l : Launch) (E : Ev) (x : Int) (hx : bl x) : Mc l yX11_size wsX11_size rm_K_m_size E [vL x] [] 0 0 (fun v9 w9 => v9 = some (vL (absI x)) ∧ w9 = []) := by
  refine Mc.intro (cc := cX11_size) (maxL := 2) (ret := (some .long)) (lv0 := [(0, vL x)]) (by decide +kernel) rfl rfl (Nat.le_of_ble_eq_true rfl) ?_
  intro p9 e9 s9 m9 args9 below9 meth9 c9 A9 C hr hmn
  have C : Cx p9 s9 m9 args9 meth9 c9 E A9 2 cX11_size wsX11_size RX11 := C
  refine g_lload_n C 0 rfl dX11_size_0 rfl ?_
  refine g_lconst0 C dX11_size_1 rfl ?_
  refine g_lcmp_ge C (hx) ⟨by decide, by decide⟩ dX11_size_2 rfl (tgt := 11) dX11_size_3 (by decide) rfl (fun c_1 => ?_) (fun c_1 => ?_)
  · refine g_lload_n C 0 rfl dX11_size_11 rfl ?_
    refine g_top (v' := vL (absI x)) (congrArg (fun z_ : Int => vL z_) (show (absI x) = x by unfold absI; split <;> omega)) ?_
    exact g_lret C hr (Nat.le_of_ble_eq_true rfl) (Nat.le_of_ble_eq_true rfl) dX11_size_12 ⟨rfl, rfl⟩
  refine g_lload_n C 0 rfl dX11_size_6 rfl ?_
  refine g_lneg C rfl dX11_size_7 rfl ?_
  refine g_goto C (pc' := 12) dX11_size_8 (by decide) ?_
  refine g_top (v' := vL (absI x)) (congrArg (fun z_ : Int => vL z_) (show (absI x) = (-x) by unfold absI; split <;> omega)) ?_
  exact g_lret C hr (Nat.le_of_ble_eq_true rfl) (Nat.le_of_ble_eq_true rfl) dX11_size_12 ⟨rfl, rfl⟩

abbrev rm_K_m_quarter : Room := { frames := 0, cells := 0, slots := 0, locals := 0 }
set_option maxHeartbeats 8000000 in
set_option maxRecDepth 100000 in
theorem K_m_quarter (l : Launch) (E : Ev) (k : Int) (hk : 0 ≤ k ∧ k ≤ 6) : Mc l yX11_quarter wsX11_quarter rm_K_m_quarter E [vI k] [] 0 0 (fun v9 w9 => v9 = some (vI (cosT k)) ∧ w9 = []) := by
  refine Mc.intro (cc := cX11_quarter) (maxL := 1) (ret := (some .int)) (lv0 := [(0, vI k)]) (by decide +kernel) rfl rfl (Nat.le_of_ble_eq_true rfl) ?_
  intro p9 e9 s9 m9 args9 below9 meth9 c9 A9 C hr hmn
  have C : Cx p9 s9 m9 args9 meth9 c9 E A9 1 cX11_quarter wsX11_quarter RX11 := C
  refine g_iload_n C 0 rfl dX11_quarter_0 rfl ?_
  rcases (show k = 0 ∨ k = 1 ∨ k = 2 ∨ k = 3 ∨ k = 4 ∨ k = 5 ∨ k = 6 by omega) with c_1e | c_1e | c_1e | c_1e | c_1e | c_1e | c_1e
  · subst c_1e
    refine g_tsIn C (pc' := 40) ⟨by decide, by decide⟩ (by decide) (by decide) (by rfl) dX11_quarter_1 (by decide) ?_
    refine g_sipush C (by decide) dX11_quarter_40 rfl ?_
    refine g_top (v' := vI (cosT 0)) (congrArg (fun z_ : Int => vI z_) (show (cosT 0) = 4096 by rfl)) ?_
    exact g_iret C hr rfl (Nat.le_of_ble_eq_true rfl) (Nat.le_of_ble_eq_true rfl) dX11_quarter_43 ⟨rfl, rfl⟩
  · subst c_1e
    refine g_tsIn C (pc' := 44) ⟨by decide, by decide⟩ (by decide) (by decide) (by rfl) dX11_quarter_1 (by decide) ?_
    refine g_sipush C (by decide) dX11_quarter_44 rfl ?_
    refine g_top (v' := vI (cosT 1)) (congrArg (fun z_ : Int => vI z_) (show (cosT 1) = 3956 by rfl)) ?_
    exact g_iret C hr rfl (Nat.le_of_ble_eq_true rfl) (Nat.le_of_ble_eq_true rfl) dX11_quarter_47 ⟨rfl, rfl⟩
  · subst c_1e
    refine g_tsIn C (pc' := 48) ⟨by decide, by decide⟩ (by decide) (by decide) (by rfl) dX11_quarter_1 (by decide) ?_
    refine g_sipush C (by decide) dX11_quarter_48 rfl ?_
    refine g_top (v' := vI (cosT 2)) (congrArg (fun z_ : Int => vI z_) (show (cosT 2) = 3547 by rfl)) ?_
    exact g_iret C hr rfl (Nat.le_of_ble_eq_true rfl) (Nat.le_of_ble_eq_true rfl) dX11_quarter_51 ⟨rfl, rfl⟩
  · subst c_1e
    refine g_tsIn C (pc' := 52) ⟨by decide, by decide⟩ (by decide) (by decide) (by rfl) dX11_quarter_1 (by decide) ?_
    refine g_sipush C (by decide) dX11_quarter_52 rfl ?_
    refine g_top (v' := vI (cosT 3)) (congrArg (fun z_ : Int => vI z_) (show (cosT 3) = 2896 by rfl)) ?_
    exact g_iret C hr rfl (Nat.le_of_ble_eq_true rfl) (Nat.le_of_ble_eq_true rfl) dX11_quarter_55 ⟨rfl, rfl⟩
  · subst c_1e
    refine g_tsIn C (pc' := 56) ⟨by decide, by decide⟩ (by decide) (by decide) (by rfl) dX11_quarter_1 (by decide) ?_
    refine g_sipush C (by decide) dX11_quarter_56 rfl ?_
    refine g_top (v' := vI (cosT 4)) (congrArg (fun z_ : Int => vI z_) (show (cosT 4) = 2048 by rfl)) ?_
    exact g_iret C hr rfl (Nat.le_of_ble_eq_true rfl) (Nat.le_of_ble_eq_true rfl) dX11_quarter_59 ⟨rfl, rfl⟩
  · subst c_1e
    refine g_tsIn C (pc' := 60) ⟨by decide, by decide⟩ (by decide) (by decide) (by rfl) dX11_quarter_1 (by decide) ?_
    refine g_sipush C (by decide) dX11_quarter_60 rfl ?_
    refine g_top (v' := vI (cosT 5)) (congrArg (fun z_ : Int => vI z_) (show (cosT 5) = 1060 by rfl)) ?_
    exact g_iret C hr rfl (Nat.le_of_ble_eq_true rfl) (Nat.le_of_ble_eq_true rfl) dX11_quarter_63 ⟨rfl, rfl⟩
  · subst c_1e
    refine g_tsOut C (pc' := 64) ⟨by decide, by decide⟩ (by decide) dX11_quarter_1 (by decide) ?_
    refine g_iconst C dX11_quarter_64 rfl ?_
    refine g_top (v' := vI (cosT 6)) (congrArg (fun z_ : Int => vI z_) (show (cosT 6) = 0 by rfl)) ?_
    exact g_iret C hr rfl (Nat.le_of_ble_eq_true rfl) (Nat.le_of_ble_eq_true rfl) dX11_quarter_65 ⟨rfl, rfl⟩

theorem in_X11_sine_X11 : ∀ w ∈ u_ws RX11 TX11 20, w ∈ wsX11_sine := by decide +kernel
theorem fd_X11_sine_27 : fdk wsX11_sine RX11 27 "ZoneRelayModel" RX11 TX11 20 6 := ⟨in_X11_sine_X11, by decide +kernel, by decide, rfl⟩
theorem w_X11_sine_k66 : Cond.constantLong RX11 66 (18) ∈ wsX11_sine := by decide +kernel
theorem w_X11_sine_k52 : Cond.constantLong RX11 52 (24) ∈ wsX11_sine := by decide +kernel
abbrev rm_K_m_sine : Room := { frames := 0, cells := 0, slots := 0, locals := 0 }
set_option maxHeartbeats 8000000 in
set_option maxRecDepth 100000 in
theorem K_m_sine (l : Launch) (E : Ev) (Q : Nat → Nat) (pn f0 f1 f2 f3 px py pb rg wr rn wn t : Int) (ht : 0 ≤ t ∧ t < 2000000000) : Mc l yX11_sine wsX11_sine rm_K_m_sine E [vR (Q 0), vL t] [((Q 0), .inr (12, [vR (Q 1), vR (Q 2), vR (Q 3), vR (Q 4), vR (Q 5), vI pn, vR (Q 6), vL f0, vL f1, vL f2, vL f3, vL px, vL py, vL pb, vI rg, vI wr, vR (Q 7), vI rn, vR (Q 8), vI wn])), ((Q 6), cI E 24 cosT)] 0 0 (fun v9 w9 => v9 = some (vL (sinT t)) ∧ w9 = [((Q 0), .inr (12, [vR (Q 1), vR (Q 2), vR (Q 3), vR (Q 4), vR (Q 5), vI pn, vR (Q 6), vL f0, vL f1, vL f2, vL f3, vL px, vL py, vL pb, vI rg, vI wr, vR (Q 7), vI rn, vR (Q 8), vI wn])), ((Q 6), cI E 24 cosT)]) := by
  refine Mc.intro (cc := cX11_sine) (maxL := 3) (ret := (some .long)) (lv0 := [(0, vR (Q 0)), (1, vL t)]) (by decide +kernel) rfl rfl (Nat.le_of_ble_eq_true rfl) ?_
  intro p9 e9 s9 m9 args9 below9 meth9 c9 A9 C hr hmn
  have C : Cx p9 s9 m9 args9 meth9 c9 E A9 3 cX11_sine wsX11_sine RX11 := C
  refine g_aload_n C 0 rfl dX11_sine_0 rfl ?_
  refine g_get C 0 fd_X11_sine_27 rfl rfl rfl dX11_sine_1 rfl ?_
  refine g_lload_n C 1 rfl dX11_sine_4 rfl ?_
  refine g_ldc2 C (x := 18) w_X11_sine_k66 (by decide) dX11_sine_5 rfl ?_
  refine g_ladd C rfl dX11_sine_8 rfl ?_
  refine g_ldc2 C (x := 24) w_X11_sine_k52 (by decide) dX11_sine_9 rfl ?_
  refine g_lrem C ⟨by omega, by omega⟩ ⟨by decide, by decide⟩ (by decide) rfl dX11_sine_12 rfl ?_
  refine g_l2i C rfl dX11_sine_13 rfl ?_
  have ht2 := tmod_r (a := t + 18) (b := 24) (by omega) (by decide)
  have c2 := cosT_b (Int.tmod (t + 18) 24)
  refine g_iald C 1 rfl (by omega) (by omega) (by decide) rfl dX11_sine_14 rfl ?_
  refine g_i2l C ⟨by omega, by omega⟩ rfl dX11_sine_15 rfl ?_
  refine g_top (v' := vL (sinT t)) rfl ?_
  exact g_lret C hr (Nat.le_of_ble_eq_true rfl) (Nat.le_of_ble_eq_true rfl) dX11_sine_16 ⟨rfl, rfl⟩

theorem w_X11_isPolygon_k54 : Cond.constantLong RX11 54 (4) ∈ wsX11_isPolygon := by decide +kernel
theorem hyd_X11_in : yX11_in.cls ≠ "java/lang/invoke/MethodHandle" ∧ yX11_in.cls ≠ "java/lang/invoke/VarHandle" ∧ (parseMethodDescriptor yX11_in.desc).map (fun d => d.parameters.length) = some 3 := by decide +kernel
abbrev rm_K_m_isPoly : Room := { frames := 1, cells := 0, slots := 0, locals := 25 }
set_option maxHeartbeats 8000000 in
set_option maxRecDepth 100000 in
theorem K_m_isPoly (l : Launch) (E : Ev) (p : Int) (hp : bi p) : Mc l yX11_isPolygon wsX11_isPolygon rm_K_m_isPoly E [vI p] [] 0 0 (fun v9 w9 => v9 = some (vI (bP (0 ≤ p ∧ p ≤ 4))) ∧ w9 = []) := by
  refine Mc.intro (cc := cX11_isPolygon) (maxL := 1) (ret := (some .boolean)) (lv0 := [(0, vI p)]) (by decide +kernel) rfl rfl (Nat.le_of_ble_eq_true rfl) ?_
  intro p9 e9 s9 m9 args9 below9 meth9 c9 A9 C hr hmn
  have C : Cx p9 s9 m9 args9 meth9 c9 E A9 1 cX11_isPolygon wsX11_isPolygon RX11 := C
  refine g_iload_n C 0 rfl dX11_isPolygon_0 rfl ?_
  refine g_i2l C (hp) rfl dX11_isPolygon_1 rfl ?_
  refine g_lconst0 C dX11_isPolygon_2 rfl ?_
  refine g_ldc2 C (x := 4) w_X11_isPolygon_k54 (by decide) dX11_isPolygon_3 rfl ?_
  refine g_callS C (As := [vL p, vL 0, vL 4]) (wc := []) (wr := []) (st := []) gX11_isPolygon_X11_in rfl (K_m_in l E p 0 4 ⟨by omega, by omega⟩ b0l ⟨by decide, by decide⟩) hyd_X11_in rfl [] [] rfl rfl rfl rfl rfl (by decide) ⟨rfl, rfl⟩ ⟨Nat.le_of_ble_eq_true rfl, Nat.le_of_ble_eq_true rfl, Nat.le_of_ble_eq_true rfl, Nat.le_of_ble_eq_true rfl⟩ (Nat.le_of_ble_eq_true rfl) dX11_isPolygon_6 (rfl : _ = 0) (rfl : _ = 0) rfl ?_
  rintro _ _ ⟨rfl, rfl⟩
  refine g_is (ws' := []) (st' := [vI (bP (0 ≤ p ∧ p ≤ 4))]) rfl rfl ?_
  exact g_iret C hr (nrZ _) (Nat.le_of_ble_eq_true rfl) (Nat.le_of_ble_eq_true rfl) dX11_isPolygon_9 ⟨rfl, rfl⟩

theorem w_X11_isZone_k72 : Cond.constantLong RX11 72 (2) ∈ wsX11_isZone := by decide +kernel
abbrev rm_K_m_isZone : Room := { frames := 1, cells := 0, slots := 0, locals := 25 }
set_option maxHeartbeats 8000000 in
set_option maxRecDepth 100000 in
theorem K_m_isZone (l : Launch) (E : Ev) (p : Int) (hp : bi p) : Mc l yX11_isZone wsX11_isZone rm_K_m_isZone E [vI p] [] 0 0 (fun v9 w9 => v9 = some (vI (bP (0 ≤ p ∧ p ≤ 2))) ∧ w9 = []) := by
  refine Mc.intro (cc := cX11_isZone) (maxL := 1) (ret := (some .boolean)) (lv0 := [(0, vI p)]) (by decide +kernel) rfl rfl (Nat.le_of_ble_eq_true rfl) ?_
  intro p9 e9 s9 m9 args9 below9 meth9 c9 A9 C hr hmn
  have C : Cx p9 s9 m9 args9 meth9 c9 E A9 1 cX11_isZone wsX11_isZone RX11 := C
  refine g_iload_n C 0 rfl dX11_isZone_0 rfl ?_
  refine g_i2l C (hp) rfl dX11_isZone_1 rfl ?_
  refine g_lconst0 C dX11_isZone_2 rfl ?_
  refine g_ldc2 C (x := 2) w_X11_isZone_k72 (by decide) dX11_isZone_3 rfl ?_
  refine g_callS C (As := [vL p, vL 0, vL 2]) (wc := []) (wr := []) (st := []) gX11_isZone_X11_in rfl (K_m_in l E p 0 2 ⟨by omega, by omega⟩ b0l ⟨by decide, by decide⟩) hyd_X11_in rfl [] [] rfl rfl rfl rfl rfl (by decide) ⟨rfl, rfl⟩ ⟨Nat.le_of_ble_eq_true rfl, Nat.le_of_ble_eq_true rfl, Nat.le_of_ble_eq_true rfl, Nat.le_of_ble_eq_true rfl⟩ (Nat.le_of_ble_eq_true rfl) dX11_isZone_6 (rfl : _ = 0) (rfl : _ = 0) rfl ?_
  rintro _ _ ⟨rfl, rfl⟩
  refine g_is (ws' := []) (st' := [vI (bP (0 ≤ p ∧ p ≤ 2))]) rfl rfl ?_
  exact g_iret C hr (nrZ _) (Nat.le_of_ble_eq_true rfl) (Nat.le_of_ble_eq_true rfl) dX11_isZone_9 ⟨rfl, rfl⟩

theorem in_X11_corners_X11 : ∀ w ∈ u_ws RX11 TX11 20, w ∈ wsX11_corners := by decide +kernel
theorem fd_X11_corners_7 : fdk wsX11_corners RX11 7 "ZoneRelayModel" RX11 TX11 20 0 := ⟨in_X11_corners_X11, by decide +kernel, by decide, rfl⟩
abbrev rm_K_m_corners : Room := { frames := 0, cells := 0, slots := 0, locals := 0 }
set_option maxHeartbeats 8000000 in
set_option maxRecDepth 100000 in
theorem K_m_corners (l : Launch) (E : Ev) (Q : Nat → Nat) (pn f0 f1 f2 f3 px py pb rg wr rn wn : Int) (a : Int → Int) (p : Int) (hp : 0 ≤ p ∧ p ≤ 4) : Mc l yX11_corners wsX11_corners rm_K_m_corners E [vR (Q 0), vI p] [((Q 0), .inr (12, [vR (Q 1), vR (Q 2), vR (Q 3), vR (Q 4), vR (Q 5), vI pn, vR (Q 6), vL f0, vL f1, vL f2, vL f3, vL px, vL py, vL pb, vI rg, vI wr, vR (Q 7), vI rn, vR (Q 8), vI wn])), ((Q 1), cL E 310 a)] 0 0 (fun v9 w9 => v9 = some (vI (a (225 + (17 * p)))) ∧ w9 = [((Q 0), .inr (12, [vR (Q 1), vR (Q 2), vR (Q 3), vR (Q 4), vR (Q 5), vI pn, vR (Q 6), vL f0, vL f1, vL f2, vL f3, vL px, vL py, vL pb, vI rg, vI wr, vR (Q 7), vI rn, vR (Q 8), vI wn])), ((Q 1), cL E 310 a)]) := by
  refine Mc.intro (cc := cX11_corners) (maxL := 2) (ret := (some .int)) (lv0 := [(0, vR (Q 0)), (1, vI p)]) (by decide +kernel) rfl rfl (Nat.le_of_ble_eq_true rfl) ?_
  intro p9 e9 s9 m9 args9 below9 meth9 c9 A9 C hr hmn
  have C : Cx p9 s9 m9 args9 meth9 c9 E A9 2 cX11_corners wsX11_corners RX11 := C
  refine g_aload_n C 0 rfl dX11_corners_0 rfl ?_
  refine g_get C 0 fd_X11_corners_7 rfl rfl rfl dX11_corners_1 rfl ?_
  refine g_sipush C (by decide) dX11_corners_4 rfl ?_
  refine g_bipush C (by decide) dX11_corners_7 rfl ?_
  refine g_iload_n C 1 rfl dX11_corners_9 rfl ?_
  refine g_imul C rfl dX11_corners_10 rfl ?_
  refine g_iadd C rfl dX11_corners_11 rfl ?_
  refine g_lald C 1 rfl (by omega) (by omega) (by decide) rfl dX11_corners_12 rfl ?_
  refine g_l2i C rfl dX11_corners_13 rfl ?_
  exact g_iret C hr rfl (Nat.le_of_ble_eq_true rfl) (Nat.le_of_ble_eq_true rfl) dX11_corners_14 ⟨rfl, rfl⟩

abbrev rm_K_m_cornerAt : Room := { frames := 0, cells := 0, slots := 0, locals := 0 }
set_option maxHeartbeats 8000000 in
set_option maxRecDepth 100000 in
theorem K_m_cornerAt (l : Launch) (E : Ev) (p i w : Int)  : Mc l yX11_cornerAt wsX11_cornerAt rm_K_m_cornerAt E [vI p, vI i, vI w] [] 0 0 (fun v9 w9 => v9 = some (vI (((226 + (17 * p)) + (2 * i)) + w)) ∧ w9 = []) := by
  refine Mc.intro (cc := cX11_cornerAt) (maxL := 3) (ret := (some .int)) (lv0 := [(0, vI p), (1, vI i), (2, vI w)]) (by decide +kernel) rfl rfl (Nat.le_of_ble_eq_true rfl) ?_
  intro p9 e9 s9 m9 args9 below9 meth9 c9 A9 C hr hmn
  have C : Cx p9 s9 m9 args9 meth9 c9 E A9 3 cX11_cornerAt wsX11_cornerAt RX11 := C
  refine g_sipush C (by decide) dX11_cornerAt_0 rfl ?_
  refine g_bipush C (by decide) dX11_cornerAt_3 rfl ?_
  refine g_iload_n C 0 rfl dX11_cornerAt_5 rfl ?_
  refine g_imul C rfl dX11_cornerAt_6 rfl ?_
  refine g_iadd C rfl dX11_cornerAt_7 rfl ?_
  refine g_iconst C dX11_cornerAt_8 rfl ?_
  refine g_iadd C rfl dX11_cornerAt_9 rfl ?_
  refine g_iconst C dX11_cornerAt_10 rfl ?_
  refine g_iload_n C 1 rfl dX11_cornerAt_11 rfl ?_
  refine g_imul C rfl dX11_cornerAt_12 rfl ?_
  refine g_iadd C rfl dX11_cornerAt_13 rfl ?_
  refine g_iload_n C 2 rfl dX11_cornerAt_14 rfl ?_
  refine g_iadd C rfl dX11_cornerAt_15 rfl ?_
  refine g_top (v' := vI (((226 + (17 * p)) + (2 * i)) + w)) (congrArg (fun z_ : Int => vI z_) (show (((226 + (17 * p)) + (2 * i)) + w) = ((((225 + (17 * p)) + 1) + (2 * i)) + w) by omega)) ?_
  exact g_iret C hr rfl (Nat.le_of_ble_eq_true rfl) (Nat.le_of_ble_eq_true rfl) dX11_cornerAt_16 ⟨rfl, rfl⟩

theorem in_X11_coordinate_X11 : ∀ w ∈ u_ws RX11 TX11 20, w ∈ wsX11_coordinate := by decide +kernel
theorem fd_X11_coordinate_7 : fdk wsX11_coordinate RX11 7 "ZoneRelayModel" RX11 TX11 20 0 := ⟨in_X11_coordinate_X11, by decide +kernel, by decide, rfl⟩
theorem hyd_X11_corners : yX11_corners.cls ≠ "java/lang/invoke/MethodHandle" ∧ yX11_corners.cls ≠ "java/lang/invoke/VarHandle" ∧ (parseMethodDescriptor yX11_corners.desc).map (fun d => d.parameters.length) = some 1 := by decide +kernel
theorem hyd_X11_cornerAt : yX11_cornerAt.cls ≠ "java/lang/invoke/MethodHandle" ∧ yX11_cornerAt.cls ≠ "java/lang/invoke/VarHandle" ∧ (parseMethodDescriptor yX11_cornerAt.desc).map (fun d => d.parameters.length) = some 3 := by decide +kernel
abbrev rm_K_m_coord0 : Room := { frames := 1, cells := 0, slots := 0, locals := 22 }
set_option maxHeartbeats 8000000 in
set_option maxRecDepth 100000 in
theorem K_m_coord0 (l : Launch) (E : Ev) (Q : Nat → Nat) (pn f0 f1 f2 f3 px py pb rg wr rn wn : Int) (a : Int → Int) (p i : Int) (hp : 0 ≤ p ∧ p ≤ 4) (hn : 1 ≤ a (225 + 17 * p) ∧ a (225 + 17 * p) ≤ 8) (hi : 0 ≤ i ∧ i ≤ 100) : Mc l yX11_coordinate wsX11_coordinate rm_K_m_coord0 E [vR (Q 0), vI p, vI i, vI 0] [((Q 0), .inr (12, [vR (Q 1), vR (Q 2), vR (Q 3), vR (Q 4), vR (Q 5), vI pn, vR (Q 6), vL f0, vL f1, vL f2, vL f3, vL px, vL py, vL pb, vI rg, vI wr, vR (Q 7), vI rn, vR (Q 8), vI wn])), ((Q 1), cL E 310 a)] 0 0 (fun v9 w9 => v9 = some (vL ((sh2 a (226 + (17 * p))) (Int.tmod i (a (225 + (17 * p)))))) ∧ w9 = [((Q 0), .inr (12, [vR (Q 1), vR (Q 2), vR (Q 3), vR (Q 4), vR (Q 5), vI pn, vR (Q 6), vL f0, vL f1, vL f2, vL f3, vL px, vL py, vL pb, vI rg, vI wr, vR (Q 7), vI rn, vR (Q 8), vI wn])), ((Q 1), cL E 310 a)]) := by
  refine Mc.intro (cc := cX11_coordinate) (maxL := 4) (ret := (some .long)) (lv0 := [(0, vR (Q 0)), (1, vI p), (2, vI i), (3, vI 0)]) (by decide +kernel) rfl rfl (Nat.le_of_ble_eq_true rfl) ?_
  intro p9 e9 s9 m9 args9 below9 meth9 c9 A9 C hr hmn
  have C : Cx p9 s9 m9 args9 meth9 c9 E A9 4 cX11_coordinate wsX11_coordinate RX11 := C
  refine g_aload_n C 0 rfl dX11_coordinate_0 rfl ?_
  refine g_get C 0 fd_X11_coordinate_7 rfl rfl rfl dX11_coordinate_1 rfl ?_
  refine g_iload_n C 1 rfl dX11_coordinate_4 rfl ?_
  refine g_iload_n C 2 rfl dX11_coordinate_5 rfl ?_
  refine g_aload_n C 0 rfl dX11_coordinate_6 rfl ?_
  refine g_iload_n C 1 rfl dX11_coordinate_7 rfl ?_
  refine g_callV C (b := (Q 0)) (As := [vI p]) (wc := [((Q 0), .inr (12, [vR (Q 1), vR (Q 2), vR (Q 3), vR (Q 4), vR (Q 5), vI pn, vR (Q 6), vL f0, vL f1, vL f2, vL f3, vL px, vL py, vL pb, vI rg, vI wr, vR (Q 7), vI rn, vR (Q 8), vI wn])), ((Q 1), cL E 310 a)]) (wr := []) (st := [vI i, vI p, vR (Q 1)]) gX11_coordinate_X11_corners (q9 := 0) (ci := 12) rfl rfl rfl (K_m_corners l E Q pn f0 f1 f2 f3 px py pb rg wr rn wn a p hp) hyd_X11_corners rfl [0, 1] [] rfl rfl rfl rfl rfl (by decide) ⟨rfl, rfl⟩ ⟨Nat.le_of_ble_eq_true rfl, Nat.le_of_ble_eq_true rfl, Nat.le_of_ble_eq_true rfl, Nat.le_of_ble_eq_true rfl⟩ (Nat.le_of_ble_eq_true rfl) dX11_coordinate_8 (rfl : _ = 0) (rfl : _ = 0) rfl ?_
  rintro _ _ ⟨rfl, rfl⟩
  refine g_is (ws' := [((Q 0), .inr (12, [vR (Q 1), vR (Q 2), vR (Q 3), vR (Q 4), vR (Q 5), vI pn, vR (Q 6), vL f0, vL f1, vL f2, vL f3, vL px, vL py, vL pb, vI rg, vI wr, vR (Q 7), vI rn, vR (Q 8), vI wn])), ((Q 1), cL E 310 a)]) (st' := [vI (a (225 + (17 * p))), vI i, vI p, vR (Q 1)]) rfl rfl ?_
  refine g_irem C ⟨by omega, by omega⟩ ⟨by omega, by omega⟩ (by omega) rfl dX11_coordinate_11 rfl ?_
  refine g_iload_n C 3 rfl dX11_coordinate_12 rfl ?_
  refine g_callS C (As := [vI p, vI (Int.tmod i (a (225 + (17 * p)))), vI 0]) (wc := []) (wr := [((Q 0), .inr (12, [vR (Q 1), vR (Q 2), vR (Q 3), vR (Q 4), vR (Q 5), vI pn, vR (Q 6), vL f0, vL f1, vL f2, vL f3, vL px, vL py, vL pb, vI rg, vI wr, vR (Q 7), vI rn, vR (Q 8), vI wn])), ((Q 1), cL E 310 a)]) (st := [vR (Q 1)]) gX11_coordinate_X11_cornerAt rfl (K_m_cornerAt l E p (Int.tmod i (a (225 + (17 * p)))) 0 ) hyd_X11_cornerAt rfl [] [0, 1] rfl rfl rfl rfl rfl (by decide) ⟨rfl, rfl⟩ ⟨Nat.le_of_ble_eq_true rfl, Nat.le_of_ble_eq_true rfl, Nat.le_of_ble_eq_true rfl, Nat.le_of_ble_eq_true rfl⟩ (Nat.le_of_ble_eq_true rfl) dX11_coordinate_13 (rfl : _ = 0) (rfl : _ = 0) rfl ?_
  rintro _ _ ⟨rfl, rfl⟩
  refine g_is (ws' := [((Q 0), .inr (12, [vR (Q 1), vR (Q 2), vR (Q 3), vR (Q 4), vR (Q 5), vI pn, vR (Q 6), vL f0, vL f1, vL f2, vL f3, vL px, vL py, vL pb, vI rg, vI wr, vR (Q 7), vI rn, vR (Q 8), vI wn])), ((Q 1), cL E 310 a)]) (st' := [vI (((226 + (17 * p)) + (2 * (Int.tmod i (a (225 + (17 * p)))))) + 0), vR (Q 1)]) rfl rfl ?_
  have htr := tmod_r (a := i) (b := a (225 + 17 * p)) (by omega) (by omega)
  refine g_lald C 1 rfl (by omega) (by omega) (by decide) rfl dX11_coordinate_16 rfl ?_
  refine g_top (v' := vL ((sh2 a (226 + (17 * p))) (Int.tmod i (a (225 + (17 * p)))))) (congrArg (fun z_ : Int => vL z_) (show ((sh2 a (226 + (17 * p))) (Int.tmod i (a (225 + (17 * p))))) = (a (((226 + (17 * p)) + (2 * (Int.tmod i (a (225 + (17 * p)))))) + 0)) by unfold sh2; congr 1; omega)) ?_
  exact g_lret C hr (Nat.le_of_ble_eq_true rfl) (Nat.le_of_ble_eq_true rfl) dX11_coordinate_17 ⟨rfl, rfl⟩

abbrev rm_K_m_coord1 : Room := { frames := 1, cells := 0, slots := 0, locals := 22 }
set_option maxHeartbeats 8000000 in
set_option maxRecDepth 100000 in
theorem K_m_coord1 (l : Launch) (E : Ev) (Q : Nat → Nat) (pn f0 f1 f2 f3 px py pb rg wr rn wn : Int) (a : Int → Int) (p i : Int) (hp : 0 ≤ p ∧ p ≤ 4) (hn : 1 ≤ a (225 + 17 * p) ∧ a (225 + 17 * p) ≤ 8) (hi : 0 ≤ i ∧ i ≤ 100) : Mc l yX11_coordinate wsX11_coordinate rm_K_m_coord1 E [vR (Q 0), vI p, vI i, vI 1] [((Q 0), .inr (12, [vR (Q 1), vR (Q 2), vR (Q 3), vR (Q 4), vR (Q 5), vI pn, vR (Q 6), vL f0, vL f1, vL f2, vL f3, vL px, vL py, vL pb, vI rg, vI wr, vR (Q 7), vI rn, vR (Q 8), vI wn])), ((Q 1), cL E 310 a)] 0 0 (fun v9 w9 => v9 = some (vL ((sh2 a (227 + (17 * p))) (Int.tmod i (a (225 + (17 * p)))))) ∧ w9 = [((Q 0), .inr (12, [vR (Q 1), vR (Q 2), vR (Q 3), vR (Q 4), vR (Q 5), vI pn, vR (Q 6), vL f0, vL f1, vL f2, vL f3, vL px, vL py, vL pb, vI rg, vI wr, vR (Q 7), vI rn, vR (Q 8), vI wn])), ((Q 1), cL E 310 a)]) := by
  refine Mc.intro (cc := cX11_coordinate) (maxL := 4) (ret := (some .long)) (lv0 := [(0, vR (Q 0)), (1, vI p), (2, vI i), (3, vI 1)]) (by decide +kernel) rfl rfl (Nat.le_of_ble_eq_true rfl) ?_
  intro p9 e9 s9 m9 args9 below9 meth9 c9 A9 C hr hmn
  have C : Cx p9 s9 m9 args9 meth9 c9 E A9 4 cX11_coordinate wsX11_coordinate RX11 := C
  refine g_aload_n C 0 rfl dX11_coordinate_0 rfl ?_
  refine g_get C 0 fd_X11_coordinate_7 rfl rfl rfl dX11_coordinate_1 rfl ?_
  refine g_iload_n C 1 rfl dX11_coordinate_4 rfl ?_
  refine g_iload_n C 2 rfl dX11_coordinate_5 rfl ?_
  refine g_aload_n C 0 rfl dX11_coordinate_6 rfl ?_
  refine g_iload_n C 1 rfl dX11_coordinate_7 rfl ?_
  refine g_callV C (b := (Q 0)) (As := [vI p]) (wc := [((Q 0), .inr (12, [vR (Q 1), vR (Q 2), vR (Q 3), vR (Q 4), vR (Q 5), vI pn, vR (Q 6), vL f0, vL f1, vL f2, vL f3, vL px, vL py, vL pb, vI rg, vI wr, vR (Q 7), vI rn, vR (Q 8), vI wn])), ((Q 1), cL E 310 a)]) (wr := []) (st := [vI i, vI p, vR (Q 1)]) gX11_coordinate_X11_corners (q9 := 0) (ci := 12) rfl rfl rfl (K_m_corners l E Q pn f0 f1 f2 f3 px py pb rg wr rn wn a p hp) hyd_X11_corners rfl [0, 1] [] rfl rfl rfl rfl rfl (by decide) ⟨rfl, rfl⟩ ⟨Nat.le_of_ble_eq_true rfl, Nat.le_of_ble_eq_true rfl, Nat.le_of_ble_eq_true rfl, Nat.le_of_ble_eq_true rfl⟩ (Nat.le_of_ble_eq_true rfl) dX11_coordinate_8 (rfl : _ = 0) (rfl : _ = 0) rfl ?_
  rintro _ _ ⟨rfl, rfl⟩
  refine g_is (ws' := [((Q 0), .inr (12, [vR (Q 1), vR (Q 2), vR (Q 3), vR (Q 4), vR (Q 5), vI pn, vR (Q 6), vL f0, vL f1, vL f2, vL f3, vL px, vL py, vL pb, vI rg, vI wr, vR (Q 7), vI rn, vR (Q 8), vI wn])), ((Q 1), cL E 310 a)]) (st' := [vI (a (225 + (17 * p))), vI i, vI p, vR (Q 1)]) rfl rfl ?_
  refine g_irem C ⟨by omega, by omega⟩ ⟨by omega, by omega⟩ (by omega) rfl dX11_coordinate_11 rfl ?_
  refine g_iload_n C 3 rfl dX11_coordinate_12 rfl ?_
  refine g_callS C (As := [vI p, vI (Int.tmod i (a (225 + (17 * p)))), vI 1]) (wc := []) (wr := [((Q 0), .inr (12, [vR (Q 1), vR (Q 2), vR (Q 3), vR (Q 4), vR (Q 5), vI pn, vR (Q 6), vL f0, vL f1, vL f2, vL f3, vL px, vL py, vL pb, vI rg, vI wr, vR (Q 7), vI rn, vR (Q 8), vI wn])), ((Q 1), cL E 310 a)]) (st := [vR (Q 1)]) gX11_coordinate_X11_cornerAt rfl (K_m_cornerAt l E p (Int.tmod i (a (225 + (17 * p)))) 1 ) hyd_X11_cornerAt rfl [] [0, 1] rfl rfl rfl rfl rfl (by decide) ⟨rfl, rfl⟩ ⟨Nat.le_of_ble_eq_true rfl, Nat.le_of_ble_eq_true rfl, Nat.le_of_ble_eq_true rfl, Nat.le_of_ble_eq_true rfl⟩ (Nat.le_of_ble_eq_true rfl) dX11_coordinate_13 (rfl : _ = 0) (rfl : _ = 0) rfl ?_
  rintro _ _ ⟨rfl, rfl⟩
  refine g_is (ws' := [((Q 0), .inr (12, [vR (Q 1), vR (Q 2), vR (Q 3), vR (Q 4), vR (Q 5), vI pn, vR (Q 6), vL f0, vL f1, vL f2, vL f3, vL px, vL py, vL pb, vI rg, vI wr, vR (Q 7), vI rn, vR (Q 8), vI wn])), ((Q 1), cL E 310 a)]) (st' := [vI (((226 + (17 * p)) + (2 * (Int.tmod i (a (225 + (17 * p)))))) + 1), vR (Q 1)]) rfl rfl ?_
  have htr := tmod_r (a := i) (b := a (225 + 17 * p)) (by omega) (by omega)
  refine g_lald C 1 rfl (by omega) (by omega) (by decide) rfl dX11_coordinate_16 rfl ?_
  refine g_top (v' := vL ((sh2 a (227 + (17 * p))) (Int.tmod i (a (225 + (17 * p)))))) (congrArg (fun z_ : Int => vL z_) (show ((sh2 a (227 + (17 * p))) (Int.tmod i (a (225 + (17 * p))))) = (a (((226 + (17 * p)) + (2 * (Int.tmod i (a (225 + (17 * p)))))) + 1)) by unfold sh2; congr 1; omega)) ?_
  exact g_lret C hr (Nat.le_of_ble_eq_true rfl) (Nat.le_of_ble_eq_true rfl) dX11_coordinate_17 ⟨rfl, rfl⟩

theorem in_X11_append_X11 : ∀ w ∈ u_ws RX11 TX11 20, w ∈ wsX11_append := by decide +kernel
theorem fd_X11_append_7 : fdk wsX11_append RX11 7 "ZoneRelayModel" RX11 TX11 20 0 := ⟨in_X11_append_X11, by decide +kernel, by decide, rfl⟩
abbrev rm_K_m_append : Room := { frames := 1, cells := 0, slots := 0, locals := 22 }
set_option maxHeartbeats 8000000 in
set_option maxRecDepth 100000 in
theorem K_m_append (l : Launch) (E : Ev) (Q : Nat → Nat) (pn f0 f1 f2 f3 px py pb rg wr rn wn : Int) (a : Int → Int) (p x y : Int) (hp : 0 ≤ p ∧ p ≤ 4) (hn : 0 ≤ a (225 + 17 * p) ∧ a (225 + 17 * p) ≤ 7) (hx : bi x) (hy : bi y) : Mc l yX11_append wsX11_append rm_K_m_append E [vR (Q 0), vI p, vI x, vI y] [((Q 0), .inr (12, [vR (Q 1), vR (Q 2), vR (Q 3), vR (Q 4), vR (Q 5), vI pn, vR (Q 6), vL f0, vL f1, vL f2, vL f3, vL px, vL py, vL pb, vI rg, vI wr, vR (Q 7), vI rn, vR (Q 8), vI wn])), ((Q 1), cL E 310 a)] 0 0 (fun v9 w9 => v9 = none ∧ w9 = [((Q 0), .inr (12, [vR (Q 1), vR (Q 2), vR (Q 3), vR (Q 4), vR (Q 5), vI pn, vR (Q 6), vL f0, vL f1, vL f2, vL f3, vL px, vL py, vL pb, vI rg, vI wr, vR (Q 7), vI rn, vR (Q 8), vI wn])), ((Q 1), cL E 310 (s_app a p x y))]) := by
  refine Mc.intro (cc := cX11_append) (maxL := 5) (ret := none) (lv0 := [(0, vR (Q 0)), (1, vI p), (2, vI x), (3, vI y)]) (by decide +kernel) rfl rfl (Nat.le_of_ble_eq_true rfl) ?_
  intro p9 e9 s9 m9 args9 below9 meth9 c9 A9 C hr hmn
  have C : Cx p9 s9 m9 args9 meth9 c9 E A9 5 cX11_append wsX11_append RX11 := C
  refine g_aload_n C 0 rfl dX11_append_0 rfl ?_
  refine g_iload_n C 1 rfl dX11_append_1 rfl ?_
  refine g_callV C (b := (Q 0)) (As := [vI p]) (wc := [((Q 0), .inr (12, [vR (Q 1), vR (Q 2), vR (Q 3), vR (Q 4), vR (Q 5), vI pn, vR (Q 6), vL f0, vL f1, vL f2, vL f3, vL px, vL py, vL pb, vI rg, vI wr, vR (Q 7), vI rn, vR (Q 8), vI wn])), ((Q 1), cL E 310 a)]) (wr := []) (st := []) gX11_append_X11_corners (q9 := 0) (ci := 12) rfl rfl rfl (K_m_corners l E Q pn f0 f1 f2 f3 px py pb rg wr rn wn a p hp) hyd_X11_corners rfl [0, 1] [] rfl rfl rfl rfl rfl (by decide) ⟨rfl, rfl⟩ ⟨Nat.le_of_ble_eq_true rfl, Nat.le_of_ble_eq_true rfl, Nat.le_of_ble_eq_true rfl, Nat.le_of_ble_eq_true rfl⟩ (Nat.le_of_ble_eq_true rfl) dX11_append_2 (rfl : _ = 0) (rfl : _ = 0) rfl ?_
  rintro _ _ ⟨rfl, rfl⟩
  refine g_is (ws' := [((Q 0), .inr (12, [vR (Q 1), vR (Q 2), vR (Q 3), vR (Q 4), vR (Q 5), vI pn, vR (Q 6), vL f0, vL f1, vL f2, vL f3, vL px, vL py, vL pb, vI rg, vI wr, vR (Q 7), vI rn, vR (Q 8), vI wn])), ((Q 1), cL E 310 a)]) (st' := [vI (a (225 + (17 * p)))]) rfl rfl ?_
  refine g_istore C (lv' := [(0, vR (Q 0)), (1, vI p), (2, vI x), (3, vI y), (4, vI (a (225 + (17 * p))))]) [1, 2, 3, 4, 0] (by decide) rfl rfl dX11_append_5 rfl ?_
  refine g_aload_n C 0 rfl dX11_append_7 rfl ?_
  refine g_get C 0 fd_X11_append_7 rfl rfl rfl dX11_append_8 rfl ?_
  refine g_iload_n C 1 rfl dX11_append_11 rfl ?_
  refine g_iload C 4 rfl dX11_append_12 rfl ?_
  refine g_iconst C dX11_append_14 rfl ?_
  refine g_callS C (As := [vI p, vI (a (225 + (17 * p))), vI 0]) (wc := []) (wr := [((Q 0), .inr (12, [vR (Q 1), vR (Q 2), vR (Q 3), vR (Q 4), vR (Q 5), vI pn, vR (Q 6), vL f0, vL f1, vL f2, vL f3, vL px, vL py, vL pb, vI rg, vI wr, vR (Q 7), vI rn, vR (Q 8), vI wn])), ((Q 1), cL E 310 a)]) (st := [vR (Q 1)]) gX11_append_X11_cornerAt rfl (K_m_cornerAt l E p (a (225 + (17 * p))) 0 ) hyd_X11_cornerAt rfl [] [0, 1] rfl rfl rfl rfl rfl (by decide) ⟨rfl, rfl⟩ ⟨Nat.le_of_ble_eq_true rfl, Nat.le_of_ble_eq_true rfl, Nat.le_of_ble_eq_true rfl, Nat.le_of_ble_eq_true rfl⟩ (Nat.le_of_ble_eq_true rfl) dX11_append_15 (rfl : _ = 0) (rfl : _ = 0) rfl ?_
  rintro _ _ ⟨rfl, rfl⟩
  refine g_is (ws' := [((Q 0), .inr (12, [vR (Q 1), vR (Q 2), vR (Q 3), vR (Q 4), vR (Q 5), vI pn, vR (Q 6), vL f0, vL f1, vL f2, vL f3, vL px, vL py, vL pb, vI rg, vI wr, vR (Q 7), vI rn, vR (Q 8), vI wn])), ((Q 1), cL E 310 a)]) (st' := [vI (((226 + (17 * p)) + (2 * (a (225 + (17 * p))))) + 0), vR (Q 1)]) rfl rfl ?_
  refine g_iload_n C 2 rfl dX11_append_18 rfl ?_
  refine g_i2l C (hx) rfl dX11_append_19 rfl ?_
  refine g_last C 1 rfl (by omega) (by omega) (by decide) (ws' := [((Q 0), .inr (12, [vR (Q 1), vR (Q 2), vR (Q 3), vR (Q 4), vR (Q 5), vI pn, vR (Q 6), vL f0, vL f1, vL f2, vL f3, vL px, vL py, vL pb, vI rg, vI wr, vR (Q 7), vI rn, vR (Q 8), vI wn])), ((Q 1), cL E 310 (ua a (((226 + (17 * p)) + (2 * (a (225 + (17 * p))))) + 0) x))]) rfl dX11_append_20 rfl ?_
  refine g_aload_n C 0 rfl dX11_append_21 rfl ?_
  refine g_get C 0 fd_X11_append_7 rfl rfl rfl dX11_append_22 rfl ?_
  refine g_iload_n C 1 rfl dX11_append_25 rfl ?_
  refine g_iload C 4 rfl dX11_append_26 rfl ?_
  refine g_iconst C dX11_append_28 rfl ?_
  refine g_callS C (As := [vI p, vI (a (225 + (17 * p))), vI 1]) (wc := []) (wr := [((Q 0), .inr (12, [vR (Q 1), vR (Q 2), vR (Q 3), vR (Q 4), vR (Q 5), vI pn, vR (Q 6), vL f0, vL f1, vL f2, vL f3, vL px, vL py, vL pb, vI rg, vI wr, vR (Q 7), vI rn, vR (Q 8), vI wn])), ((Q 1), cL E 310 (ua a (((226 + (17 * p)) + (2 * (a (225 + (17 * p))))) + 0) x))]) (st := [vR (Q 1)]) gX11_append_X11_cornerAt rfl (K_m_cornerAt l E p (a (225 + (17 * p))) 1 ) hyd_X11_cornerAt rfl [] [0, 1] rfl rfl rfl rfl rfl (by decide) ⟨rfl, rfl⟩ ⟨Nat.le_of_ble_eq_true rfl, Nat.le_of_ble_eq_true rfl, Nat.le_of_ble_eq_true rfl, Nat.le_of_ble_eq_true rfl⟩ (Nat.le_of_ble_eq_true rfl) dX11_append_29 (rfl : _ = 0) (rfl : _ = 0) rfl ?_
  rintro _ _ ⟨rfl, rfl⟩
  refine g_is (ws' := [((Q 0), .inr (12, [vR (Q 1), vR (Q 2), vR (Q 3), vR (Q 4), vR (Q 5), vI pn, vR (Q 6), vL f0, vL f1, vL f2, vL f3, vL px, vL py, vL pb, vI rg, vI wr, vR (Q 7), vI rn, vR (Q 8), vI wn])), ((Q 1), cL E 310 (ua a (((226 + (17 * p)) + (2 * (a (225 + (17 * p))))) + 0) x))]) (st' := [vI (((226 + (17 * p)) + (2 * (a (225 + (17 * p))))) + 1), vR (Q 1)]) rfl rfl ?_
  refine g_iload_n C 3 rfl dX11_append_32 rfl ?_
  refine g_i2l C (hy) rfl dX11_append_33 rfl ?_
  refine g_last C 1 rfl (by omega) (by omega) (by decide) (ws' := [((Q 0), .inr (12, [vR (Q 1), vR (Q 2), vR (Q 3), vR (Q 4), vR (Q 5), vI pn, vR (Q 6), vL f0, vL f1, vL f2, vL f3, vL px, vL py, vL pb, vI rg, vI wr, vR (Q 7), vI rn, vR (Q 8), vI wn])), ((Q 1), cL E 310 (ua (ua a (((226 + (17 * p)) + (2 * (a (225 + (17 * p))))) + 0) x) (((226 + (17 * p)) + (2 * (a (225 + (17 * p))))) + 1) y))]) rfl dX11_append_34 rfl ?_
  refine g_aload_n C 0 rfl dX11_append_35 rfl ?_
  refine g_get C 0 fd_X11_append_7 rfl rfl rfl dX11_append_36 rfl ?_
  refine g_sipush C (by decide) dX11_append_39 rfl ?_
  refine g_bipush C (by decide) dX11_append_42 rfl ?_
  refine g_iload_n C 1 rfl dX11_append_44 rfl ?_
  refine g_imul C rfl dX11_append_45 rfl ?_
  refine g_iadd C rfl dX11_append_46 rfl ?_
  refine g_dup2 C rfl rfl dX11_append_47 rfl ?_
  refine g_lald C 1 rfl (by omega) (by omega) (by decide) rfl dX11_append_48 rfl ?_
  refine g_lconst1 C dX11_append_49 rfl ?_
  refine g_ladd C rfl dX11_append_50 rfl ?_
  refine g_last C 1 rfl (by omega) (by omega) (by decide) (ws' := [((Q 0), .inr (12, [vR (Q 1), vR (Q 2), vR (Q 3), vR (Q 4), vR (Q 5), vI pn, vR (Q 6), vL f0, vL f1, vL f2, vL f3, vL px, vL py, vL pb, vI rg, vI wr, vR (Q 7), vI rn, vR (Q 8), vI wn])), ((Q 1), cL E 310 (ua (ua (ua a (((226 + (17 * p)) + (2 * (a (225 + (17 * p))))) + 0) x) (((226 + (17 * p)) + (2 * (a (225 + (17 * p))))) + 1) y) (225 + (17 * p)) (((ua (ua a (((226 + (17 * p)) + (2 * (a (225 + (17 * p))))) + 0) x) (((226 + (17 * p)) + (2 * (a (225 + (17 * p))))) + 1) y) (225 + (17 * p))) + 1)))]) rfl dX11_append_51 rfl ?_
  refine g_ws (ws' := [((Q 0), .inr (12, [vR (Q 1), vR (Q 2), vR (Q 3), vR (Q 4), vR (Q 5), vI pn, vR (Q 6), vL f0, vL f1, vL f2, vL f3, vL px, vL py, vL pb, vI rg, vI wr, vR (Q 7), vI rn, vR (Q 8), vI wn])), ((Q 1), cL E 310 (s_app a p x y))]) (congrArg (fun z_ : Nat → Int64 => ([((Q 0), .inr (12, [vR (Q 1), vR (Q 2), vR (Q 3), vR (Q 4), vR (Q 5), vI pn, vR (Q 6), vL f0, vL f1, vL f2, vL f3, vL px, vL py, vL pb, vI rg, vI wr, vR (Q 7), vI rn, vR (Q 8), vI wn])), ((Q 1), .inl (E.2.1 1, 310, .inr (.inl z_)))] : va_W)) (show AL 310 (s_app a p x y) = AL 310 (ua (ua (ua a (((226 + (17 * p)) + (2 * (a (225 + (17 * p))))) + 0) x) (((226 + (17 * p)) + (2 * (a (225 + (17 * p))))) + 1) y) (225 + (17 * p)) (((ua (ua a (((226 + (17 * p)) + (2 * (a (225 + (17 * p))))) + 0) x) (((226 + (17 * p)) + (2 * (a (225 + (17 * p))))) + 1) y) (225 + (17 * p))) + 1)) from AL_c (fun k_ k0_ k1_ => by rw [ua_ne (show 225 + 17 * p ≠ 226 + 17 * p + 2 * a (225 + 17 * p) + 1 by omega), ua_ne (show 225 + 17 * p ≠ 226 + 17 * p + 2 * a (225 + 17 * p) + 0 by omega)]; exact s_app_e k_))) ?_
  exact g_vret C hr (Nat.le_of_ble_eq_true rfl) (Nat.le_of_ble_eq_true rfl) dX11_append_52 ⟨rfl, rfl⟩

theorem hyd_X11_coordinate : yX11_coordinate.cls ≠ "java/lang/invoke/MethodHandle" ∧ yX11_coordinate.cls ≠ "java/lang/invoke/VarHandle" ∧ (parseMethodDescriptor yX11_coordinate.desc).map (fun d => d.parameters.length) = some 3 := by decide +kernel
abbrev rm_K_m_tl : Room := { frames := 2, cells := 0, slots := 0, locals := 45 }
set_option maxHeartbeats 8000000 in
set_option maxRecDepth 100000 in
theorem K_m_tl (l : Launch) (E : Ev) (Q : Nat → Nat) (pn f0 f1 f2 f3 px py pb rg wr rn wn : Int) (a : Int → Int) (p i : Int) (hp : 0 ≤ p ∧ p ≤ 4) (hn : 3 ≤ a (225 + 17 * p) ∧ a (225 + 17 * p) ≤ 8) (hi : 0 ≤ i ∧ i < a (225 + 17 * p)) (hX : cbA (sh2 a (226 + 17 * p))) (hY : cbA (sh2 a (227 + 17 * p))) : Mc l yX11_turnsLeft wsX11_turnsLeft rm_K_m_tl E [vR (Q 0), vI p, vI i] [((Q 0), .inr (12, [vR (Q 1), vR (Q 2), vR (Q 3), vR (Q 4), vR (Q 5), vI pn, vR (Q 6), vL f0, vL f1, vL f2, vL f3, vL px, vL py, vL pb, vI rg, vI wr, vR (Q 7), vI rn, vR (Q 8), vI wn])), ((Q 1), cL E 310 a)] 0 0 (fun v9 w9 => v9 = some (vI (bP (tlB (sh2 a (226 + 17 * p)) (sh2 a (227 + 17 * p)) (a (225 + 17 * p)) i = true))) ∧ w9 = [((Q 0), .inr (12, [vR (Q 1), vR (Q 2), vR (Q 3), vR (Q 4), vR (Q 5), vI pn, vR (Q 6), vL f0, vL f1, vL f2, vL f3, vL px, vL py, vL pb, vI rg, vI wr, vR (Q 7), vI rn, vR (Q 8), vI wn])), ((Q 1), cL E 310 a)]) := by
  refine Mc.intro (cc := cX11_turnsLeft) (maxL := 15) (ret := (some .boolean)) (lv0 := [(0, vR (Q 0)), (1, vI p), (2, vI i)]) (by decide +kernel) rfl rfl (Nat.le_of_ble_eq_true rfl) ?_
  intro p9 e9 s9 m9 args9 below9 meth9 c9 A9 C hr hmn
  have C : Cx p9 s9 m9 args9 meth9 c9 E A9 15 cX11_turnsLeft wsX11_turnsLeft RX11 := C
  refine g_aload_n C 0 rfl dX11_turnsLeft_0 rfl ?_
  refine g_iload_n C 1 rfl dX11_turnsLeft_1 rfl ?_
  refine g_iload_n C 2 rfl dX11_turnsLeft_2 rfl ?_
  refine g_iconst C dX11_turnsLeft_3 rfl ?_
  refine g_callV C (b := (Q 0)) (As := [vI p, vI i, vI 0]) (wc := [((Q 0), .inr (12, [vR (Q 1), vR (Q 2), vR (Q 3), vR (Q 4), vR (Q 5), vI pn, vR (Q 6), vL f0, vL f1, vL f2, vL f3, vL px, vL py, vL pb, vI rg, vI wr, vR (Q 7), vI rn, vR (Q 8), vI wn])), ((Q 1), cL E 310 a)]) (wr := []) (st := []) gX11_turnsLeft_X11_coordinate (q9 := 0) (ci := 12) rfl rfl rfl (K_m_coord0 l E Q pn f0 f1 f2 f3 px py pb rg wr rn wn a p i hp (by first | assumption | omega) (by first | assumption | omega)) hyd_X11_coordinate rfl [0, 1] [] rfl rfl rfl rfl rfl (by decide) ⟨rfl, rfl⟩ ⟨Nat.le_of_ble_eq_true rfl, Nat.le_of_ble_eq_true rfl, Nat.le_of_ble_eq_true rfl, Nat.le_of_ble_eq_true rfl⟩ (Nat.le_of_ble_eq_true rfl) dX11_turnsLeft_4 (rfl : _ = 0) (rfl : _ = 0) rfl ?_
  rintro _ _ ⟨rfl, rfl⟩
  refine g_is (ws' := [((Q 0), .inr (12, [vR (Q 1), vR (Q 2), vR (Q 3), vR (Q 4), vR (Q 5), vI pn, vR (Q 6), vL f0, vL f1, vL f2, vL f3, vL px, vL py, vL pb, vI rg, vI wr, vR (Q 7), vI rn, vR (Q 8), vI wn])), ((Q 1), cL E 310 a)]) (st' := [vL ((sh2 a (226 + (17 * p))) (Int.tmod i (a (225 + (17 * p)))))]) rfl rfl ?_
  refine g_lstore_n C (lv' := [(0, vR (Q 0)), (1, vI p), (2, vI i), (3, vL ((sh2 a (226 + (17 * p))) (Int.tmod i (a (225 + (17 * p))))))]) [1, 2, 3, 0] (by decide) rfl rfl dX11_turnsLeft_7 rfl ?_
  refine g_aload_n C 0 rfl dX11_turnsLeft_8 rfl ?_
  refine g_iload_n C 1 rfl dX11_turnsLeft_9 rfl ?_
  refine g_iload_n C 2 rfl dX11_turnsLeft_10 rfl ?_
  refine g_iconst C dX11_turnsLeft_11 rfl ?_
  refine g_callV C (b := (Q 0)) (As := [vI p, vI i, vI 1]) (wc := [((Q 0), .inr (12, [vR (Q 1), vR (Q 2), vR (Q 3), vR (Q 4), vR (Q 5), vI pn, vR (Q 6), vL f0, vL f1, vL f2, vL f3, vL px, vL py, vL pb, vI rg, vI wr, vR (Q 7), vI rn, vR (Q 8), vI wn])), ((Q 1), cL E 310 a)]) (wr := []) (st := []) gX11_turnsLeft_X11_coordinate (q9 := 0) (ci := 12) rfl rfl rfl (K_m_coord1 l E Q pn f0 f1 f2 f3 px py pb rg wr rn wn a p i hp (by first | assumption | omega) (by first | assumption | omega)) hyd_X11_coordinate rfl [0, 1] [] rfl rfl rfl rfl rfl (by decide) ⟨rfl, rfl⟩ ⟨Nat.le_of_ble_eq_true rfl, Nat.le_of_ble_eq_true rfl, Nat.le_of_ble_eq_true rfl, Nat.le_of_ble_eq_true rfl⟩ (Nat.le_of_ble_eq_true rfl) dX11_turnsLeft_12 (rfl : _ = 0) (rfl : _ = 0) rfl ?_
  rintro _ _ ⟨rfl, rfl⟩
  refine g_is (ws' := [((Q 0), .inr (12, [vR (Q 1), vR (Q 2), vR (Q 3), vR (Q 4), vR (Q 5), vI pn, vR (Q 6), vL f0, vL f1, vL f2, vL f3, vL px, vL py, vL pb, vI rg, vI wr, vR (Q 7), vI rn, vR (Q 8), vI wn])), ((Q 1), cL E 310 a)]) (st' := [vL ((sh2 a (227 + (17 * p))) (Int.tmod i (a (225 + (17 * p)))))]) rfl rfl ?_
  refine g_lstore C (lv' := [(0, vR (Q 0)), (1, vI p), (2, vI i), (3, vL ((sh2 a (226 + (17 * p))) (Int.tmod i (a (225 + (17 * p)))))), (5, vL ((sh2 a (227 + (17 * p))) (Int.tmod i (a (225 + (17 * p))))))]) [1, 2, 3, 4, 0] (by decide) rfl rfl dX11_turnsLeft_15 rfl ?_
  refine g_aload_n C 0 rfl dX11_turnsLeft_17 rfl ?_
  refine g_iload_n C 1 rfl dX11_turnsLeft_18 rfl ?_
  refine g_iload_n C 2 rfl dX11_turnsLeft_19 rfl ?_
  refine g_iconst C dX11_turnsLeft_20 rfl ?_
  refine g_iadd C rfl dX11_turnsLeft_21 rfl ?_
  refine g_iconst C dX11_turnsLeft_22 rfl ?_
  refine g_callV C (b := (Q 0)) (As := [vI p, vI (i + 1), vI 0]) (wc := [((Q 0), .inr (12, [vR (Q 1), vR (Q 2), vR (Q 3), vR (Q 4), vR (Q 5), vI pn, vR (Q 6), vL f0, vL f1, vL f2, vL f3, vL px, vL py, vL pb, vI rg, vI wr, vR (Q 7), vI rn, vR (Q 8), vI wn])), ((Q 1), cL E 310 a)]) (wr := []) (st := []) gX11_turnsLeft_X11_coordinate (q9 := 0) (ci := 12) rfl rfl rfl (K_m_coord0 l E Q pn f0 f1 f2 f3 px py pb rg wr rn wn a p (i + 1) hp (by first | assumption | omega) (by first | assumption | omega)) hyd_X11_coordinate rfl [0, 1] [] rfl rfl rfl rfl rfl (by decide) ⟨rfl, rfl⟩ ⟨Nat.le_of_ble_eq_true rfl, Nat.le_of_ble_eq_true rfl, Nat.le_of_ble_eq_true rfl, Nat.le_of_ble_eq_true rfl⟩ (Nat.le_of_ble_eq_true rfl) dX11_turnsLeft_23 (rfl : _ = 0) (rfl : _ = 0) rfl ?_
  rintro _ _ ⟨rfl, rfl⟩
  refine g_is (ws' := [((Q 0), .inr (12, [vR (Q 1), vR (Q 2), vR (Q 3), vR (Q 4), vR (Q 5), vI pn, vR (Q 6), vL f0, vL f1, vL f2, vL f3, vL px, vL py, vL pb, vI rg, vI wr, vR (Q 7), vI rn, vR (Q 8), vI wn])), ((Q 1), cL E 310 a)]) (st' := [vL ((sh2 a (226 + (17 * p))) (Int.tmod (i + 1) (a (225 + (17 * p)))))]) rfl rfl ?_
  refine g_lstore C (lv' := [(0, vR (Q 0)), (1, vI p), (2, vI i), (3, vL ((sh2 a (226 + (17 * p))) (Int.tmod i (a (225 + (17 * p)))))), (5, vL ((sh2 a (227 + (17 * p))) (Int.tmod i (a (225 + (17 * p)))))), (7, vL ((sh2 a (226 + (17 * p))) (Int.tmod (i + 1) (a (225 + (17 * p))))))]) [1, 2, 3, 4, 5, 0] (by decide) rfl rfl dX11_turnsLeft_26 rfl ?_
  refine g_aload_n C 0 rfl dX11_turnsLeft_28 rfl ?_
  refine g_iload_n C 1 rfl dX11_turnsLeft_29 rfl ?_
  refine g_iload_n C 2 rfl dX11_turnsLeft_30 rfl ?_
  refine g_iconst C dX11_turnsLeft_31 rfl ?_
  refine g_iadd C rfl dX11_turnsLeft_32 rfl ?_
  refine g_iconst C dX11_turnsLeft_33 rfl ?_
  refine g_callV C (b := (Q 0)) (As := [vI p, vI (i + 1), vI 1]) (wc := [((Q 0), .inr (12, [vR (Q 1), vR (Q 2), vR (Q 3), vR (Q 4), vR (Q 5), vI pn, vR (Q 6), vL f0, vL f1, vL f2, vL f3, vL px, vL py, vL pb, vI rg, vI wr, vR (Q 7), vI rn, vR (Q 8), vI wn])), ((Q 1), cL E 310 a)]) (wr := []) (st := []) gX11_turnsLeft_X11_coordinate (q9 := 0) (ci := 12) rfl rfl rfl (K_m_coord1 l E Q pn f0 f1 f2 f3 px py pb rg wr rn wn a p (i + 1) hp (by first | assumption | omega) (by first | assumption | omega)) hyd_X11_coordinate rfl [0, 1] [] rfl rfl rfl rfl rfl (by decide) ⟨rfl, rfl⟩ ⟨Nat.le_of_ble_eq_true rfl, Nat.le_of_ble_eq_true rfl, Nat.le_of_ble_eq_true rfl, Nat.le_of_ble_eq_true rfl⟩ (Nat.le_of_ble_eq_true rfl) dX11_turnsLeft_34 (rfl : _ = 0) (rfl : _ = 0) rfl ?_
  rintro _ _ ⟨rfl, rfl⟩
  refine g_is (ws' := [((Q 0), .inr (12, [vR (Q 1), vR (Q 2), vR (Q 3), vR (Q 4), vR (Q 5), vI pn, vR (Q 6), vL f0, vL f1, vL f2, vL f3, vL px, vL py, vL pb, vI rg, vI wr, vR (Q 7), vI rn, vR (Q 8), vI wn])), ((Q 1), cL E 310 a)]) (st' := [vL ((sh2 a (227 + (17 * p))) (Int.tmod (i + 1) (a (225 + (17 * p)))))]) rfl rfl ?_
  refine g_lstore C (lv' := [(0, vR (Q 0)), (1, vI p), (2, vI i), (3, vL ((sh2 a (226 + (17 * p))) (Int.tmod i (a (225 + (17 * p)))))), (5, vL ((sh2 a (227 + (17 * p))) (Int.tmod i (a (225 + (17 * p)))))), (7, vL ((sh2 a (226 + (17 * p))) (Int.tmod (i + 1) (a (225 + (17 * p)))))), (9, vL ((sh2 a (227 + (17 * p))) (Int.tmod (i + 1) (a (225 + (17 * p))))))]) [1, 2, 3, 4, 5, 6, 0] (by decide) rfl rfl dX11_turnsLeft_37 rfl ?_
  refine g_aload_n C 0 rfl dX11_turnsLeft_39 rfl ?_
  refine g_iload_n C 1 rfl dX11_turnsLeft_40 rfl ?_
  refine g_iload_n C 2 rfl dX11_turnsLeft_41 rfl ?_
  refine g_iconst C dX11_turnsLeft_42 rfl ?_
  refine g_iadd C rfl dX11_turnsLeft_43 rfl ?_
  refine g_iconst C dX11_turnsLeft_44 rfl ?_
  refine g_callV C (b := (Q 0)) (As := [vI p, vI (i + 2), vI 0]) (wc := [((Q 0), .inr (12, [vR (Q 1), vR (Q 2), vR (Q 3), vR (Q 4), vR (Q 5), vI pn, vR (Q 6), vL f0, vL f1, vL f2, vL f3, vL px, vL py, vL pb, vI rg, vI wr, vR (Q 7), vI rn, vR (Q 8), vI wn])), ((Q 1), cL E 310 a)]) (wr := []) (st := []) gX11_turnsLeft_X11_coordinate (q9 := 0) (ci := 12) rfl rfl rfl (K_m_coord0 l E Q pn f0 f1 f2 f3 px py pb rg wr rn wn a p (i + 2) hp (by first | assumption | omega) (by first | assumption | omega)) hyd_X11_coordinate rfl [0, 1] [] rfl rfl rfl rfl rfl (by decide) ⟨rfl, rfl⟩ ⟨Nat.le_of_ble_eq_true rfl, Nat.le_of_ble_eq_true rfl, Nat.le_of_ble_eq_true rfl, Nat.le_of_ble_eq_true rfl⟩ (Nat.le_of_ble_eq_true rfl) dX11_turnsLeft_45 (rfl : _ = 0) (rfl : _ = 0) rfl ?_
  rintro _ _ ⟨rfl, rfl⟩
  refine g_is (ws' := [((Q 0), .inr (12, [vR (Q 1), vR (Q 2), vR (Q 3), vR (Q 4), vR (Q 5), vI pn, vR (Q 6), vL f0, vL f1, vL f2, vL f3, vL px, vL py, vL pb, vI rg, vI wr, vR (Q 7), vI rn, vR (Q 8), vI wn])), ((Q 1), cL E 310 a)]) (st' := [vL ((sh2 a (226 + (17 * p))) (Int.tmod (i + 2) (a (225 + (17 * p)))))]) rfl rfl ?_
  refine g_lstore C (lv' := [(0, vR (Q 0)), (1, vI p), (2, vI i), (3, vL ((sh2 a (226 + (17 * p))) (Int.tmod i (a (225 + (17 * p)))))), (5, vL ((sh2 a (227 + (17 * p))) (Int.tmod i (a (225 + (17 * p)))))), (7, vL ((sh2 a (226 + (17 * p))) (Int.tmod (i + 1) (a (225 + (17 * p)))))), (9, vL ((sh2 a (227 + (17 * p))) (Int.tmod (i + 1) (a (225 + (17 * p)))))), (11, vL ((sh2 a (226 + (17 * p))) (Int.tmod (i + 2) (a (225 + (17 * p))))))]) [1, 2, 3, 4, 5, 6, 7, 0] (by decide) rfl rfl dX11_turnsLeft_48 rfl ?_
  refine g_aload_n C 0 rfl dX11_turnsLeft_50 rfl ?_
  refine g_iload_n C 1 rfl dX11_turnsLeft_51 rfl ?_
  refine g_iload_n C 2 rfl dX11_turnsLeft_52 rfl ?_
  refine g_iconst C dX11_turnsLeft_53 rfl ?_
  refine g_iadd C rfl dX11_turnsLeft_54 rfl ?_
  refine g_iconst C dX11_turnsLeft_55 rfl ?_
  refine g_callV C (b := (Q 0)) (As := [vI p, vI (i + 2), vI 1]) (wc := [((Q 0), .inr (12, [vR (Q 1), vR (Q 2), vR (Q 3), vR (Q 4), vR (Q 5), vI pn, vR (Q 6), vL f0, vL f1, vL f2, vL f3, vL px, vL py, vL pb, vI rg, vI wr, vR (Q 7), vI rn, vR (Q 8), vI wn])), ((Q 1), cL E 310 a)]) (wr := []) (st := []) gX11_turnsLeft_X11_coordinate (q9 := 0) (ci := 12) rfl rfl rfl (K_m_coord1 l E Q pn f0 f1 f2 f3 px py pb rg wr rn wn a p (i + 2) hp (by first | assumption | omega) (by first | assumption | omega)) hyd_X11_coordinate rfl [0, 1] [] rfl rfl rfl rfl rfl (by decide) ⟨rfl, rfl⟩ ⟨Nat.le_of_ble_eq_true rfl, Nat.le_of_ble_eq_true rfl, Nat.le_of_ble_eq_true rfl, Nat.le_of_ble_eq_true rfl⟩ (Nat.le_of_ble_eq_true rfl) dX11_turnsLeft_56 (rfl : _ = 0) (rfl : _ = 0) rfl ?_
  rintro _ _ ⟨rfl, rfl⟩
  refine g_is (ws' := [((Q 0), .inr (12, [vR (Q 1), vR (Q 2), vR (Q 3), vR (Q 4), vR (Q 5), vI pn, vR (Q 6), vL f0, vL f1, vL f2, vL f3, vL px, vL py, vL pb, vI rg, vI wr, vR (Q 7), vI rn, vR (Q 8), vI wn])), ((Q 1), cL E 310 a)]) (st' := [vL ((sh2 a (227 + (17 * p))) (Int.tmod (i + 2) (a (225 + (17 * p)))))]) rfl rfl ?_
  refine g_lstore C (lv' := [(0, vR (Q 0)), (1, vI p), (2, vI i), (3, vL ((sh2 a (226 + (17 * p))) (Int.tmod i (a (225 + (17 * p)))))), (5, vL ((sh2 a (227 + (17 * p))) (Int.tmod i (a (225 + (17 * p)))))), (7, vL ((sh2 a (226 + (17 * p))) (Int.tmod (i + 1) (a (225 + (17 * p)))))), (9, vL ((sh2 a (227 + (17 * p))) (Int.tmod (i + 1) (a (225 + (17 * p)))))), (11, vL ((sh2 a (226 + (17 * p))) (Int.tmod (i + 2) (a (225 + (17 * p)))))), (13, vL ((sh2 a (227 + (17 * p))) (Int.tmod (i + 2) (a (225 + (17 * p))))))]) [1, 2, 3, 4, 5, 6, 7, 8, 0] (by decide) rfl rfl dX11_turnsLeft_59 rfl ?_
  refine g_lload C 5 rfl dX11_turnsLeft_61 rfl ?_
  refine g_lload_n C 3 rfl dX11_turnsLeft_63 rfl ?_
  refine g_lsub C rfl dX11_turnsLeft_64 rfl ?_
  refine g_lload C 8 rfl dX11_turnsLeft_65 rfl ?_
  refine g_lload C 6 rfl dX11_turnsLeft_67 rfl ?_
  refine g_lsub C rfl dX11_turnsLeft_69 rfl ?_
  refine g_lmul C rfl dX11_turnsLeft_70 rfl ?_
  refine g_lload C 6 rfl dX11_turnsLeft_71 rfl ?_
  refine g_lload C 4 rfl dX11_turnsLeft_73 rfl ?_
  refine g_lsub C rfl dX11_turnsLeft_75 rfl ?_
  refine g_lload C 7 rfl dX11_turnsLeft_76 rfl ?_
  refine g_lload C 5 rfl dX11_turnsLeft_78 rfl ?_
  refine g_lsub C rfl dX11_turnsLeft_80 rfl ?_
  refine g_lmul C rfl dX11_turnsLeft_81 rfl ?_
  refine g_lsub C rfl dX11_turnsLeft_82 rfl ?_
  have t3 := tm_3 (n := a (225 + 17 * p)) hi.1 hi.2 hn.1
  refine g_top (v' := vL (trn (sh2 a (226 + (17 * p))) (sh2 a (227 + (17 * p))) (a (225 + (17 * p))) i)) (congrArg (fun z_ : Int => vL z_) (show (trn (sh2 a (226 + (17 * p))) (sh2 a (227 + (17 * p))) (a (225 + (17 * p))) i) = (((((sh2 a (226 + (17 * p))) (Int.tmod (i + 1) (a (225 + (17 * p))))) - ((sh2 a (226 + (17 * p))) (Int.tmod i (a (225 + (17 * p)))))) * (((sh2 a (227 + (17 * p))) (Int.tmod (i + 2) (a (225 + (17 * p))))) - ((sh2 a (227 + (17 * p))) (Int.tmod (i + 1) (a (225 + (17 * p))))))) - ((((sh2 a (227 + (17 * p))) (Int.tmod (i + 1) (a (225 + (17 * p))))) - ((sh2 a (227 + (17 * p))) (Int.tmod i (a (225 + (17 * p)))))) * (((sh2 a (226 + (17 * p))) (Int.tmod (i + 2) (a (225 + (17 * p))))) - ((sh2 a (226 + (17 * p))) (Int.tmod (i + 1) (a (225 + (17 * p)))))))) by rw [t3.1, t3.2.1, t3.2.2]; rfl)) ?_
  have tb := trn_b (n := a (225 + 17 * p)) hX hY (by omega) hi
  refine g_lconst0 C dX11_turnsLeft_83 rfl ?_
  refine g_lcmp_le C ⟨by omega, by omega⟩ ⟨by decide, by decide⟩ dX11_turnsLeft_84 rfl (tgt := 92) dX11_turnsLeft_85 (by decide) rfl (fun c_1 => ?_) (fun c_1 => ?_)
  · refine g_iconst C dX11_turnsLeft_92 rfl ?_
    refine g_top (v' := vI (bP (tlB (sh2 a (226 + 17 * p)) (sh2 a (227 + 17 * p)) (a (225 + 17 * p)) i = true))) (congrArg (fun z_ : Int => vI z_) (show (bP (tlB (sh2 a (226 + 17 * p)) (sh2 a (227 + 17 * p)) (a (225 + 17 * p)) i = true)) = 0 by unfold tlB; first | exact bP_t (decide_eq_true (by omega)) | exact bP_f (by simp only [decide_eq_true_eq]; omega))) ?_
    exact g_iret C hr (nrZ _) (Nat.le_of_ble_eq_true rfl) (Nat.le_of_ble_eq_true rfl) dX11_turnsLeft_93 ⟨rfl, rfl⟩
  refine g_iconst C dX11_turnsLeft_88 rfl ?_
  refine g_goto C (pc' := 93) dX11_turnsLeft_89 (by decide) ?_
  refine g_top (v' := vI (bP (tlB (sh2 a (226 + 17 * p)) (sh2 a (227 + 17 * p)) (a (225 + 17 * p)) i = true))) (congrArg (fun z_ : Int => vI z_) (show (bP (tlB (sh2 a (226 + 17 * p)) (sh2 a (227 + 17 * p)) (a (225 + 17 * p)) i = true)) = 1 by unfold tlB; first | exact bP_t (decide_eq_true (by omega)) | exact bP_f (by simp only [decide_eq_true_eq]; omega))) ?_
  exact g_iret C hr (nrZ _) (Nat.le_of_ble_eq_true rfl) (Nat.le_of_ble_eq_true rfl) dX11_turnsLeft_93 ⟨rfl, rfl⟩

abbrev rm_K_m_signs : Room := { frames := 2, cells := 0, slots := 0, locals := 45 }
set_option maxHeartbeats 8000000 in
set_option maxRecDepth 100000 in
theorem K_m_signs (l : Launch) (E : Ev) (Q : Nat → Nat) (pn f0 f1 f2 f3 px py pb rg wr rn wn : Int) (a : Int → Int) (p : Int) (hp : 0 ≤ p ∧ p ≤ 4) (hn : 3 ≤ a (225 + 17 * p) ∧ a (225 + 17 * p) ≤ 8) (hX : cbA (sh2 a (226 + 17 * p))) (hY : cbA (sh2 a (227 + 17 * p))) : Mc l yX11_signChanges wsX11_signChanges rm_K_m_signs E [vR (Q 0), vI p] [((Q 0), .inr (12, [vR (Q 1), vR (Q 2), vR (Q 3), vR (Q 4), vR (Q 5), vI pn, vR (Q 6), vL f0, vL f1, vL f2, vL f3, vL px, vL py, vL pb, vI rg, vI wr, vR (Q 7), vI rn, vR (Q 8), vI wn])), ((Q 1), cL E 310 a)] 0 0 (fun v9 w9 => v9 = some (vI (yturns (sh2 a (227 + (17 * p))) (a (225 + (17 * p))))) ∧ w9 = [((Q 0), .inr (12, [vR (Q 1), vR (Q 2), vR (Q 3), vR (Q 4), vR (Q 5), vI pn, vR (Q 6), vL f0, vL f1, vL f2, vL f3, vL px, vL py, vL pb, vI rg, vI wr, vR (Q 7), vI rn, vR (Q 8), vI wn])), ((Q 1), cL E 310 a)]) := by
  refine Mc.intro (cc := cX11_signChanges) (maxL := 9) (ret := (some .int)) (lv0 := [(0, vR (Q 0)), (1, vI p)]) (by decide +kernel) rfl rfl (Nat.le_of_ble_eq_true rfl) ?_
  intro p9 e9 s9 m9 args9 below9 meth9 c9 A9 C hr hmn
  have C : Cx p9 s9 m9 args9 meth9 c9 E A9 9 cX11_signChanges wsX11_signChanges RX11 := C
  refine g_aload_n C 0 rfl dX11_signChanges_0 rfl ?_
  refine g_iload_n C 1 rfl dX11_signChanges_1 rfl ?_
  refine g_callV C (b := (Q 0)) (As := [vI p]) (wc := [((Q 0), .inr (12, [vR (Q 1), vR (Q 2), vR (Q 3), vR (Q 4), vR (Q 5), vI pn, vR (Q 6), vL f0, vL f1, vL f2, vL f3, vL px, vL py, vL pb, vI rg, vI wr, vR (Q 7), vI rn, vR (Q 8), vI wn])), ((Q 1), cL E 310 a)]) (wr := []) (st := []) gX11_signChanges_X11_corners (q9 := 0) (ci := 12) rfl rfl rfl (K_m_corners l E Q pn f0 f1 f2 f3 px py pb rg wr rn wn a p hp) hyd_X11_corners rfl [0, 1] [] rfl rfl rfl rfl rfl (by decide) ⟨rfl, rfl⟩ ⟨Nat.le_of_ble_eq_true rfl, Nat.le_of_ble_eq_true rfl, Nat.le_of_ble_eq_true rfl, Nat.le_of_ble_eq_true rfl⟩ (Nat.le_of_ble_eq_true rfl) dX11_signChanges_2 (rfl : _ = 0) (rfl : _ = 0) rfl ?_
  rintro _ _ ⟨rfl, rfl⟩
  refine g_is (ws' := [((Q 0), .inr (12, [vR (Q 1), vR (Q 2), vR (Q 3), vR (Q 4), vR (Q 5), vI pn, vR (Q 6), vL f0, vL f1, vL f2, vL f3, vL px, vL py, vL pb, vI rg, vI wr, vR (Q 7), vI rn, vR (Q 8), vI wn])), ((Q 1), cL E 310 a)]) (st' := [vI (a (225 + (17 * p)))]) rfl rfl ?_
  refine g_istore_n C (lv' := [(0, vR (Q 0)), (1, vI p), (2, vI (a (225 + (17 * p))))]) [1, 2, 0] (by decide) rfl rfl dX11_signChanges_5 rfl ?_
  refine g_iconst C dX11_signChanges_6 rfl ?_
  refine g_istore_n C (lv' := [(0, vR (Q 0)), (1, vI p), (2, vI (a (225 + (17 * p)))), (3, vI 0)]) [1, 2, 3, 0] (by decide) rfl rfl dX11_signChanges_7 rfl ?_
  refine g_iconst C dX11_signChanges_8 rfl ?_
  refine g_istore C (lv' := [(0, vR (Q 0)), (1, vI p), (2, vI (a (225 + (17 * p)))), (3, vI 0), (4, vI 0)]) [1, 2, 3, 4, 0] (by decide) rfl rfl dX11_signChanges_9 rfl ?_
  refine g_iconst C dX11_signChanges_11 rfl ?_
  refine g_istore C (lv' := [(0, vR (Q 0)), (1, vI p), (2, vI (a (225 + (17 * p)))), (3, vI 0), (4, vI 0), (5, vI 0)]) [1, 2, 3, 4, 5, 0] (by decide) rfl rfl dX11_signChanges_12 rfl ?_
  have hL_14 : ∀ (fuel : Nat) (k : Int) (h0 : 0 ≤ k) (h1 : k ≤ 2 * a (225 + 17 * p)) (hfu : (2 * a (225 + 17 * p) - k).toNat = fuel), G p9 l e9 rm_K_m_signs s9 m9 args9 below9 meth9 c9 (RQ E (fun v9 w9 => v9 = some (vI (yturns (sh2 a (227 + (17 * p))) (a (225 + (17 * p))))) ∧ w9 = [((Q 0), .inr (12, [vR (Q 1), vR (Q 2), vR (Q 3), vR (Q 4), vR (Q 5), vI pn, vR (Q 6), vL f0, vL f1, vL f2, vL f3, vL px, vL py, vL pb, vI rg, vI wr, vR (Q 7), vI rn, vR (Q 8), vI wn])), ((Q 1), cL E 310 a)]) A9 below9 args9 s9 0 0) E A9 9 0 0 [((Q 0), .inr (12, [vR (Q 1), vR (Q 2), vR (Q 3), vR (Q 4), vR (Q 5), vI pn, vR (Q 6), vL f0, vL f1, vL f2, vL f3, vL px, vL py, vL pb, vI rg, vI wr, vR (Q 7), vI rn, vR (Q 8), vI wn])), ((Q 1), cL E 310 a)] [(0, vR (Q 0)), (1, vI p), (2, vI (a (225 + (17 * p)))), (3, vI (chg (gsg (sh2 a (227 + (17 * p))) (a (225 + (17 * p)))) (a (225 + (17 * p))) (Int.toNat k))), (4, vI (lsg (gsg (sh2 a (227 + (17 * p))) (a (225 + (17 * p)))) 0 (Int.toNat k))), (5, vI k)] 14 [] := by
    intro fuel
    induction fuel using Nat.strongRecOn with
    | ind fuel ih =>
      intro k h0 h1 hfu
      refine g_iload C 5 rfl dX11_signChanges_14 rfl ?_
      refine g_iconst C dX11_signChanges_16 rfl ?_
      refine g_iload_n C 2 rfl dX11_signChanges_17 rfl ?_
      refine g_imul C rfl dX11_signChanges_18 rfl ?_
      refine g_icmp_ge C (tgt := 119) ⟨by omega, by omega⟩ ⟨by omega, by omega⟩ dX11_signChanges_19 (by decide) rfl (fun c_1 => ?_) (fun c_1 => ?_)
      · refine g_iload_n C 3 rfl dX11_signChanges_119 rfl ?_
        refine g_top (v' := vI (yturns (sh2 a (227 + (17 * p))) (a (225 + (17 * p))))) (congrArg (fun z_ : Int => vI z_) (show (yturns (sh2 a (227 + (17 * p))) (a (225 + (17 * p)))) = (chg (gsg (sh2 a (227 + (17 * p))) (a (225 + (17 * p)))) (a (225 + (17 * p))) (Int.toNat k)) by rw [show k = 2 * a (225 + 17 * p) by omega]; exact (chg_yt (by omega)).symm)) ?_
        exact g_iret C hr rfl (Nat.le_of_ble_eq_true rfl) (Nat.le_of_ble_eq_true rfl) dX11_signChanges_120 ⟨rfl, rfl⟩
      refine g_aload_n C 0 rfl dX11_signChanges_22 rfl ?_
      refine g_iload_n C 1 rfl dX11_signChanges_23 rfl ?_
      refine g_iload C 5 rfl dX11_signChanges_24 rfl ?_
      refine g_iconst C dX11_signChanges_26 rfl ?_
      refine g_iadd C rfl dX11_signChanges_27 rfl ?_
      refine g_iconst C dX11_signChanges_28 rfl ?_
      refine g_callV C (b := (Q 0)) (As := [vI p, vI (k + 1), vI 1]) (wc := [((Q 0), .inr (12, [vR (Q 1), vR (Q 2), vR (Q 3), vR (Q 4), vR (Q 5), vI pn, vR (Q 6), vL f0, vL f1, vL f2, vL f3, vL px, vL py, vL pb, vI rg, vI wr, vR (Q 7), vI rn, vR (Q 8), vI wn])), ((Q 1), cL E 310 a)]) (wr := []) (st := []) gX11_signChanges_X11_coordinate (q9 := 0) (ci := 12) rfl rfl rfl (K_m_coord1 l E Q pn f0 f1 f2 f3 px py pb rg wr rn wn a p (k + 1) hp (by first | assumption | omega) (by first | assumption | omega)) hyd_X11_coordinate rfl [0, 1] [] rfl rfl rfl rfl rfl (by decide) ⟨rfl, rfl⟩ ⟨Nat.le_of_ble_eq_true rfl, Nat.le_of_ble_eq_true rfl, Nat.le_of_ble_eq_true rfl, Nat.le_of_ble_eq_true rfl⟩ (Nat.le_of_ble_eq_true rfl) dX11_signChanges_29 (rfl : _ = 0) (rfl : _ = 0) rfl ?_
      rintro _ _ ⟨rfl, rfl⟩
      refine g_is (ws' := [((Q 0), .inr (12, [vR (Q 1), vR (Q 2), vR (Q 3), vR (Q 4), vR (Q 5), vI pn, vR (Q 6), vL f0, vL f1, vL f2, vL f3, vL px, vL py, vL pb, vI rg, vI wr, vR (Q 7), vI rn, vR (Q 8), vI wn])), ((Q 1), cL E 310 a)]) (st' := [vL ((sh2 a (227 + (17 * p))) (Int.tmod (k + 1) (a (225 + (17 * p)))))]) rfl rfl ?_
      refine g_aload_n C 0 rfl dX11_signChanges_32 rfl ?_
      refine g_iload_n C 1 rfl dX11_signChanges_33 rfl ?_
      refine g_iload C 5 rfl dX11_signChanges_34 rfl ?_
      refine g_iconst C dX11_signChanges_36 rfl ?_
      refine g_callV C (b := (Q 0)) (As := [vI p, vI k, vI 1]) (wc := [((Q 0), .inr (12, [vR (Q 1), vR (Q 2), vR (Q 3), vR (Q 4), vR (Q 5), vI pn, vR (Q 6), vL f0, vL f1, vL f2, vL f3, vL px, vL py, vL pb, vI rg, vI wr, vR (Q 7), vI rn, vR (Q 8), vI wn])), ((Q 1), cL E 310 a)]) (wr := []) (st := [vL ((sh2 a (227 + (17 * p))) (Int.tmod (k + 1) (a (225 + (17 * p)))))]) gX11_signChanges_X11_coordinate (q9 := 0) (ci := 12) rfl rfl rfl (K_m_coord1 l E Q pn f0 f1 f2 f3 px py pb rg wr rn wn a p k hp (by first | assumption | omega) (by first | assumption | omega)) hyd_X11_coordinate rfl [0, 1] [] rfl rfl rfl rfl rfl (by decide) ⟨rfl, rfl⟩ ⟨Nat.le_of_ble_eq_true rfl, Nat.le_of_ble_eq_true rfl, Nat.le_of_ble_eq_true rfl, Nat.le_of_ble_eq_true rfl⟩ (Nat.le_of_ble_eq_true rfl) dX11_signChanges_37 (rfl : _ = 0) (rfl : _ = 0) rfl ?_
      rintro _ _ ⟨rfl, rfl⟩
      refine g_is (ws' := [((Q 0), .inr (12, [vR (Q 1), vR (Q 2), vR (Q 3), vR (Q 4), vR (Q 5), vI pn, vR (Q 6), vL f0, vL f1, vL f2, vL f3, vL px, vL py, vL pb, vI rg, vI wr, vR (Q 7), vI rn, vR (Q 8), vI wn])), ((Q 1), cL E 310 a)]) (st' := [vL ((sh2 a (227 + (17 * p))) (Int.tmod k (a (225 + (17 * p))))), vL ((sh2 a (227 + (17 * p))) (Int.tmod (k + 1) (a (225 + (17 * p)))))]) rfl rfl ?_
      refine g_lsub C rfl dX11_signChanges_40 rfl ?_
      refine g_lstore C (lv' := [(0, vR (Q 0)), (1, vI p), (2, vI (a (225 + (17 * p)))), (3, vI (chg (gsg (sh2 a (227 + (17 * p))) (a (225 + (17 * p)))) (a (225 + (17 * p))) (Int.toNat k))), (4, vI (lsg (gsg (sh2 a (227 + (17 * p))) (a (225 + (17 * p)))) 0 (Int.toNat k))), (5, vI k), (6, vL (((sh2 a (227 + (17 * p))) (Int.tmod (k + 1) (a (225 + (17 * p))))) - ((sh2 a (227 + (17 * p))) (Int.tmod k (a (225 + (17 * p)))))))]) [1, 2, 3, 4, 5, 6, 0] (by decide) rfl rfl dX11_signChanges_41 rfl ?_
      have ta := tmod_r (a := k) (b := a (225 + 17 * p)) (by omega) (by omega)
      have tb := tmod_r (a := k + 1) (b := a (225 + 17 * p)) (by omega) (by omega)
      have ya := hY (Int.tmod k (a (225 + 17 * p))) (by omega) (by omega)
      have yb := hY (Int.tmod (k + 1) (a (225 + 17 * p))) (by omega) (by omega)
      have lb := lsg_r (f := gsg (sh2 a (227 + 17 * p)) (a (225 + 17 * p))) (b := 0) (by decide) (gsg_r _ _) (Int.toNat k)
      have cb9 := chg_b (g := gsg (sh2 a (227 + 17 * p)) (a (225 + 17 * p))) (n := a (225 + 17 * p)) (Int.toNat k)
      refine g_lload C 6 rfl dX11_signChanges_43 rfl ?_
      refine g_lconst0 C dX11_signChanges_45 rfl ?_
      refine g_lcmp_le C ⟨by omega, by omega⟩ ⟨by decide, by decide⟩ dX11_signChanges_46 rfl (tgt := 54) dX11_signChanges_47 (by decide) rfl (fun c_2 => ?_) (fun c_2 => ?_)
      · refine g_lload C 6 rfl dX11_signChanges_54 rfl ?_
        refine g_lconst0 C dX11_signChanges_56 rfl ?_
        refine g_lcmp_ge C ⟨by omega, by omega⟩ ⟨by decide, by decide⟩ dX11_signChanges_57 rfl (tgt := 65) dX11_signChanges_58 (by decide) rfl (fun c_3 => ?_) (fun c_3 => ?_)
        · refine g_iconst C dX11_signChanges_65 rfl ?_
          refine g_istore C (lv' := [(0, vR (Q 0)), (1, vI p), (2, vI (a (225 + (17 * p)))), (3, vI (chg (gsg (sh2 a (227 + (17 * p))) (a (225 + (17 * p)))) (a (225 + (17 * p))) (Int.toNat k))), (4, vI (lsg (gsg (sh2 a (227 + (17 * p))) (a (225 + (17 * p)))) 0 (Int.toNat k))), (5, vI k), (6, vL (((sh2 a (227 + (17 * p))) (Int.tmod (k + 1) (a (225 + (17 * p))))) - ((sh2 a (227 + (17 * p))) (Int.tmod k (a (225 + (17 * p))))))), (8, vI 0)]) [1, 2, 3, 4, 5, 6, 7, 0] (by decide) rfl rfl dX11_signChanges_66 rfl ?_
          refine g_iload_n C 3 rfl dX11_signChanges_68 rfl ?_
          refine g_iload C 5 rfl dX11_signChanges_69 rfl ?_
          refine g_iload_n C 2 rfl dX11_signChanges_71 rfl ?_
          refine g_icmp_lt C (tgt := 96) ⟨by omega, by omega⟩ ⟨by omega, by omega⟩ dX11_signChanges_72 (by decide) rfl (fun c_4 => ?_) (fun c_4 => ?_)
          · refine g_iconst C dX11_signChanges_96 rfl ?_
            refine g_iadd C rfl dX11_signChanges_97 rfl ?_
            refine g_istore_n C (lv' := [(0, vR (Q 0)), (1, vI p), (2, vI (a (225 + (17 * p)))), (3, vI ((chg (gsg (sh2 a (227 + (17 * p))) (a (225 + (17 * p)))) (a (225 + (17 * p))) (Int.toNat k)) + 0)), (4, vI (lsg (gsg (sh2 a (227 + (17 * p))) (a (225 + (17 * p)))) 0 (Int.toNat k))), (5, vI k), (6, vL (((sh2 a (227 + (17 * p))) (Int.tmod (k + 1) (a (225 + (17 * p))))) - ((sh2 a (227 + (17 * p))) (Int.tmod k (a (225 + (17 * p))))))), (8, vI 0)]) [1, 2, 3, 0, 4, 5, 6, 7] (by decide) rfl rfl dX11_signChanges_98 rfl ?_
            refine g_iload C 7 rfl dX11_signChanges_99 rfl ?_
            refine g_if_eq C (tgt := 109) ⟨by decide, by decide⟩ dX11_signChanges_101 (by decide) rfl (fun c_5 => ?_) (fun c_5 => ?_)
            · refine g_iload C 4 rfl dX11_signChanges_109 rfl ?_
              refine g_istore C (lv' := [(0, vR (Q 0)), (1, vI p), (2, vI (a (225 + (17 * p)))), (3, vI ((chg (gsg (sh2 a (227 + (17 * p))) (a (225 + (17 * p)))) (a (225 + (17 * p))) (Int.toNat k)) + 0)), (4, vI (lsg (gsg (sh2 a (227 + (17 * p))) (a (225 + (17 * p)))) 0 (Int.toNat k))), (5, vI k), (6, vL (((sh2 a (227 + (17 * p))) (Int.tmod (k + 1) (a (225 + (17 * p))))) - ((sh2 a (227 + (17 * p))) (Int.tmod k (a (225 + (17 * p))))))), (8, vI 0)]) [1, 2, 3, 4, 0, 5, 6, 7] (by decide) rfl rfl dX11_signChanges_111 rfl ?_
              refine g_iinc C (r := (k + 1)) (lv' := [(0, vR (Q 0)), (1, vI p), (2, vI (a (225 + (17 * p)))), (3, vI ((chg (gsg (sh2 a (227 + (17 * p))) (a (225 + (17 * p)))) (a (225 + (17 * p))) (Int.toNat k)) + 0)), (4, vI (lsg (gsg (sh2 a (227 + (17 * p))) (a (225 + (17 * p)))) 0 (Int.toNat k))), (5, vI (k + 1)), (6, vL (((sh2 a (227 + (17 * p))) (Int.tmod (k + 1) (a (225 + (17 * p))))) - ((sh2 a (227 + (17 * p))) (Int.tmod k (a (225 + (17 * p))))))), (8, vI 0)]) 5 [1, 2, 3, 4, 5, 0, 6, 7] rfl rfl (by decide) rfl rfl dX11_signChanges_113 rfl ?_
              refine g_goto C (pc' := 14) dX11_signChanges_116 (by decide) ?_
              refine g_lv (lv' := [(0, vR (Q 0)), (1, vI p), (2, vI (a (225 + (17 * p)))), (3, vI ((chg (gsg (sh2 a (227 + (17 * p))) (a (225 + (17 * p)))) (a (225 + (17 * p))) (Int.toNat k)) + 0)), (4, vI (lsg (gsg (sh2 a (227 + (17 * p))) (a (225 + (17 * p)))) 0 (Int.toNat k))), (5, vI (k + 1))]) [0, 1, 2, 3, 4, 5] rfl ?_
              refine g_cast (ws' := [((Q 0), .inr (12, [vR (Q 1), vR (Q 2), vR (Q 3), vR (Q 4), vR (Q 5), vI pn, vR (Q 6), vL f0, vL f1, vL f2, vL f3, vL px, vL py, vL pb, vI rg, vI wr, vR (Q 7), vI rn, vR (Q 8), vI wn])), ((Q 1), cL E 310 a)]) (lv' := [(0, vR (Q 0)), (1, vI p), (2, vI (a (225 + (17 * p)))), (3, vI (chg (gsg (sh2 a (227 + (17 * p))) (a (225 + (17 * p)))) (a (225 + (17 * p))) (Int.toNat (k + 1)))), (4, vI (lsg (gsg (sh2 a (227 + (17 * p))) (a (225 + (17 * p)))) 0 (Int.toNat k))), (5, vI (k + 1))]) (st' := []) rfl (congrArg (fun z_ : Int => ([(0, vR (Q 0)), (1, vI p), (2, vI (a (225 + (17 * p)))), (3, vI z_), (4, vI (lsg (gsg (sh2 a (227 + (17 * p))) (a (225 + (17 * p)))) 0 (Int.toNat k))), (5, vI (k + 1))] : List (Nat × Value))) (show ((chg (gsg (sh2 a (227 + (17 * p))) (a (225 + (17 * p)))) (a (225 + (17 * p))) (Int.toNat k)) + 0) = (chg (gsg (sh2 a (227 + (17 * p))) (a (225 + (17 * p)))) (a (225 + (17 * p))) (Int.toNat (k + 1))) by rw [chg_s h0, gsg_k]; unfold sgn3; (repeat' split) <;> first | rfl | omega)) rfl ?_
              refine g_cast (ws' := [((Q 0), .inr (12, [vR (Q 1), vR (Q 2), vR (Q 3), vR (Q 4), vR (Q 5), vI pn, vR (Q 6), vL f0, vL f1, vL f2, vL f3, vL px, vL py, vL pb, vI rg, vI wr, vR (Q 7), vI rn, vR (Q 8), vI wn])), ((Q 1), cL E 310 a)]) (lv' := [(0, vR (Q 0)), (1, vI p), (2, vI (a (225 + (17 * p)))), (3, vI (chg (gsg (sh2 a (227 + (17 * p))) (a (225 + (17 * p)))) (a (225 + (17 * p))) (Int.toNat (k + 1)))), (4, vI (lsg (gsg (sh2 a (227 + (17 * p))) (a (225 + (17 * p)))) 0 (Int.toNat (k + 1)))), (5, vI (k + 1))]) (st' := []) rfl (congrArg (fun z_ : Int => ([(0, vR (Q 0)), (1, vI p), (2, vI (a (225 + (17 * p)))), (3, vI (chg (gsg (sh2 a (227 + (17 * p))) (a (225 + (17 * p)))) (a (225 + (17 * p))) (Int.toNat (k + 1)))), (4, vI z_), (5, vI (k + 1))] : List (Nat × Value))) (show (lsg (gsg (sh2 a (227 + (17 * p))) (a (225 + (17 * p)))) 0 (Int.toNat k)) = (lsg (gsg (sh2 a (227 + (17 * p))) (a (225 + (17 * p)))) 0 (Int.toNat (k + 1))) by rw [lsg_s h0, gsg_k]; unfold sgn3; (repeat' split) <;> first | rfl | omega)) rfl ?_
              exact ih _ (by omega) (k + 1) (by omega) (by omega) rfl
            exact absurd c_5 (by decide)
          refine g_iload C 7 rfl dX11_signChanges_75 rfl ?_
          refine g_if_eq C (tgt := 96) ⟨by decide, by decide⟩ dX11_signChanges_77 (by decide) rfl (fun c_6 => ?_) (fun c_6 => ?_)
          · refine g_iconst C dX11_signChanges_96 rfl ?_
            refine g_iadd C rfl dX11_signChanges_97 rfl ?_
            refine g_istore_n C (lv' := [(0, vR (Q 0)), (1, vI p), (2, vI (a (225 + (17 * p)))), (3, vI ((chg (gsg (sh2 a (227 + (17 * p))) (a (225 + (17 * p)))) (a (225 + (17 * p))) (Int.toNat k)) + 0)), (4, vI (lsg (gsg (sh2 a (227 + (17 * p))) (a (225 + (17 * p)))) 0 (Int.toNat k))), (5, vI k), (6, vL (((sh2 a (227 + (17 * p))) (Int.tmod (k + 1) (a (225 + (17 * p))))) - ((sh2 a (227 + (17 * p))) (Int.tmod k (a (225 + (17 * p))))))), (8, vI 0)]) [1, 2, 3, 0, 4, 5, 6, 7] (by decide) rfl rfl dX11_signChanges_98 rfl ?_
            refine g_iload C 7 rfl dX11_signChanges_99 rfl ?_
            refine g_if_eq C (tgt := 109) ⟨by decide, by decide⟩ dX11_signChanges_101 (by decide) rfl (fun c_7 => ?_) (fun c_7 => ?_)
            · refine g_iload C 4 rfl dX11_signChanges_109 rfl ?_
              refine g_istore C (lv' := [(0, vR (Q 0)), (1, vI p), (2, vI (a (225 + (17 * p)))), (3, vI ((chg (gsg (sh2 a (227 + (17 * p))) (a (225 + (17 * p)))) (a (225 + (17 * p))) (Int.toNat k)) + 0)), (4, vI (lsg (gsg (sh2 a (227 + (17 * p))) (a (225 + (17 * p)))) 0 (Int.toNat k))), (5, vI k), (6, vL (((sh2 a (227 + (17 * p))) (Int.tmod (k + 1) (a (225 + (17 * p))))) - ((sh2 a (227 + (17 * p))) (Int.tmod k (a (225 + (17 * p))))))), (8, vI 0)]) [1, 2, 3, 4, 0, 5, 6, 7] (by decide) rfl rfl dX11_signChanges_111 rfl ?_
              refine g_iinc C (r := (k + 1)) (lv' := [(0, vR (Q 0)), (1, vI p), (2, vI (a (225 + (17 * p)))), (3, vI ((chg (gsg (sh2 a (227 + (17 * p))) (a (225 + (17 * p)))) (a (225 + (17 * p))) (Int.toNat k)) + 0)), (4, vI (lsg (gsg (sh2 a (227 + (17 * p))) (a (225 + (17 * p)))) 0 (Int.toNat k))), (5, vI (k + 1)), (6, vL (((sh2 a (227 + (17 * p))) (Int.tmod (k + 1) (a (225 + (17 * p))))) - ((sh2 a (227 + (17 * p))) (Int.tmod k (a (225 + (17 * p))))))), (8, vI 0)]) 5 [1, 2, 3, 4, 5, 0, 6, 7] rfl rfl (by decide) rfl rfl dX11_signChanges_113 rfl ?_
              refine g_goto C (pc' := 14) dX11_signChanges_116 (by decide) ?_
              refine g_lv (lv' := [(0, vR (Q 0)), (1, vI p), (2, vI (a (225 + (17 * p)))), (3, vI ((chg (gsg (sh2 a (227 + (17 * p))) (a (225 + (17 * p)))) (a (225 + (17 * p))) (Int.toNat k)) + 0)), (4, vI (lsg (gsg (sh2 a (227 + (17 * p))) (a (225 + (17 * p)))) 0 (Int.toNat k))), (5, vI (k + 1))]) [0, 1, 2, 3, 4, 5] rfl ?_
              refine g_cast (ws' := [((Q 0), .inr (12, [vR (Q 1), vR (Q 2), vR (Q 3), vR (Q 4), vR (Q 5), vI pn, vR (Q 6), vL f0, vL f1, vL f2, vL f3, vL px, vL py, vL pb, vI rg, vI wr, vR (Q 7), vI rn, vR (Q 8), vI wn])), ((Q 1), cL E 310 a)]) (lv' := [(0, vR (Q 0)), (1, vI p), (2, vI (a (225 + (17 * p)))), (3, vI (chg (gsg (sh2 a (227 + (17 * p))) (a (225 + (17 * p)))) (a (225 + (17 * p))) (Int.toNat (k + 1)))), (4, vI (lsg (gsg (sh2 a (227 + (17 * p))) (a (225 + (17 * p)))) 0 (Int.toNat k))), (5, vI (k + 1))]) (st' := []) rfl (congrArg (fun z_ : Int => ([(0, vR (Q 0)), (1, vI p), (2, vI (a (225 + (17 * p)))), (3, vI z_), (4, vI (lsg (gsg (sh2 a (227 + (17 * p))) (a (225 + (17 * p)))) 0 (Int.toNat k))), (5, vI (k + 1))] : List (Nat × Value))) (show ((chg (gsg (sh2 a (227 + (17 * p))) (a (225 + (17 * p)))) (a (225 + (17 * p))) (Int.toNat k)) + 0) = (chg (gsg (sh2 a (227 + (17 * p))) (a (225 + (17 * p)))) (a (225 + (17 * p))) (Int.toNat (k + 1))) by rw [chg_s h0, gsg_k]; unfold sgn3; (repeat' split) <;> first | rfl | omega)) rfl ?_
              refine g_cast (ws' := [((Q 0), .inr (12, [vR (Q 1), vR (Q 2), vR (Q 3), vR (Q 4), vR (Q 5), vI pn, vR (Q 6), vL f0, vL f1, vL f2, vL f3, vL px, vL py, vL pb, vI rg, vI wr, vR (Q 7), vI rn, vR (Q 8), vI wn])), ((Q 1), cL E 310 a)]) (lv' := [(0, vR (Q 0)), (1, vI p), (2, vI (a (225 + (17 * p)))), (3, vI (chg (gsg (sh2 a (227 + (17 * p))) (a (225 + (17 * p)))) (a (225 + (17 * p))) (Int.toNat (k + 1)))), (4, vI (lsg (gsg (sh2 a (227 + (17 * p))) (a (225 + (17 * p)))) 0 (Int.toNat (k + 1)))), (5, vI (k + 1))]) (st' := []) rfl (congrArg (fun z_ : Int => ([(0, vR (Q 0)), (1, vI p), (2, vI (a (225 + (17 * p)))), (3, vI (chg (gsg (sh2 a (227 + (17 * p))) (a (225 + (17 * p)))) (a (225 + (17 * p))) (Int.toNat (k + 1)))), (4, vI z_), (5, vI (k + 1))] : List (Nat × Value))) (show (lsg (gsg (sh2 a (227 + (17 * p))) (a (225 + (17 * p)))) 0 (Int.toNat k)) = (lsg (gsg (sh2 a (227 + (17 * p))) (a (225 + (17 * p)))) 0 (Int.toNat (k + 1))) by rw [lsg_s h0, gsg_k]; unfold sgn3; (repeat' split) <;> first | rfl | omega)) rfl ?_
              exact ih _ (by omega) (k + 1) (by omega) (by omega) rfl
            exact absurd c_7 (by decide)
          exact absurd c_6 (by decide)
        refine g_iconst C dX11_signChanges_61 rfl ?_
        refine g_goto C (pc' := 66) dX11_signChanges_62 (by decide) ?_
        refine g_istore C (lv' := [(0, vR (Q 0)), (1, vI p), (2, vI (a (225 + (17 * p)))), (3, vI (chg (gsg (sh2 a (227 + (17 * p))) (a (225 + (17 * p)))) (a (225 + (17 * p))) (Int.toNat k))), (4, vI (lsg (gsg (sh2 a (227 + (17 * p))) (a (225 + (17 * p)))) 0 (Int.toNat k))), (5, vI k), (6, vL (((sh2 a (227 + (17 * p))) (Int.tmod (k + 1) (a (225 + (17 * p))))) - ((sh2 a (227 + (17 * p))) (Int.tmod k (a (225 + (17 * p))))))), (8, vI (-1))]) [1, 2, 3, 4, 5, 6, 7, 0] (by decide) rfl rfl dX11_signChanges_66 rfl ?_
        refine g_iload_n C 3 rfl dX11_signChanges_68 rfl ?_
        refine g_iload C 5 rfl dX11_signChanges_69 rfl ?_
        refine g_iload_n C 2 rfl dX11_signChanges_71 rfl ?_
        refine g_icmp_lt C (tgt := 96) ⟨by omega, by omega⟩ ⟨by omega, by omega⟩ dX11_signChanges_72 (by decide) rfl (fun c_8 => ?_) (fun c_8 => ?_)
        · refine g_iconst C dX11_signChanges_96 rfl ?_
          refine g_iadd C rfl dX11_signChanges_97 rfl ?_
          refine g_istore_n C (lv' := [(0, vR (Q 0)), (1, vI p), (2, vI (a (225 + (17 * p)))), (3, vI ((chg (gsg (sh2 a (227 + (17 * p))) (a (225 + (17 * p)))) (a (225 + (17 * p))) (Int.toNat k)) + 0)), (4, vI (lsg (gsg (sh2 a (227 + (17 * p))) (a (225 + (17 * p)))) 0 (Int.toNat k))), (5, vI k), (6, vL (((sh2 a (227 + (17 * p))) (Int.tmod (k + 1) (a (225 + (17 * p))))) - ((sh2 a (227 + (17 * p))) (Int.tmod k (a (225 + (17 * p))))))), (8, vI (-1))]) [1, 2, 3, 0, 4, 5, 6, 7] (by decide) rfl rfl dX11_signChanges_98 rfl ?_
          refine g_iload C 7 rfl dX11_signChanges_99 rfl ?_
          refine g_if_eq C (tgt := 109) ⟨by decide, by decide⟩ dX11_signChanges_101 (by decide) rfl (fun c_9 => ?_) (fun c_9 => ?_)
          · exact absurd c_9 (by decide)
          refine g_iload C 7 rfl dX11_signChanges_104 rfl ?_
          refine g_goto C (pc' := 111) dX11_signChanges_106 (by decide) ?_
          refine g_istore C (lv' := [(0, vR (Q 0)), (1, vI p), (2, vI (a (225 + (17 * p)))), (3, vI ((chg (gsg (sh2 a (227 + (17 * p))) (a (225 + (17 * p)))) (a (225 + (17 * p))) (Int.toNat k)) + 0)), (4, vI (-1)), (5, vI k), (6, vL (((sh2 a (227 + (17 * p))) (Int.tmod (k + 1) (a (225 + (17 * p))))) - ((sh2 a (227 + (17 * p))) (Int.tmod k (a (225 + (17 * p))))))), (8, vI (-1))]) [1, 2, 3, 4, 0, 5, 6, 7] (by decide) rfl rfl dX11_signChanges_111 rfl ?_
          refine g_iinc C (r := (k + 1)) (lv' := [(0, vR (Q 0)), (1, vI p), (2, vI (a (225 + (17 * p)))), (3, vI ((chg (gsg (sh2 a (227 + (17 * p))) (a (225 + (17 * p)))) (a (225 + (17 * p))) (Int.toNat k)) + 0)), (4, vI (-1)), (5, vI (k + 1)), (6, vL (((sh2 a (227 + (17 * p))) (Int.tmod (k + 1) (a (225 + (17 * p))))) - ((sh2 a (227 + (17 * p))) (Int.tmod k (a (225 + (17 * p))))))), (8, vI (-1))]) 5 [1, 2, 3, 4, 5, 0, 6, 7] rfl rfl (by decide) rfl rfl dX11_signChanges_113 rfl ?_
          refine g_goto C (pc' := 14) dX11_signChanges_116 (by decide) ?_
          refine g_lv (lv' := [(0, vR (Q 0)), (1, vI p), (2, vI (a (225 + (17 * p)))), (3, vI ((chg (gsg (sh2 a (227 + (17 * p))) (a (225 + (17 * p)))) (a (225 + (17 * p))) (Int.toNat k)) + 0)), (4, vI (-1)), (5, vI (k + 1))]) [0, 1, 2, 3, 4, 5] rfl ?_
          refine g_cast (ws' := [((Q 0), .inr (12, [vR (Q 1), vR (Q 2), vR (Q 3), vR (Q 4), vR (Q 5), vI pn, vR (Q 6), vL f0, vL f1, vL f2, vL f3, vL px, vL py, vL pb, vI rg, vI wr, vR (Q 7), vI rn, vR (Q 8), vI wn])), ((Q 1), cL E 310 a)]) (lv' := [(0, vR (Q 0)), (1, vI p), (2, vI (a (225 + (17 * p)))), (3, vI (chg (gsg (sh2 a (227 + (17 * p))) (a (225 + (17 * p)))) (a (225 + (17 * p))) (Int.toNat (k + 1)))), (4, vI (-1)), (5, vI (k + 1))]) (st' := []) rfl (congrArg (fun z_ : Int => ([(0, vR (Q 0)), (1, vI p), (2, vI (a (225 + (17 * p)))), (3, vI z_), (4, vI (-1)), (5, vI (k + 1))] : List (Nat × Value))) (show ((chg (gsg (sh2 a (227 + (17 * p))) (a (225 + (17 * p)))) (a (225 + (17 * p))) (Int.toNat k)) + 0) = (chg (gsg (sh2 a (227 + (17 * p))) (a (225 + (17 * p)))) (a (225 + (17 * p))) (Int.toNat (k + 1))) by rw [chg_s h0, gsg_k]; unfold sgn3; (repeat' split) <;> first | rfl | omega)) rfl ?_
          refine g_cast (ws' := [((Q 0), .inr (12, [vR (Q 1), vR (Q 2), vR (Q 3), vR (Q 4), vR (Q 5), vI pn, vR (Q 6), vL f0, vL f1, vL f2, vL f3, vL px, vL py, vL pb, vI rg, vI wr, vR (Q 7), vI rn, vR (Q 8), vI wn])), ((Q 1), cL E 310 a)]) (lv' := [(0, vR (Q 0)), (1, vI p), (2, vI (a (225 + (17 * p)))), (3, vI (chg (gsg (sh2 a (227 + (17 * p))) (a (225 + (17 * p)))) (a (225 + (17 * p))) (Int.toNat (k + 1)))), (4, vI (lsg (gsg (sh2 a (227 + (17 * p))) (a (225 + (17 * p)))) 0 (Int.toNat (k + 1)))), (5, vI (k + 1))]) (st' := []) rfl (congrArg (fun z_ : Int => ([(0, vR (Q 0)), (1, vI p), (2, vI (a (225 + (17 * p)))), (3, vI (chg (gsg (sh2 a (227 + (17 * p))) (a (225 + (17 * p)))) (a (225 + (17 * p))) (Int.toNat (k + 1)))), (4, vI z_), (5, vI (k + 1))] : List (Nat × Value))) (show (-1) = (lsg (gsg (sh2 a (227 + (17 * p))) (a (225 + (17 * p)))) 0 (Int.toNat (k + 1))) by rw [lsg_s h0, gsg_k]; unfold sgn3; (repeat' split) <;> first | rfl | omega)) rfl ?_
          exact ih _ (by omega) (k + 1) (by omega) (by omega) rfl
        refine g_iload C 7 rfl dX11_signChanges_75 rfl ?_
        refine g_if_eq C (tgt := 96) ⟨by decide, by decide⟩ dX11_signChanges_77 (by decide) rfl (fun c_10 => ?_) (fun c_10 => ?_)
        · exact absurd c_10 (by decide)
        refine g_iload C 4 rfl dX11_signChanges_80 rfl ?_
        refine g_if_eq C (tgt := 96) ⟨by omega, by omega⟩ dX11_signChanges_82 (by decide) rfl (fun c_11 => ?_) (fun c_11 => ?_)
        · refine g_iconst C dX11_signChanges_96 rfl ?_
          refine g_iadd C rfl dX11_signChanges_97 rfl ?_
          refine g_istore_n C (lv' := [(0, vR (Q 0)), (1, vI p), (2, vI (a (225 + (17 * p)))), (3, vI ((chg (gsg (sh2 a (227 + (17 * p))) (a (225 + (17 * p)))) (a (225 + (17 * p))) (Int.toNat k)) + 0)), (4, vI (lsg (gsg (sh2 a (227 + (17 * p))) (a (225 + (17 * p)))) 0 (Int.toNat k))), (5, vI k), (6, vL (((sh2 a (227 + (17 * p))) (Int.tmod (k + 1) (a (225 + (17 * p))))) - ((sh2 a (227 + (17 * p))) (Int.tmod k (a (225 + (17 * p))))))), (8, vI (-1))]) [1, 2, 3, 0, 4, 5, 6, 7] (by decide) rfl rfl dX11_signChanges_98 rfl ?_
          refine g_iload C 7 rfl dX11_signChanges_99 rfl ?_
          refine g_if_eq C (tgt := 109) ⟨by decide, by decide⟩ dX11_signChanges_101 (by decide) rfl (fun c_12 => ?_) (fun c_12 => ?_)
          · exact absurd c_12 (by decide)
          refine g_iload C 7 rfl dX11_signChanges_104 rfl ?_
          refine g_goto C (pc' := 111) dX11_signChanges_106 (by decide) ?_
          refine g_istore C (lv' := [(0, vR (Q 0)), (1, vI p), (2, vI (a (225 + (17 * p)))), (3, vI ((chg (gsg (sh2 a (227 + (17 * p))) (a (225 + (17 * p)))) (a (225 + (17 * p))) (Int.toNat k)) + 0)), (4, vI (-1)), (5, vI k), (6, vL (((sh2 a (227 + (17 * p))) (Int.tmod (k + 1) (a (225 + (17 * p))))) - ((sh2 a (227 + (17 * p))) (Int.tmod k (a (225 + (17 * p))))))), (8, vI (-1))]) [1, 2, 3, 4, 0, 5, 6, 7] (by decide) rfl rfl dX11_signChanges_111 rfl ?_
          refine g_iinc C (r := (k + 1)) (lv' := [(0, vR (Q 0)), (1, vI p), (2, vI (a (225 + (17 * p)))), (3, vI ((chg (gsg (sh2 a (227 + (17 * p))) (a (225 + (17 * p)))) (a (225 + (17 * p))) (Int.toNat k)) + 0)), (4, vI (-1)), (5, vI (k + 1)), (6, vL (((sh2 a (227 + (17 * p))) (Int.tmod (k + 1) (a (225 + (17 * p))))) - ((sh2 a (227 + (17 * p))) (Int.tmod k (a (225 + (17 * p))))))), (8, vI (-1))]) 5 [1, 2, 3, 4, 5, 0, 6, 7] rfl rfl (by decide) rfl rfl dX11_signChanges_113 rfl ?_
          refine g_goto C (pc' := 14) dX11_signChanges_116 (by decide) ?_
          refine g_lv (lv' := [(0, vR (Q 0)), (1, vI p), (2, vI (a (225 + (17 * p)))), (3, vI ((chg (gsg (sh2 a (227 + (17 * p))) (a (225 + (17 * p)))) (a (225 + (17 * p))) (Int.toNat k)) + 0)), (4, vI (-1)), (5, vI (k + 1))]) [0, 1, 2, 3, 4, 5] rfl ?_
          refine g_cast (ws' := [((Q 0), .inr (12, [vR (Q 1), vR (Q 2), vR (Q 3), vR (Q 4), vR (Q 5), vI pn, vR (Q 6), vL f0, vL f1, vL f2, vL f3, vL px, vL py, vL pb, vI rg, vI wr, vR (Q 7), vI rn, vR (Q 8), vI wn])), ((Q 1), cL E 310 a)]) (lv' := [(0, vR (Q 0)), (1, vI p), (2, vI (a (225 + (17 * p)))), (3, vI (chg (gsg (sh2 a (227 + (17 * p))) (a (225 + (17 * p)))) (a (225 + (17 * p))) (Int.toNat (k + 1)))), (4, vI (-1)), (5, vI (k + 1))]) (st' := []) rfl (congrArg (fun z_ : Int => ([(0, vR (Q 0)), (1, vI p), (2, vI (a (225 + (17 * p)))), (3, vI z_), (4, vI (-1)), (5, vI (k + 1))] : List (Nat × Value))) (show ((chg (gsg (sh2 a (227 + (17 * p))) (a (225 + (17 * p)))) (a (225 + (17 * p))) (Int.toNat k)) + 0) = (chg (gsg (sh2 a (227 + (17 * p))) (a (225 + (17 * p)))) (a (225 + (17 * p))) (Int.toNat (k + 1))) by rw [chg_s h0, gsg_k]; unfold sgn3; (repeat' split) <;> first | rfl | omega)) rfl ?_
          refine g_cast (ws' := [((Q 0), .inr (12, [vR (Q 1), vR (Q 2), vR (Q 3), vR (Q 4), vR (Q 5), vI pn, vR (Q 6), vL f0, vL f1, vL f2, vL f3, vL px, vL py, vL pb, vI rg, vI wr, vR (Q 7), vI rn, vR (Q 8), vI wn])), ((Q 1), cL E 310 a)]) (lv' := [(0, vR (Q 0)), (1, vI p), (2, vI (a (225 + (17 * p)))), (3, vI (chg (gsg (sh2 a (227 + (17 * p))) (a (225 + (17 * p)))) (a (225 + (17 * p))) (Int.toNat (k + 1)))), (4, vI (lsg (gsg (sh2 a (227 + (17 * p))) (a (225 + (17 * p)))) 0 (Int.toNat (k + 1)))), (5, vI (k + 1))]) (st' := []) rfl (congrArg (fun z_ : Int => ([(0, vR (Q 0)), (1, vI p), (2, vI (a (225 + (17 * p)))), (3, vI (chg (gsg (sh2 a (227 + (17 * p))) (a (225 + (17 * p)))) (a (225 + (17 * p))) (Int.toNat (k + 1)))), (4, vI z_), (5, vI (k + 1))] : List (Nat × Value))) (show (-1) = (lsg (gsg (sh2 a (227 + (17 * p))) (a (225 + (17 * p)))) 0 (Int.toNat (k + 1))) by rw [lsg_s h0, gsg_k]; unfold sgn3; (repeat' split) <;> first | rfl | omega)) rfl ?_
          exact ih _ (by omega) (k + 1) (by omega) (by omega) rfl
        refine g_iload C 7 rfl dX11_signChanges_85 rfl ?_
        refine g_iload C 4 rfl dX11_signChanges_87 rfl ?_
        refine g_icmp_eq C (tgt := 96) ⟨by decide, by decide⟩ ⟨by omega, by omega⟩ dX11_signChanges_89 (by decide) rfl (fun c_13 => ?_) (fun c_13 => ?_)
        · refine g_iconst C dX11_signChanges_96 rfl ?_
          refine g_iadd C rfl dX11_signChanges_97 rfl ?_
          refine g_istore_n C (lv' := [(0, vR (Q 0)), (1, vI p), (2, vI (a (225 + (17 * p)))), (3, vI ((chg (gsg (sh2 a (227 + (17 * p))) (a (225 + (17 * p)))) (a (225 + (17 * p))) (Int.toNat k)) + 0)), (4, vI (lsg (gsg (sh2 a (227 + (17 * p))) (a (225 + (17 * p)))) 0 (Int.toNat k))), (5, vI k), (6, vL (((sh2 a (227 + (17 * p))) (Int.tmod (k + 1) (a (225 + (17 * p))))) - ((sh2 a (227 + (17 * p))) (Int.tmod k (a (225 + (17 * p))))))), (8, vI (-1))]) [1, 2, 3, 0, 4, 5, 6, 7] (by decide) rfl rfl dX11_signChanges_98 rfl ?_
          refine g_iload C 7 rfl dX11_signChanges_99 rfl ?_
          refine g_if_eq C (tgt := 109) ⟨by decide, by decide⟩ dX11_signChanges_101 (by decide) rfl (fun c_14 => ?_) (fun c_14 => ?_)
          · exact absurd c_14 (by decide)
          refine g_iload C 7 rfl dX11_signChanges_104 rfl ?_
          refine g_goto C (pc' := 111) dX11_signChanges_106 (by decide) ?_
          refine g_istore C (lv' := [(0, vR (Q 0)), (1, vI p), (2, vI (a (225 + (17 * p)))), (3, vI ((chg (gsg (sh2 a (227 + (17 * p))) (a (225 + (17 * p)))) (a (225 + (17 * p))) (Int.toNat k)) + 0)), (4, vI (-1)), (5, vI k), (6, vL (((sh2 a (227 + (17 * p))) (Int.tmod (k + 1) (a (225 + (17 * p))))) - ((sh2 a (227 + (17 * p))) (Int.tmod k (a (225 + (17 * p))))))), (8, vI (-1))]) [1, 2, 3, 4, 0, 5, 6, 7] (by decide) rfl rfl dX11_signChanges_111 rfl ?_
          refine g_iinc C (r := (k + 1)) (lv' := [(0, vR (Q 0)), (1, vI p), (2, vI (a (225 + (17 * p)))), (3, vI ((chg (gsg (sh2 a (227 + (17 * p))) (a (225 + (17 * p)))) (a (225 + (17 * p))) (Int.toNat k)) + 0)), (4, vI (-1)), (5, vI (k + 1)), (6, vL (((sh2 a (227 + (17 * p))) (Int.tmod (k + 1) (a (225 + (17 * p))))) - ((sh2 a (227 + (17 * p))) (Int.tmod k (a (225 + (17 * p))))))), (8, vI (-1))]) 5 [1, 2, 3, 4, 5, 0, 6, 7] rfl rfl (by decide) rfl rfl dX11_signChanges_113 rfl ?_
          refine g_goto C (pc' := 14) dX11_signChanges_116 (by decide) ?_
          refine g_lv (lv' := [(0, vR (Q 0)), (1, vI p), (2, vI (a (225 + (17 * p)))), (3, vI ((chg (gsg (sh2 a (227 + (17 * p))) (a (225 + (17 * p)))) (a (225 + (17 * p))) (Int.toNat k)) + 0)), (4, vI (-1)), (5, vI (k + 1))]) [0, 1, 2, 3, 4, 5] rfl ?_
          refine g_cast (ws' := [((Q 0), .inr (12, [vR (Q 1), vR (Q 2), vR (Q 3), vR (Q 4), vR (Q 5), vI pn, vR (Q 6), vL f0, vL f1, vL f2, vL f3, vL px, vL py, vL pb, vI rg, vI wr, vR (Q 7), vI rn, vR (Q 8), vI wn])), ((Q 1), cL E 310 a)]) (lv' := [(0, vR (Q 0)), (1, vI p), (2, vI (a (225 + (17 * p)))), (3, vI (chg (gsg (sh2 a (227 + (17 * p))) (a (225 + (17 * p)))) (a (225 + (17 * p))) (Int.toNat (k + 1)))), (4, vI (-1)), (5, vI (k + 1))]) (st' := []) rfl (congrArg (fun z_ : Int => ([(0, vR (Q 0)), (1, vI p), (2, vI (a (225 + (17 * p)))), (3, vI z_), (4, vI (-1)), (5, vI (k + 1))] : List (Nat × Value))) (show ((chg (gsg (sh2 a (227 + (17 * p))) (a (225 + (17 * p)))) (a (225 + (17 * p))) (Int.toNat k)) + 0) = (chg (gsg (sh2 a (227 + (17 * p))) (a (225 + (17 * p)))) (a (225 + (17 * p))) (Int.toNat (k + 1))) by rw [chg_s h0, gsg_k]; unfold sgn3; (repeat' split) <;> first | rfl | omega)) rfl ?_
          refine g_cast (ws' := [((Q 0), .inr (12, [vR (Q 1), vR (Q 2), vR (Q 3), vR (Q 4), vR (Q 5), vI pn, vR (Q 6), vL f0, vL f1, vL f2, vL f3, vL px, vL py, vL pb, vI rg, vI wr, vR (Q 7), vI rn, vR (Q 8), vI wn])), ((Q 1), cL E 310 a)]) (lv' := [(0, vR (Q 0)), (1, vI p), (2, vI (a (225 + (17 * p)))), (3, vI (chg (gsg (sh2 a (227 + (17 * p))) (a (225 + (17 * p)))) (a (225 + (17 * p))) (Int.toNat (k + 1)))), (4, vI (lsg (gsg (sh2 a (227 + (17 * p))) (a (225 + (17 * p)))) 0 (Int.toNat (k + 1)))), (5, vI (k + 1))]) (st' := []) rfl (congrArg (fun z_ : Int => ([(0, vR (Q 0)), (1, vI p), (2, vI (a (225 + (17 * p)))), (3, vI (chg (gsg (sh2 a (227 + (17 * p))) (a (225 + (17 * p)))) (a (225 + (17 * p))) (Int.toNat (k + 1)))), (4, vI z_), (5, vI (k + 1))] : List (Nat × Value))) (show (-1) = (lsg (gsg (sh2 a (227 + (17 * p))) (a (225 + (17 * p)))) 0 (Int.toNat (k + 1))) by rw [lsg_s h0, gsg_k]; unfold sgn3; (repeat' split) <;> first | rfl | omega)) rfl ?_
          exact ih _ (by omega) (k + 1) (by omega) (by omega) rfl
        refine g_iconst C dX11_signChanges_92 rfl ?_
        refine g_goto C (pc' := 97) dX11_signChanges_93 (by decide) ?_
        refine g_iadd C rfl dX11_signChanges_97 rfl ?_
        refine g_istore_n C (lv' := [(0, vR (Q 0)), (1, vI p), (2, vI (a (225 + (17 * p)))), (3, vI ((chg (gsg (sh2 a (227 + (17 * p))) (a (225 + (17 * p)))) (a (225 + (17 * p))) (Int.toNat k)) + 1)), (4, vI (lsg (gsg (sh2 a (227 + (17 * p))) (a (225 + (17 * p)))) 0 (Int.toNat k))), (5, vI k), (6, vL (((sh2 a (227 + (17 * p))) (Int.tmod (k + 1) (a (225 + (17 * p))))) - ((sh2 a (227 + (17 * p))) (Int.tmod k (a (225 + (17 * p))))))), (8, vI (-1))]) [1, 2, 3, 0, 4, 5, 6, 7] (by decide) rfl rfl dX11_signChanges_98 rfl ?_
        refine g_iload C 7 rfl dX11_signChanges_99 rfl ?_
        refine g_if_eq C (tgt := 109) ⟨by decide, by decide⟩ dX11_signChanges_101 (by decide) rfl (fun c_15 => ?_) (fun c_15 => ?_)
        · exact absurd c_15 (by decide)
        refine g_iload C 7 rfl dX11_signChanges_104 rfl ?_
        refine g_goto C (pc' := 111) dX11_signChanges_106 (by decide) ?_
        refine g_istore C (lv' := [(0, vR (Q 0)), (1, vI p), (2, vI (a (225 + (17 * p)))), (3, vI ((chg (gsg (sh2 a (227 + (17 * p))) (a (225 + (17 * p)))) (a (225 + (17 * p))) (Int.toNat k)) + 1)), (4, vI (-1)), (5, vI k), (6, vL (((sh2 a (227 + (17 * p))) (Int.tmod (k + 1) (a (225 + (17 * p))))) - ((sh2 a (227 + (17 * p))) (Int.tmod k (a (225 + (17 * p))))))), (8, vI (-1))]) [1, 2, 3, 4, 0, 5, 6, 7] (by decide) rfl rfl dX11_signChanges_111 rfl ?_
        refine g_iinc C (r := (k + 1)) (lv' := [(0, vR (Q 0)), (1, vI p), (2, vI (a (225 + (17 * p)))), (3, vI ((chg (gsg (sh2 a (227 + (17 * p))) (a (225 + (17 * p)))) (a (225 + (17 * p))) (Int.toNat k)) + 1)), (4, vI (-1)), (5, vI (k + 1)), (6, vL (((sh2 a (227 + (17 * p))) (Int.tmod (k + 1) (a (225 + (17 * p))))) - ((sh2 a (227 + (17 * p))) (Int.tmod k (a (225 + (17 * p))))))), (8, vI (-1))]) 5 [1, 2, 3, 4, 5, 0, 6, 7] rfl rfl (by decide) rfl rfl dX11_signChanges_113 rfl ?_
        refine g_goto C (pc' := 14) dX11_signChanges_116 (by decide) ?_
        refine g_lv (lv' := [(0, vR (Q 0)), (1, vI p), (2, vI (a (225 + (17 * p)))), (3, vI ((chg (gsg (sh2 a (227 + (17 * p))) (a (225 + (17 * p)))) (a (225 + (17 * p))) (Int.toNat k)) + 1)), (4, vI (-1)), (5, vI (k + 1))]) [0, 1, 2, 3, 4, 5] rfl ?_
        refine g_cast (ws' := [((Q 0), .inr (12, [vR (Q 1), vR (Q 2), vR (Q 3), vR (Q 4), vR (Q 5), vI pn, vR (Q 6), vL f0, vL f1, vL f2, vL f3, vL px, vL py, vL pb, vI rg, vI wr, vR (Q 7), vI rn, vR (Q 8), vI wn])), ((Q 1), cL E 310 a)]) (lv' := [(0, vR (Q 0)), (1, vI p), (2, vI (a (225 + (17 * p)))), (3, vI (chg (gsg (sh2 a (227 + (17 * p))) (a (225 + (17 * p)))) (a (225 + (17 * p))) (Int.toNat (k + 1)))), (4, vI (-1)), (5, vI (k + 1))]) (st' := []) rfl (congrArg (fun z_ : Int => ([(0, vR (Q 0)), (1, vI p), (2, vI (a (225 + (17 * p)))), (3, vI z_), (4, vI (-1)), (5, vI (k + 1))] : List (Nat × Value))) (show ((chg (gsg (sh2 a (227 + (17 * p))) (a (225 + (17 * p)))) (a (225 + (17 * p))) (Int.toNat k)) + 1) = (chg (gsg (sh2 a (227 + (17 * p))) (a (225 + (17 * p)))) (a (225 + (17 * p))) (Int.toNat (k + 1))) by rw [chg_s h0, gsg_k]; unfold sgn3; (repeat' split) <;> first | rfl | omega)) rfl ?_
        refine g_cast (ws' := [((Q 0), .inr (12, [vR (Q 1), vR (Q 2), vR (Q 3), vR (Q 4), vR (Q 5), vI pn, vR (Q 6), vL f0, vL f1, vL f2, vL f3, vL px, vL py, vL pb, vI rg, vI wr, vR (Q 7), vI rn, vR (Q 8), vI wn])), ((Q 1), cL E 310 a)]) (lv' := [(0, vR (Q 0)), (1, vI p), (2, vI (a (225 + (17 * p)))), (3, vI (chg (gsg (sh2 a (227 + (17 * p))) (a (225 + (17 * p)))) (a (225 + (17 * p))) (Int.toNat (k + 1)))), (4, vI (lsg (gsg (sh2 a (227 + (17 * p))) (a (225 + (17 * p)))) 0 (Int.toNat (k + 1)))), (5, vI (k + 1))]) (st' := []) rfl (congrArg (fun z_ : Int => ([(0, vR (Q 0)), (1, vI p), (2, vI (a (225 + (17 * p)))), (3, vI (chg (gsg (sh2 a (227 + (17 * p))) (a (225 + (17 * p)))) (a (225 + (17 * p))) (Int.toNat (k + 1)))), (4, vI z_), (5, vI (k + 1))] : List (Nat × Value))) (show (-1) = (lsg (gsg (sh2 a (227 + (17 * p))) (a (225 + (17 * p)))) 0 (Int.toNat (k + 1))) by rw [lsg_s h0, gsg_k]; unfold sgn3; (repeat' split) <;> first | rfl | omega)) rfl ?_
        exact ih _ (by omega) (k + 1) (by omega) (by omega) rfl
      refine g_iconst C dX11_signChanges_50 rfl ?_
      refine g_goto C (pc' := 66) dX11_signChanges_51 (by decide) ?_
      refine g_istore C (lv' := [(0, vR (Q 0)), (1, vI p), (2, vI (a (225 + (17 * p)))), (3, vI (chg (gsg (sh2 a (227 + (17 * p))) (a (225 + (17 * p)))) (a (225 + (17 * p))) (Int.toNat k))), (4, vI (lsg (gsg (sh2 a (227 + (17 * p))) (a (225 + (17 * p)))) 0 (Int.toNat k))), (5, vI k), (6, vL (((sh2 a (227 + (17 * p))) (Int.tmod (k + 1) (a (225 + (17 * p))))) - ((sh2 a (227 + (17 * p))) (Int.tmod k (a (225 + (17 * p))))))), (8, vI 1)]) [1, 2, 3, 4, 5, 6, 7, 0] (by decide) rfl rfl dX11_signChanges_66 rfl ?_
      refine g_iload_n C 3 rfl dX11_signChanges_68 rfl ?_
      refine g_iload C 5 rfl dX11_signChanges_69 rfl ?_
      refine g_iload_n C 2 rfl dX11_signChanges_71 rfl ?_
      refine g_icmp_lt C (tgt := 96) ⟨by omega, by omega⟩ ⟨by omega, by omega⟩ dX11_signChanges_72 (by decide) rfl (fun c_16 => ?_) (fun c_16 => ?_)
      · refine g_iconst C dX11_signChanges_96 rfl ?_
        refine g_iadd C rfl dX11_signChanges_97 rfl ?_
        refine g_istore_n C (lv' := [(0, vR (Q 0)), (1, vI p), (2, vI (a (225 + (17 * p)))), (3, vI ((chg (gsg (sh2 a (227 + (17 * p))) (a (225 + (17 * p)))) (a (225 + (17 * p))) (Int.toNat k)) + 0)), (4, vI (lsg (gsg (sh2 a (227 + (17 * p))) (a (225 + (17 * p)))) 0 (Int.toNat k))), (5, vI k), (6, vL (((sh2 a (227 + (17 * p))) (Int.tmod (k + 1) (a (225 + (17 * p))))) - ((sh2 a (227 + (17 * p))) (Int.tmod k (a (225 + (17 * p))))))), (8, vI 1)]) [1, 2, 3, 0, 4, 5, 6, 7] (by decide) rfl rfl dX11_signChanges_98 rfl ?_
        refine g_iload C 7 rfl dX11_signChanges_99 rfl ?_
        refine g_if_eq C (tgt := 109) ⟨by decide, by decide⟩ dX11_signChanges_101 (by decide) rfl (fun c_17 => ?_) (fun c_17 => ?_)
        · exact absurd c_17 (by decide)
        refine g_iload C 7 rfl dX11_signChanges_104 rfl ?_
        refine g_goto C (pc' := 111) dX11_signChanges_106 (by decide) ?_
        refine g_istore C (lv' := [(0, vR (Q 0)), (1, vI p), (2, vI (a (225 + (17 * p)))), (3, vI ((chg (gsg (sh2 a (227 + (17 * p))) (a (225 + (17 * p)))) (a (225 + (17 * p))) (Int.toNat k)) + 0)), (4, vI 1), (5, vI k), (6, vL (((sh2 a (227 + (17 * p))) (Int.tmod (k + 1) (a (225 + (17 * p))))) - ((sh2 a (227 + (17 * p))) (Int.tmod k (a (225 + (17 * p))))))), (8, vI 1)]) [1, 2, 3, 4, 0, 5, 6, 7] (by decide) rfl rfl dX11_signChanges_111 rfl ?_
        refine g_iinc C (r := (k + 1)) (lv' := [(0, vR (Q 0)), (1, vI p), (2, vI (a (225 + (17 * p)))), (3, vI ((chg (gsg (sh2 a (227 + (17 * p))) (a (225 + (17 * p)))) (a (225 + (17 * p))) (Int.toNat k)) + 0)), (4, vI 1), (5, vI (k + 1)), (6, vL (((sh2 a (227 + (17 * p))) (Int.tmod (k + 1) (a (225 + (17 * p))))) - ((sh2 a (227 + (17 * p))) (Int.tmod k (a (225 + (17 * p))))))), (8, vI 1)]) 5 [1, 2, 3, 4, 5, 0, 6, 7] rfl rfl (by decide) rfl rfl dX11_signChanges_113 rfl ?_
        refine g_goto C (pc' := 14) dX11_signChanges_116 (by decide) ?_
        refine g_lv (lv' := [(0, vR (Q 0)), (1, vI p), (2, vI (a (225 + (17 * p)))), (3, vI ((chg (gsg (sh2 a (227 + (17 * p))) (a (225 + (17 * p)))) (a (225 + (17 * p))) (Int.toNat k)) + 0)), (4, vI 1), (5, vI (k + 1))]) [0, 1, 2, 3, 4, 5] rfl ?_
        refine g_cast (ws' := [((Q 0), .inr (12, [vR (Q 1), vR (Q 2), vR (Q 3), vR (Q 4), vR (Q 5), vI pn, vR (Q 6), vL f0, vL f1, vL f2, vL f3, vL px, vL py, vL pb, vI rg, vI wr, vR (Q 7), vI rn, vR (Q 8), vI wn])), ((Q 1), cL E 310 a)]) (lv' := [(0, vR (Q 0)), (1, vI p), (2, vI (a (225 + (17 * p)))), (3, vI (chg (gsg (sh2 a (227 + (17 * p))) (a (225 + (17 * p)))) (a (225 + (17 * p))) (Int.toNat (k + 1)))), (4, vI 1), (5, vI (k + 1))]) (st' := []) rfl (congrArg (fun z_ : Int => ([(0, vR (Q 0)), (1, vI p), (2, vI (a (225 + (17 * p)))), (3, vI z_), (4, vI 1), (5, vI (k + 1))] : List (Nat × Value))) (show ((chg (gsg (sh2 a (227 + (17 * p))) (a (225 + (17 * p)))) (a (225 + (17 * p))) (Int.toNat k)) + 0) = (chg (gsg (sh2 a (227 + (17 * p))) (a (225 + (17 * p)))) (a (225 + (17 * p))) (Int.toNat (k + 1))) by rw [chg_s h0, gsg_k]; unfold sgn3; (repeat' split) <;> first | rfl | omega)) rfl ?_
        refine g_cast (ws' := [((Q 0), .inr (12, [vR (Q 1), vR (Q 2), vR (Q 3), vR (Q 4), vR (Q 5), vI pn, vR (Q 6), vL f0, vL f1, vL f2, vL f3, vL px, vL py, vL pb, vI rg, vI wr, vR (Q 7), vI rn, vR (Q 8), vI wn])), ((Q 1), cL E 310 a)]) (lv' := [(0, vR (Q 0)), (1, vI p), (2, vI (a (225 + (17 * p)))), (3, vI (chg (gsg (sh2 a (227 + (17 * p))) (a (225 + (17 * p)))) (a (225 + (17 * p))) (Int.toNat (k + 1)))), (4, vI (lsg (gsg (sh2 a (227 + (17 * p))) (a (225 + (17 * p)))) 0 (Int.toNat (k + 1)))), (5, vI (k + 1))]) (st' := []) rfl (congrArg (fun z_ : Int => ([(0, vR (Q 0)), (1, vI p), (2, vI (a (225 + (17 * p)))), (3, vI (chg (gsg (sh2 a (227 + (17 * p))) (a (225 + (17 * p)))) (a (225 + (17 * p))) (Int.toNat (k + 1)))), (4, vI z_), (5, vI (k + 1))] : List (Nat × Value))) (show 1 = (lsg (gsg (sh2 a (227 + (17 * p))) (a (225 + (17 * p)))) 0 (Int.toNat (k + 1))) by rw [lsg_s h0, gsg_k]; unfold sgn3; (repeat' split) <;> first | rfl | omega)) rfl ?_
        exact ih _ (by omega) (k + 1) (by omega) (by omega) rfl
      refine g_iload C 7 rfl dX11_signChanges_75 rfl ?_
      refine g_if_eq C (tgt := 96) ⟨by decide, by decide⟩ dX11_signChanges_77 (by decide) rfl (fun c_18 => ?_) (fun c_18 => ?_)
      · exact absurd c_18 (by decide)
      refine g_iload C 4 rfl dX11_signChanges_80 rfl ?_
      refine g_if_eq C (tgt := 96) ⟨by omega, by omega⟩ dX11_signChanges_82 (by decide) rfl (fun c_19 => ?_) (fun c_19 => ?_)
      · refine g_iconst C dX11_signChanges_96 rfl ?_
        refine g_iadd C rfl dX11_signChanges_97 rfl ?_
        refine g_istore_n C (lv' := [(0, vR (Q 0)), (1, vI p), (2, vI (a (225 + (17 * p)))), (3, vI ((chg (gsg (sh2 a (227 + (17 * p))) (a (225 + (17 * p)))) (a (225 + (17 * p))) (Int.toNat k)) + 0)), (4, vI (lsg (gsg (sh2 a (227 + (17 * p))) (a (225 + (17 * p)))) 0 (Int.toNat k))), (5, vI k), (6, vL (((sh2 a (227 + (17 * p))) (Int.tmod (k + 1) (a (225 + (17 * p))))) - ((sh2 a (227 + (17 * p))) (Int.tmod k (a (225 + (17 * p))))))), (8, vI 1)]) [1, 2, 3, 0, 4, 5, 6, 7] (by decide) rfl rfl dX11_signChanges_98 rfl ?_
        refine g_iload C 7 rfl dX11_signChanges_99 rfl ?_
        refine g_if_eq C (tgt := 109) ⟨by decide, by decide⟩ dX11_signChanges_101 (by decide) rfl (fun c_20 => ?_) (fun c_20 => ?_)
        · exact absurd c_20 (by decide)
        refine g_iload C 7 rfl dX11_signChanges_104 rfl ?_
        refine g_goto C (pc' := 111) dX11_signChanges_106 (by decide) ?_
        refine g_istore C (lv' := [(0, vR (Q 0)), (1, vI p), (2, vI (a (225 + (17 * p)))), (3, vI ((chg (gsg (sh2 a (227 + (17 * p))) (a (225 + (17 * p)))) (a (225 + (17 * p))) (Int.toNat k)) + 0)), (4, vI 1), (5, vI k), (6, vL (((sh2 a (227 + (17 * p))) (Int.tmod (k + 1) (a (225 + (17 * p))))) - ((sh2 a (227 + (17 * p))) (Int.tmod k (a (225 + (17 * p))))))), (8, vI 1)]) [1, 2, 3, 4, 0, 5, 6, 7] (by decide) rfl rfl dX11_signChanges_111 rfl ?_
        refine g_iinc C (r := (k + 1)) (lv' := [(0, vR (Q 0)), (1, vI p), (2, vI (a (225 + (17 * p)))), (3, vI ((chg (gsg (sh2 a (227 + (17 * p))) (a (225 + (17 * p)))) (a (225 + (17 * p))) (Int.toNat k)) + 0)), (4, vI 1), (5, vI (k + 1)), (6, vL (((sh2 a (227 + (17 * p))) (Int.tmod (k + 1) (a (225 + (17 * p))))) - ((sh2 a (227 + (17 * p))) (Int.tmod k (a (225 + (17 * p))))))), (8, vI 1)]) 5 [1, 2, 3, 4, 5, 0, 6, 7] rfl rfl (by decide) rfl rfl dX11_signChanges_113 rfl ?_
        refine g_goto C (pc' := 14) dX11_signChanges_116 (by decide) ?_
        refine g_lv (lv' := [(0, vR (Q 0)), (1, vI p), (2, vI (a (225 + (17 * p)))), (3, vI ((chg (gsg (sh2 a (227 + (17 * p))) (a (225 + (17 * p)))) (a (225 + (17 * p))) (Int.toNat k)) + 0)), (4, vI 1), (5, vI (k + 1))]) [0, 1, 2, 3, 4, 5] rfl ?_
        refine g_cast (ws' := [((Q 0), .inr (12, [vR (Q 1), vR (Q 2), vR (Q 3), vR (Q 4), vR (Q 5), vI pn, vR (Q 6), vL f0, vL f1, vL f2, vL f3, vL px, vL py, vL pb, vI rg, vI wr, vR (Q 7), vI rn, vR (Q 8), vI wn])), ((Q 1), cL E 310 a)]) (lv' := [(0, vR (Q 0)), (1, vI p), (2, vI (a (225 + (17 * p)))), (3, vI (chg (gsg (sh2 a (227 + (17 * p))) (a (225 + (17 * p)))) (a (225 + (17 * p))) (Int.toNat (k + 1)))), (4, vI 1), (5, vI (k + 1))]) (st' := []) rfl (congrArg (fun z_ : Int => ([(0, vR (Q 0)), (1, vI p), (2, vI (a (225 + (17 * p)))), (3, vI z_), (4, vI 1), (5, vI (k + 1))] : List (Nat × Value))) (show ((chg (gsg (sh2 a (227 + (17 * p))) (a (225 + (17 * p)))) (a (225 + (17 * p))) (Int.toNat k)) + 0) = (chg (gsg (sh2 a (227 + (17 * p))) (a (225 + (17 * p)))) (a (225 + (17 * p))) (Int.toNat (k + 1))) by rw [chg_s h0, gsg_k]; unfold sgn3; (repeat' split) <;> first | rfl | omega)) rfl ?_
        refine g_cast (ws' := [((Q 0), .inr (12, [vR (Q 1), vR (Q 2), vR (Q 3), vR (Q 4), vR (Q 5), vI pn, vR (Q 6), vL f0, vL f1, vL f2, vL f3, vL px, vL py, vL pb, vI rg, vI wr, vR (Q 7), vI rn, vR (Q 8), vI wn])), ((Q 1), cL E 310 a)]) (lv' := [(0, vR (Q 0)), (1, vI p), (2, vI (a (225 + (17 * p)))), (3, vI (chg (gsg (sh2 a (227 + (17 * p))) (a (225 + (17 * p)))) (a (225 + (17 * p))) (Int.toNat (k + 1)))), (4, vI (lsg (gsg (sh2 a (227 + (17 * p))) (a (225 + (17 * p)))) 0 (Int.toNat (k + 1)))), (5, vI (k + 1))]) (st' := []) rfl (congrArg (fun z_ : Int => ([(0, vR (Q 0)), (1, vI p), (2, vI (a (225 + (17 * p)))), (3, vI (chg (gsg (sh2 a (227 + (17 * p))) (a (225 + (17 * p)))) (a (225 + (17 * p))) (Int.toNat (k + 1)))), (4, vI z_), (5, vI (k + 1))] : List (Nat × Value))) (show 1 = (lsg (gsg (sh2 a (227 + (17 * p))) (a (225 + (17 * p)))) 0 (Int.toNat (k + 1))) by rw [lsg_s h0, gsg_k]; unfold sgn3; (repeat' split) <;> first | rfl | omega)) rfl ?_
        exact ih _ (by omega) (k + 1) (by omega) (by omega) rfl
      refine g_iload C 7 rfl dX11_signChanges_85 rfl ?_
      refine g_iload C 4 rfl dX11_signChanges_87 rfl ?_
      refine g_icmp_eq C (tgt := 96) ⟨by decide, by decide⟩ ⟨by omega, by omega⟩ dX11_signChanges_89 (by decide) rfl (fun c_21 => ?_) (fun c_21 => ?_)
      · refine g_iconst C dX11_signChanges_96 rfl ?_
        refine g_iadd C rfl dX11_signChanges_97 rfl ?_
        refine g_istore_n C (lv' := [(0, vR (Q 0)), (1, vI p), (2, vI (a (225 + (17 * p)))), (3, vI ((chg (gsg (sh2 a (227 + (17 * p))) (a (225 + (17 * p)))) (a (225 + (17 * p))) (Int.toNat k)) + 0)), (4, vI (lsg (gsg (sh2 a (227 + (17 * p))) (a (225 + (17 * p)))) 0 (Int.toNat k))), (5, vI k), (6, vL (((sh2 a (227 + (17 * p))) (Int.tmod (k + 1) (a (225 + (17 * p))))) - ((sh2 a (227 + (17 * p))) (Int.tmod k (a (225 + (17 * p))))))), (8, vI 1)]) [1, 2, 3, 0, 4, 5, 6, 7] (by decide) rfl rfl dX11_signChanges_98 rfl ?_
        refine g_iload C 7 rfl dX11_signChanges_99 rfl ?_
        refine g_if_eq C (tgt := 109) ⟨by decide, by decide⟩ dX11_signChanges_101 (by decide) rfl (fun c_22 => ?_) (fun c_22 => ?_)
        · exact absurd c_22 (by decide)
        refine g_iload C 7 rfl dX11_signChanges_104 rfl ?_
        refine g_goto C (pc' := 111) dX11_signChanges_106 (by decide) ?_
        refine g_istore C (lv' := [(0, vR (Q 0)), (1, vI p), (2, vI (a (225 + (17 * p)))), (3, vI ((chg (gsg (sh2 a (227 + (17 * p))) (a (225 + (17 * p)))) (a (225 + (17 * p))) (Int.toNat k)) + 0)), (4, vI 1), (5, vI k), (6, vL (((sh2 a (227 + (17 * p))) (Int.tmod (k + 1) (a (225 + (17 * p))))) - ((sh2 a (227 + (17 * p))) (Int.tmod k (a (225 + (17 * p))))))), (8, vI 1)]) [1, 2, 3, 4, 0, 5, 6, 7] (by decide) rfl rfl dX11_signChanges_111 rfl ?_
        refine g_iinc C (r := (k + 1)) (lv' := [(0, vR (Q 0)), (1, vI p), (2, vI (a (225 + (17 * p)))), (3, vI ((chg (gsg (sh2 a (227 + (17 * p))) (a (225 + (17 * p)))) (a (225 + (17 * p))) (Int.toNat k)) + 0)), (4, vI 1), (5, vI (k + 1)), (6, vL (((sh2 a (227 + (17 * p))) (Int.tmod (k + 1) (a (225 + (17 * p))))) - ((sh2 a (227 + (17 * p))) (Int.tmod k (a (225 + (17 * p))))))), (8, vI 1)]) 5 [1, 2, 3, 4, 5, 0, 6, 7] rfl rfl (by decide) rfl rfl dX11_signChanges_113 rfl ?_
        refine g_goto C (pc' := 14) dX11_signChanges_116 (by decide) ?_
        refine g_lv (lv' := [(0, vR (Q 0)), (1, vI p), (2, vI (a (225 + (17 * p)))), (3, vI ((chg (gsg (sh2 a (227 + (17 * p))) (a (225 + (17 * p)))) (a (225 + (17 * p))) (Int.toNat k)) + 0)), (4, vI 1), (5, vI (k + 1))]) [0, 1, 2, 3, 4, 5] rfl ?_
        refine g_cast (ws' := [((Q 0), .inr (12, [vR (Q 1), vR (Q 2), vR (Q 3), vR (Q 4), vR (Q 5), vI pn, vR (Q 6), vL f0, vL f1, vL f2, vL f3, vL px, vL py, vL pb, vI rg, vI wr, vR (Q 7), vI rn, vR (Q 8), vI wn])), ((Q 1), cL E 310 a)]) (lv' := [(0, vR (Q 0)), (1, vI p), (2, vI (a (225 + (17 * p)))), (3, vI (chg (gsg (sh2 a (227 + (17 * p))) (a (225 + (17 * p)))) (a (225 + (17 * p))) (Int.toNat (k + 1)))), (4, vI 1), (5, vI (k + 1))]) (st' := []) rfl (congrArg (fun z_ : Int => ([(0, vR (Q 0)), (1, vI p), (2, vI (a (225 + (17 * p)))), (3, vI z_), (4, vI 1), (5, vI (k + 1))] : List (Nat × Value))) (show ((chg (gsg (sh2 a (227 + (17 * p))) (a (225 + (17 * p)))) (a (225 + (17 * p))) (Int.toNat k)) + 0) = (chg (gsg (sh2 a (227 + (17 * p))) (a (225 + (17 * p)))) (a (225 + (17 * p))) (Int.toNat (k + 1))) by rw [chg_s h0, gsg_k]; unfold sgn3; (repeat' split) <;> first | rfl | omega)) rfl ?_
        refine g_cast (ws' := [((Q 0), .inr (12, [vR (Q 1), vR (Q 2), vR (Q 3), vR (Q 4), vR (Q 5), vI pn, vR (Q 6), vL f0, vL f1, vL f2, vL f3, vL px, vL py, vL pb, vI rg, vI wr, vR (Q 7), vI rn, vR (Q 8), vI wn])), ((Q 1), cL E 310 a)]) (lv' := [(0, vR (Q 0)), (1, vI p), (2, vI (a (225 + (17 * p)))), (3, vI (chg (gsg (sh2 a (227 + (17 * p))) (a (225 + (17 * p)))) (a (225 + (17 * p))) (Int.toNat (k + 1)))), (4, vI (lsg (gsg (sh2 a (227 + (17 * p))) (a (225 + (17 * p)))) 0 (Int.toNat (k + 1)))), (5, vI (k + 1))]) (st' := []) rfl (congrArg (fun z_ : Int => ([(0, vR (Q 0)), (1, vI p), (2, vI (a (225 + (17 * p)))), (3, vI (chg (gsg (sh2 a (227 + (17 * p))) (a (225 + (17 * p)))) (a (225 + (17 * p))) (Int.toNat (k + 1)))), (4, vI z_), (5, vI (k + 1))] : List (Nat × Value))) (show 1 = (lsg (gsg (sh2 a (227 + (17 * p))) (a (225 + (17 * p)))) 0 (Int.toNat (k + 1))) by rw [lsg_s h0, gsg_k]; unfold sgn3; (repeat' split) <;> first | rfl | omega)) rfl ?_
        exact ih _ (by omega) (k + 1) (by omega) (by omega) rfl
      refine g_iconst C dX11_signChanges_92 rfl ?_
      refine g_goto C (pc' := 97) dX11_signChanges_93 (by decide) ?_
      refine g_iadd C rfl dX11_signChanges_97 rfl ?_
      refine g_istore_n C (lv' := [(0, vR (Q 0)), (1, vI p), (2, vI (a (225 + (17 * p)))), (3, vI ((chg (gsg (sh2 a (227 + (17 * p))) (a (225 + (17 * p)))) (a (225 + (17 * p))) (Int.toNat k)) + 1)), (4, vI (lsg (gsg (sh2 a (227 + (17 * p))) (a (225 + (17 * p)))) 0 (Int.toNat k))), (5, vI k), (6, vL (((sh2 a (227 + (17 * p))) (Int.tmod (k + 1) (a (225 + (17 * p))))) - ((sh2 a (227 + (17 * p))) (Int.tmod k (a (225 + (17 * p))))))), (8, vI 1)]) [1, 2, 3, 0, 4, 5, 6, 7] (by decide) rfl rfl dX11_signChanges_98 rfl ?_
      refine g_iload C 7 rfl dX11_signChanges_99 rfl ?_
      refine g_if_eq C (tgt := 109) ⟨by decide, by decide⟩ dX11_signChanges_101 (by decide) rfl (fun c_23 => ?_) (fun c_23 => ?_)
      · exact absurd c_23 (by decide)
      refine g_iload C 7 rfl dX11_signChanges_104 rfl ?_
      refine g_goto C (pc' := 111) dX11_signChanges_106 (by decide) ?_
      refine g_istore C (lv' := [(0, vR (Q 0)), (1, vI p), (2, vI (a (225 + (17 * p)))), (3, vI ((chg (gsg (sh2 a (227 + (17 * p))) (a (225 + (17 * p)))) (a (225 + (17 * p))) (Int.toNat k)) + 1)), (4, vI 1), (5, vI k), (6, vL (((sh2 a (227 + (17 * p))) (Int.tmod (k + 1) (a (225 + (17 * p))))) - ((sh2 a (227 + (17 * p))) (Int.tmod k (a (225 + (17 * p))))))), (8, vI 1)]) [1, 2, 3, 4, 0, 5, 6, 7] (by decide) rfl rfl dX11_signChanges_111 rfl ?_
      refine g_iinc C (r := (k + 1)) (lv' := [(0, vR (Q 0)), (1, vI p), (2, vI (a (225 + (17 * p)))), (3, vI ((chg (gsg (sh2 a (227 + (17 * p))) (a (225 + (17 * p)))) (a (225 + (17 * p))) (Int.toNat k)) + 1)), (4, vI 1), (5, vI (k + 1)), (6, vL (((sh2 a (227 + (17 * p))) (Int.tmod (k + 1) (a (225 + (17 * p))))) - ((sh2 a (227 + (17 * p))) (Int.tmod k (a (225 + (17 * p))))))), (8, vI 1)]) 5 [1, 2, 3, 4, 5, 0, 6, 7] rfl rfl (by decide) rfl rfl dX11_signChanges_113 rfl ?_
      refine g_goto C (pc' := 14) dX11_signChanges_116 (by decide) ?_
      refine g_lv (lv' := [(0, vR (Q 0)), (1, vI p), (2, vI (a (225 + (17 * p)))), (3, vI ((chg (gsg (sh2 a (227 + (17 * p))) (a (225 + (17 * p)))) (a (225 + (17 * p))) (Int.toNat k)) + 1)), (4, vI 1), (5, vI (k + 1))]) [0, 1, 2, 3, 4, 5] rfl ?_
      refine g_cast (ws' := [((Q 0), .inr (12, [vR (Q 1), vR (Q 2), vR (Q 3), vR (Q 4), vR (Q 5), vI pn, vR (Q 6), vL f0, vL f1, vL f2, vL f3, vL px, vL py, vL pb, vI rg, vI wr, vR (Q 7), vI rn, vR (Q 8), vI wn])), ((Q 1), cL E 310 a)]) (lv' := [(0, vR (Q 0)), (1, vI p), (2, vI (a (225 + (17 * p)))), (3, vI (chg (gsg (sh2 a (227 + (17 * p))) (a (225 + (17 * p)))) (a (225 + (17 * p))) (Int.toNat (k + 1)))), (4, vI 1), (5, vI (k + 1))]) (st' := []) rfl (congrArg (fun z_ : Int => ([(0, vR (Q 0)), (1, vI p), (2, vI (a (225 + (17 * p)))), (3, vI z_), (4, vI 1), (5, vI (k + 1))] : List (Nat × Value))) (show ((chg (gsg (sh2 a (227 + (17 * p))) (a (225 + (17 * p)))) (a (225 + (17 * p))) (Int.toNat k)) + 1) = (chg (gsg (sh2 a (227 + (17 * p))) (a (225 + (17 * p)))) (a (225 + (17 * p))) (Int.toNat (k + 1))) by rw [chg_s h0, gsg_k]; unfold sgn3; (repeat' split) <;> first | rfl | omega)) rfl ?_
      refine g_cast (ws' := [((Q 0), .inr (12, [vR (Q 1), vR (Q 2), vR (Q 3), vR (Q 4), vR (Q 5), vI pn, vR (Q 6), vL f0, vL f1, vL f2, vL f3, vL px, vL py, vL pb, vI rg, vI wr, vR (Q 7), vI rn, vR (Q 8), vI wn])), ((Q 1), cL E 310 a)]) (lv' := [(0, vR (Q 0)), (1, vI p), (2, vI (a (225 + (17 * p)))), (3, vI (chg (gsg (sh2 a (227 + (17 * p))) (a (225 + (17 * p)))) (a (225 + (17 * p))) (Int.toNat (k + 1)))), (4, vI (lsg (gsg (sh2 a (227 + (17 * p))) (a (225 + (17 * p)))) 0 (Int.toNat (k + 1)))), (5, vI (k + 1))]) (st' := []) rfl (congrArg (fun z_ : Int => ([(0, vR (Q 0)), (1, vI p), (2, vI (a (225 + (17 * p)))), (3, vI (chg (gsg (sh2 a (227 + (17 * p))) (a (225 + (17 * p)))) (a (225 + (17 * p))) (Int.toNat (k + 1)))), (4, vI z_), (5, vI (k + 1))] : List (Nat × Value))) (show 1 = (lsg (gsg (sh2 a (227 + (17 * p))) (a (225 + (17 * p)))) 0 (Int.toNat (k + 1))) by rw [lsg_s h0, gsg_k]; unfold sgn3; (repeat' split) <;> first | rfl | omega)) rfl ?_
      exact ih _ (by omega) (k + 1) (by omega) (by omega) rfl
  refine g_cast (ws' := [((Q 0), .inr (12, [vR (Q 1), vR (Q 2), vR (Q 3), vR (Q 4), vR (Q 5), vI pn, vR (Q 6), vL f0, vL f1, vL f2, vL f3, vL px, vL py, vL pb, vI rg, vI wr, vR (Q 7), vI rn, vR (Q 8), vI wn])), ((Q 1), cL E 310 a)]) (lv' := [(0, vR (Q 0)), (1, vI p), (2, vI (a (225 + (17 * p)))), (3, vI (chg (gsg (sh2 a (227 + (17 * p))) (a (225 + (17 * p)))) (a (225 + (17 * p))) (Int.toNat 0))), (4, vI 0), (5, vI 0)]) (st' := []) rfl (congrArg (fun z_ : Int => ([(0, vR (Q 0)), (1, vI p), (2, vI (a (225 + (17 * p)))), (3, vI z_), (4, vI 0), (5, vI 0)] : List (Nat × Value))) (show 0 = (chg (gsg (sh2 a (227 + (17 * p))) (a (225 + (17 * p)))) (a (225 + (17 * p))) (Int.toNat 0)) by rfl)) rfl ?_
  refine g_cast (ws' := [((Q 0), .inr (12, [vR (Q 1), vR (Q 2), vR (Q 3), vR (Q 4), vR (Q 5), vI pn, vR (Q 6), vL f0, vL f1, vL f2, vL f3, vL px, vL py, vL pb, vI rg, vI wr, vR (Q 7), vI rn, vR (Q 8), vI wn])), ((Q 1), cL E 310 a)]) (lv' := [(0, vR (Q 0)), (1, vI p), (2, vI (a (225 + (17 * p)))), (3, vI (chg (gsg (sh2 a (227 + (17 * p))) (a (225 + (17 * p)))) (a (225 + (17 * p))) (Int.toNat 0))), (4, vI (lsg (gsg (sh2 a (227 + (17 * p))) (a (225 + (17 * p)))) 0 (Int.toNat 0))), (5, vI 0)]) (st' := []) rfl (congrArg (fun z_ : Int => ([(0, vR (Q 0)), (1, vI p), (2, vI (a (225 + (17 * p)))), (3, vI (chg (gsg (sh2 a (227 + (17 * p))) (a (225 + (17 * p)))) (a (225 + (17 * p))) (Int.toNat 0))), (4, vI z_), (5, vI 0)] : List (Nat × Value))) (show 0 = (lsg (gsg (sh2 a (227 + (17 * p))) (a (225 + (17 * p)))) 0 (Int.toNat 0)) by rfl)) rfl ?_
  exact hL_14 _ 0 (by omega) (by omega) rfl

theorem hyd_X11_signChanges : yX11_signChanges.cls ≠ "java/lang/invoke/MethodHandle" ∧ yX11_signChanges.cls ≠ "java/lang/invoke/VarHandle" ∧ (parseMethodDescriptor yX11_signChanges.desc).map (fun d => d.parameters.length) = some 1 := by decide +kernel
theorem hyd_X11_turnsLeft : yX11_turnsLeft.cls ≠ "java/lang/invoke/MethodHandle" ∧ yX11_turnsLeft.cls ≠ "java/lang/invoke/VarHandle" ∧ (parseMethodDescriptor yX11_turnsLeft.desc).map (fun d => d.parameters.length) = some 2 := by decide +kernel
abbrev rm_K_m_sound : Room := { frames := 3, cells := 0, slots := 0, locals := 79 }
set_option maxHeartbeats 8000000 in
set_option maxRecDepth 100000 in
theorem K_m_sound (l : Launch) (E : Ev) (Q : Nat → Nat) (pn f0 f1 f2 f3 px py pb rg wr rn wn : Int) (a : Int → Int) (p : Int) (hp : 0 ≤ p ∧ p ≤ 4) (hn : 0 ≤ a (225 + 17 * p) ∧ a (225 + 17 * p) ≤ 8) (hX : cbA (sh2 a (226 + 17 * p))) (hY : cbA (sh2 a (227 + 17 * p))) : Mc l yX11_soundness wsX11_soundness rm_K_m_sound E [vR (Q 0), vI p] [((Q 0), .inr (12, [vR (Q 1), vR (Q 2), vR (Q 3), vR (Q 4), vR (Q 5), vI pn, vR (Q 6), vL f0, vL f1, vL f2, vL f3, vL px, vL py, vL pb, vI rg, vI wr, vR (Q 7), vI rn, vR (Q 8), vI wn])), ((Q 1), cL E 310 a)] 0 0 (fun v9 w9 => v9 = some (vI (sndA a p)) ∧ w9 = [((Q 0), .inr (12, [vR (Q 1), vR (Q 2), vR (Q 3), vR (Q 4), vR (Q 5), vI pn, vR (Q 6), vL f0, vL f1, vL f2, vL f3, vL px, vL py, vL pb, vI rg, vI wr, vR (Q 7), vI rn, vR (Q 8), vI wn])), ((Q 1), cL E 310 a)]) := by
  refine Mc.intro (cc := cX11_soundness) (maxL := 4) (ret := (some .int)) (lv0 := [(0, vR (Q 0)), (1, vI p)]) (by decide +kernel) rfl rfl (Nat.le_of_ble_eq_true rfl) ?_
  intro p9 e9 s9 m9 args9 below9 meth9 c9 A9 C hr hmn
  have C : Cx p9 s9 m9 args9 meth9 c9 E A9 4 cX11_soundness wsX11_soundness RX11 := C
  refine g_aload_n C 0 rfl dX11_soundness_0 rfl ?_
  refine g_iload_n C 1 rfl dX11_soundness_1 rfl ?_
  refine g_callV C (b := (Q 0)) (As := [vI p]) (wc := [((Q 0), .inr (12, [vR (Q 1), vR (Q 2), vR (Q 3), vR (Q 4), vR (Q 5), vI pn, vR (Q 6), vL f0, vL f1, vL f2, vL f3, vL px, vL py, vL pb, vI rg, vI wr, vR (Q 7), vI rn, vR (Q 8), vI wn])), ((Q 1), cL E 310 a)]) (wr := []) (st := []) gX11_soundness_X11_corners (q9 := 0) (ci := 12) rfl rfl rfl (K_m_corners l E Q pn f0 f1 f2 f3 px py pb rg wr rn wn a p hp) hyd_X11_corners rfl [0, 1] [] rfl rfl rfl rfl rfl (by decide) ⟨rfl, rfl⟩ ⟨Nat.le_of_ble_eq_true rfl, Nat.le_of_ble_eq_true rfl, Nat.le_of_ble_eq_true rfl, Nat.le_of_ble_eq_true rfl⟩ (Nat.le_of_ble_eq_true rfl) dX11_soundness_2 (rfl : _ = 0) (rfl : _ = 0) rfl ?_
  rintro _ _ ⟨rfl, rfl⟩
  refine g_is (ws' := [((Q 0), .inr (12, [vR (Q 1), vR (Q 2), vR (Q 3), vR (Q 4), vR (Q 5), vI pn, vR (Q 6), vL f0, vL f1, vL f2, vL f3, vL px, vL py, vL pb, vI rg, vI wr, vR (Q 7), vI rn, vR (Q 8), vI wn])), ((Q 1), cL E 310 a)]) (st' := [vI (a (225 + (17 * p)))]) rfl rfl ?_
  refine g_istore_n C (lv' := [(0, vR (Q 0)), (1, vI p), (2, vI (a (225 + (17 * p))))]) [1, 2, 0] (by decide) rfl rfl dX11_soundness_5 rfl ?_
  refine g_iload_n C 2 rfl dX11_soundness_6 rfl ?_
  refine g_iconst C dX11_soundness_7 rfl ?_
  refine g_icmp_ge C (tgt := 13) ⟨by omega, by omega⟩ ⟨by decide, by decide⟩ dX11_soundness_8 (by decide) rfl (fun c_1 => ?_) (fun c_1 => ?_)
  · refine g_iconst C dX11_soundness_13 rfl ?_
    refine g_istore_n C (lv' := [(0, vR (Q 0)), (1, vI p), (2, vI (a (225 + (17 * p)))), (3, vI 0)]) [1, 2, 3, 0] (by decide) rfl rfl dX11_soundness_14 rfl ?_
    have hL_15 : ∀ (fuel : Nat) (i : Int) (h0 : 0 ≤ i) (h1 : i ≤ a (225 + 17 * p)) (h3 : 3 ≤ a (225 + 17 * p)) (hal : allB (tlB (sh2 a (226 + 17 * p)) (sh2 a (227 + 17 * p)) (a (225 + 17 * p))) (Int.toNat i) = true) (hfu : (a (225 + 17 * p) - i).toNat = fuel), G p9 l e9 rm_K_m_sound s9 m9 args9 below9 meth9 c9 (RQ E (fun v9 w9 => v9 = some (vI (sndA a p)) ∧ w9 = [((Q 0), .inr (12, [vR (Q 1), vR (Q 2), vR (Q 3), vR (Q 4), vR (Q 5), vI pn, vR (Q 6), vL f0, vL f1, vL f2, vL f3, vL px, vL py, vL pb, vI rg, vI wr, vR (Q 7), vI rn, vR (Q 8), vI wn])), ((Q 1), cL E 310 a)]) A9 below9 args9 s9 0 0) E A9 4 0 0 [((Q 0), .inr (12, [vR (Q 1), vR (Q 2), vR (Q 3), vR (Q 4), vR (Q 5), vI pn, vR (Q 6), vL f0, vL f1, vL f2, vL f3, vL px, vL py, vL pb, vI rg, vI wr, vR (Q 7), vI rn, vR (Q 8), vI wn])), ((Q 1), cL E 310 a)] [(0, vR (Q 0)), (1, vI p), (2, vI (a (225 + (17 * p)))), (3, vI i)] 15 [] := by
      intro fuel
      induction fuel using Nat.strongRecOn with
      | ind fuel ih =>
        intro i h0 h1 h3 hal hfu
        refine g_iload_n C 3 rfl dX11_soundness_15 rfl ?_
        refine g_iload_n C 2 rfl dX11_soundness_16 rfl ?_
        refine g_icmp_ge C (tgt := 37) ⟨by omega, by omega⟩ ⟨by omega, by omega⟩ dX11_soundness_17 (by decide) rfl (fun c_2 => ?_) (fun c_2 => ?_)
        · refine g_aload_n C 0 rfl dX11_soundness_37 rfl ?_
          refine g_iload_n C 1 rfl dX11_soundness_38 rfl ?_
          refine g_callV C (b := (Q 0)) (As := [vI p]) (wc := [((Q 0), .inr (12, [vR (Q 1), vR (Q 2), vR (Q 3), vR (Q 4), vR (Q 5), vI pn, vR (Q 6), vL f0, vL f1, vL f2, vL f3, vL px, vL py, vL pb, vI rg, vI wr, vR (Q 7), vI rn, vR (Q 8), vI wn])), ((Q 1), cL E 310 a)]) (wr := []) (st := []) gX11_soundness_X11_signChanges (q9 := 0) (ci := 12) rfl rfl rfl (K_m_signs l E Q pn f0 f1 f2 f3 px py pb rg wr rn wn a p hp (by first | assumption | omega) hX hY) hyd_X11_signChanges rfl [0, 1] [] rfl rfl rfl rfl rfl (by decide) ⟨rfl, rfl⟩ ⟨Nat.le_of_ble_eq_true rfl, Nat.le_of_ble_eq_true rfl, Nat.le_of_ble_eq_true rfl, Nat.le_of_ble_eq_true rfl⟩ (Nat.le_of_ble_eq_true rfl) dX11_soundness_39 (rfl : _ = 0) (rfl : _ = 0) rfl ?_
          rintro _ _ ⟨rfl, rfl⟩
          refine g_is (ws' := [((Q 0), .inr (12, [vR (Q 1), vR (Q 2), vR (Q 3), vR (Q 4), vR (Q 5), vI pn, vR (Q 6), vL f0, vL f1, vL f2, vL f3, vL px, vL py, vL pb, vI rg, vI wr, vR (Q 7), vI rn, vR (Q 8), vI wn])), ((Q 1), cL E 310 a)]) (st' := [vI (yturns (sh2 a (227 + (17 * p))) (a (225 + (17 * p))))]) rfl rfl ?_
          have ty := tcn_r (f := ysg (sh2 a (227 + 17 * p)) (a (225 + 17 * p))) (b := lsg (ysg (sh2 a (227 + 17 * p)) (a (225 + 17 * p))) 0 (Int.toNat (a (225 + 17 * p)))) (Int.toNat (a (225 + 17 * p)))
          have ty2 : bi (yturns (sh2 a (227 + 17 * p)) (a (225 + 17 * p))) := by unfold yturns; exact ⟨by omega, by omega⟩
          refine g_iconst C dX11_soundness_42 rfl ?_
          refine g_icmp_ne C (tgt := 50) (ty2) ⟨by decide, by decide⟩ dX11_soundness_43 (by decide) rfl (fun c_3 => ?_) (fun c_3 => ?_)
          · refine g_iconst C dX11_soundness_50 rfl ?_
            refine g_top (v' := vI (sndA a p)) (congrArg (fun z_ : Int => vI z_) (show (sndA a p) = 3 by unfold sndA snd; rw [if_neg (by omega), if_pos (by rw [show Int.toNat (a (225 + 17 * p)) = Int.toNat i by omega]; exact hal)]; first | rw [if_pos (by assumption)] | rw [if_neg (by assumption)])) ?_
            exact g_iret C hr rfl (Nat.le_of_ble_eq_true rfl) (Nat.le_of_ble_eq_true rfl) dX11_soundness_51 ⟨rfl, rfl⟩
          refine g_iconst C dX11_soundness_46 rfl ?_
          refine g_goto C (pc' := 51) dX11_soundness_47 (by decide) ?_
          refine g_top (v' := vI (sndA a p)) (congrArg (fun z_ : Int => vI z_) (show (sndA a p) = 0 by unfold sndA snd; rw [if_neg (by omega), if_pos (by rw [show Int.toNat (a (225 + 17 * p)) = Int.toNat i by omega]; exact hal)]; first | rw [if_pos (by assumption)] | rw [if_neg (by assumption)])) ?_
          exact g_iret C hr rfl (Nat.le_of_ble_eq_true rfl) (Nat.le_of_ble_eq_true rfl) dX11_soundness_51 ⟨rfl, rfl⟩
        refine g_aload_n C 0 rfl dX11_soundness_20 rfl ?_
        refine g_iload_n C 1 rfl dX11_soundness_21 rfl ?_
        refine g_iload_n C 3 rfl dX11_soundness_22 rfl ?_
        refine g_callV C (b := (Q 0)) (As := [vI p, vI i]) (wc := [((Q 0), .inr (12, [vR (Q 1), vR (Q 2), vR (Q 3), vR (Q 4), vR (Q 5), vI pn, vR (Q 6), vL f0, vL f1, vL f2, vL f3, vL px, vL py, vL pb, vI rg, vI wr, vR (Q 7), vI rn, vR (Q 8), vI wn])), ((Q 1), cL E 310 a)]) (wr := []) (st := []) gX11_soundness_X11_turnsLeft (q9 := 0) (ci := 12) rfl rfl rfl (K_m_tl l E Q pn f0 f1 f2 f3 px py pb rg wr rn wn a p i hp (by first | assumption | omega) (by first | assumption | omega) hX hY) hyd_X11_turnsLeft rfl [0, 1] [] rfl rfl rfl rfl rfl (by decide) ⟨rfl, rfl⟩ ⟨Nat.le_of_ble_eq_true rfl, Nat.le_of_ble_eq_true rfl, Nat.le_of_ble_eq_true rfl, Nat.le_of_ble_eq_true rfl⟩ (Nat.le_of_ble_eq_true rfl) dX11_soundness_23 (rfl : _ = 0) (rfl : _ = 0) rfl ?_
        rintro _ _ ⟨rfl, rfl⟩
        refine g_is (ws' := [((Q 0), .inr (12, [vR (Q 1), vR (Q 2), vR (Q 3), vR (Q 4), vR (Q 5), vI pn, vR (Q 6), vL f0, vL f1, vL f2, vL f3, vL px, vL py, vL pb, vI rg, vI wr, vR (Q 7), vI rn, vR (Q 8), vI wn])), ((Q 1), cL E 310 a)]) (st' := [vI (bP (tlB (sh2 a (226 + 17 * p)) (sh2 a (227 + 17 * p)) (a (225 + 17 * p)) i = true))]) rfl rfl ?_
        refine g_ifb_ne C (tgt := 31) dX11_soundness_26 (by decide) rfl (fun c_4 => ?_) (fun c_4 => ?_)
        · refine g_iinc C (r := (i + 1)) (lv' := [(0, vR (Q 0)), (1, vI p), (2, vI (a (225 + (17 * p)))), (3, vI (i + 1))]) 3 [1, 2, 3, 0] rfl rfl (by decide) rfl rfl dX11_soundness_31 rfl ?_
          refine g_goto C (pc' := 15) dX11_soundness_34 (by decide) ?_
          exact ih _ (by omega) (i + 1) (by omega) (by omega) (by omega) (allB_s (by omega) rfl hal c_4) rfl
        refine g_iconst C dX11_soundness_29 rfl ?_
        refine g_top (v' := vI (sndA a p)) (congrArg (fun z_ : Int => vI z_) (show (sndA a p) = 2 by unfold sndA snd; rw [if_neg (by omega), if_neg (fun q => c_4 (allB_t.mp q i h0 (by omega)))])) ?_
        exact g_iret C hr rfl (Nat.le_of_ble_eq_true rfl) (Nat.le_of_ble_eq_true rfl) dX11_soundness_30 ⟨rfl, rfl⟩
    exact hL_15 _ 0 (by omega) (by omega) (by omega) rfl rfl
  refine g_iconst C dX11_soundness_11 rfl ?_
  refine g_top (v' := vI (sndA a p)) (congrArg (fun z_ : Int => vI z_) (show (sndA a p) = 1 by unfold sndA snd; rw [if_pos (by omega)])) ?_
  exact g_iret C hr rfl (Nat.le_of_ble_eq_true rfl) (Nat.le_of_ble_eq_true rfl) dX11_soundness_12 ⟨rfl, rfl⟩

theorem hyd_X11_soundness : yX11_soundness.cls ≠ "java/lang/invoke/MethodHandle" ∧ yX11_soundness.cls ≠ "java/lang/invoke/VarHandle" ∧ (parseMethodDescriptor yX11_soundness.desc).map (fun d => d.parameters.length) = some 1 := by decide +kernel
abbrev rm_K_m_holds : Room := { frames := 4, cells := 0, slots := 0, locals := 102 }
set_option maxHeartbeats 8000000 in
set_option maxRecDepth 100000 in
theorem K_m_holds (l : Launch) (E : Ev) (Q : Nat → Nat) (pn f0 f1 f2 f3 px py pb rg wr rn wn : Int) (a : Int → Int) (p x y d : Int) (hp : 0 ≤ p ∧ p ≤ 4) (hn : 0 ≤ a (225 + 17 * p) ∧ a (225 + 17 * p) ≤ 8) (hX : cbA (sh2 a (226 + 17 * p))) (hY : cbA (sh2 a (227 + 17 * p))) (hx : -5300000000000 ≤ x ∧ x ≤ 5300000000000) (hy : -5300000000000 ≤ y ∧ y ≤ 5300000000000) (hd : 0 ≤ d ∧ d ≤ 5210000000) : Mc l yX11_holds wsX11_holds rm_K_m_holds E [vR (Q 0), vI p, vL x, vL y, vL d] [((Q 0), .inr (12, [vR (Q 1), vR (Q 2), vR (Q 3), vR (Q 4), vR (Q 5), vI pn, vR (Q 6), vL f0, vL f1, vL f2, vL f3, vL px, vL py, vL pb, vI rg, vI wr, vR (Q 7), vI rn, vR (Q 8), vI wn])), ((Q 1), cL E 310 a)] 0 0 (fun v9 w9 => v9 = some (vI (bP (hldA a p x y d = true))) ∧ w9 = [((Q 0), .inr (12, [vR (Q 1), vR (Q 2), vR (Q 3), vR (Q 4), vR (Q 5), vI pn, vR (Q 6), vL f0, vL f1, vL f2, vL f3, vL px, vL py, vL pb, vI rg, vI wr, vR (Q 7), vI rn, vR (Q 8), vI wn])), ((Q 1), cL E 310 a)]) := by
  refine Mc.intro (cc := cX11_holds) (maxL := 18) (ret := (some .boolean)) (lv0 := [(0, vR (Q 0)), (1, vI p), (2, vL x), (4, vL y), (6, vL d)]) (by decide +kernel) rfl rfl (Nat.le_of_ble_eq_true rfl) ?_
  intro p9 e9 s9 m9 args9 below9 meth9 c9 A9 C hr hmn
  have C : Cx p9 s9 m9 args9 meth9 c9 E A9 18 cX11_holds wsX11_holds RX11 := C
  refine g_aload_n C 0 rfl dX11_holds_0 rfl ?_
  refine g_iload_n C 1 rfl dX11_holds_1 rfl ?_
  refine g_callV C (b := (Q 0)) (As := [vI p]) (wc := [((Q 0), .inr (12, [vR (Q 1), vR (Q 2), vR (Q 3), vR (Q 4), vR (Q 5), vI pn, vR (Q 6), vL f0, vL f1, vL f2, vL f3, vL px, vL py, vL pb, vI rg, vI wr, vR (Q 7), vI rn, vR (Q 8), vI wn])), ((Q 1), cL E 310 a)]) (wr := []) (st := []) gX11_holds_X11_soundness (q9 := 0) (ci := 12) rfl rfl rfl (K_m_sound l E Q pn f0 f1 f2 f3 px py pb rg wr rn wn a p hp hn hX hY) hyd_X11_soundness rfl [0, 1] [] rfl rfl rfl rfl rfl (by decide) ⟨rfl, rfl⟩ ⟨Nat.le_of_ble_eq_true rfl, Nat.le_of_ble_eq_true rfl, Nat.le_of_ble_eq_true rfl, Nat.le_of_ble_eq_true rfl⟩ (Nat.le_of_ble_eq_true rfl) dX11_holds_2 (rfl : _ = 0) (rfl : _ = 0) rfl ?_
  rintro _ _ ⟨rfl, rfl⟩
  refine g_is (ws' := [((Q 0), .inr (12, [vR (Q 1), vR (Q 2), vR (Q 3), vR (Q 4), vR (Q 5), vI pn, vR (Q 6), vL f0, vL f1, vL f2, vL f3, vL px, vL py, vL pb, vI rg, vI wr, vR (Q 7), vI rn, vR (Q 8), vI wn])), ((Q 1), cL E 310 a)]) (st' := [vI (sndA a p)]) rfl rfl ?_
  have sr := snd_r (sh2 a (226 + 17 * p)) (sh2 a (227 + 17 * p)) (a (225 + 17 * p))
  have sr2 : bi (sndA a p) := by unfold sndA; exact ⟨by omega, by omega⟩
  refine g_if_eq C (tgt := 10) (sr2) dX11_holds_5 (by decide) rfl (fun c_1 => ?_) (fun c_1 => ?_)
  · refine g_iconst C dX11_holds_10 rfl ?_
    refine g_istore C (lv' := [(0, vR (Q 0)), (1, vI p), (2, vL x), (4, vL y), (6, vL d), (8, vI 1)]) [1, 2, 3, 4, 5, 0] (by decide) rfl rfl dX11_holds_11 rfl ?_
    refine g_iconst C dX11_holds_13 rfl ?_
    refine g_istore C (lv' := [(0, vR (Q 0)), (1, vI p), (2, vL x), (4, vL y), (6, vL d), (8, vI 1), (9, vI 0)]) [1, 2, 3, 4, 5, 6, 0] (by decide) rfl rfl dX11_holds_14 rfl ?_
    have hL_16 : ∀ (fuel : Nat) (i : Int) (r : Int) (h0 : 0 ≤ i) (h1 : i ≤ a (225 + 17 * p)) (hs : sndA a p = 0) (hr9 : r = b01 (allB (ylB (sh2 a (226 + 17 * p)) (sh2 a (227 + 17 * p)) (a (225 + 17 * p)) x y d) (Int.toNat i))) (hfu : (a (225 + 17 * p) - i).toNat = fuel), G p9 l e9 rm_K_m_holds s9 m9 args9 below9 meth9 c9 (RQ E (fun v9 w9 => v9 = some (vI (bP (hldA a p x y d = true))) ∧ w9 = [((Q 0), .inr (12, [vR (Q 1), vR (Q 2), vR (Q 3), vR (Q 4), vR (Q 5), vI pn, vR (Q 6), vL f0, vL f1, vL f2, vL f3, vL px, vL py, vL pb, vI rg, vI wr, vR (Q 7), vI rn, vR (Q 8), vI wn])), ((Q 1), cL E 310 a)]) A9 below9 args9 s9 0 0) E A9 18 0 0 [((Q 0), .inr (12, [vR (Q 1), vR (Q 2), vR (Q 3), vR (Q 4), vR (Q 5), vI pn, vR (Q 6), vL f0, vL f1, vL f2, vL f3, vL px, vL py, vL pb, vI rg, vI wr, vR (Q 7), vI rn, vR (Q 8), vI wn])), ((Q 1), cL E 310 a)] [(0, vR (Q 0)), (1, vI p), (2, vL x), (4, vL y), (6, vL d), (8, vI r), (9, vI i)] 16 [] := by
      intro fuel
      induction fuel using Nat.strongRecOn with
      | ind fuel ih =>
        intro i r h0 h1 hs hr9 hfu
        refine g_iload C 6 rfl dX11_holds_16 rfl ?_
        refine g_aload_n C 0 rfl dX11_holds_18 rfl ?_
        refine g_iload_n C 1 rfl dX11_holds_19 rfl ?_
        refine g_callV C (b := (Q 0)) (As := [vI p]) (wc := [((Q 0), .inr (12, [vR (Q 1), vR (Q 2), vR (Q 3), vR (Q 4), vR (Q 5), vI pn, vR (Q 6), vL f0, vL f1, vL f2, vL f3, vL px, vL py, vL pb, vI rg, vI wr, vR (Q 7), vI rn, vR (Q 8), vI wn])), ((Q 1), cL E 310 a)]) (wr := []) (st := [vI i]) gX11_holds_X11_corners (q9 := 0) (ci := 12) rfl rfl rfl (K_m_corners l E Q pn f0 f1 f2 f3 px py pb rg wr rn wn a p hp) hyd_X11_corners rfl [0, 1] [] rfl rfl rfl rfl rfl (by decide) ⟨rfl, rfl⟩ ⟨Nat.le_of_ble_eq_true rfl, Nat.le_of_ble_eq_true rfl, Nat.le_of_ble_eq_true rfl, Nat.le_of_ble_eq_true rfl⟩ (Nat.le_of_ble_eq_true rfl) dX11_holds_20 (rfl : _ = 0) (rfl : _ = 0) rfl ?_
        rintro _ _ ⟨rfl, rfl⟩
        refine g_is (ws' := [((Q 0), .inr (12, [vR (Q 1), vR (Q 2), vR (Q 3), vR (Q 4), vR (Q 5), vI pn, vR (Q 6), vL f0, vL f1, vL f2, vL f3, vL px, vL py, vL pb, vI rg, vI wr, vR (Q 7), vI rn, vR (Q 8), vI wn])), ((Q 1), cL E 310 a)]) (st' := [vI (a (225 + (17 * p))), vI i]) rfl rfl ?_
        refine g_icmp_ge C (tgt := 121) ⟨by omega, by omega⟩ ⟨by omega, by omega⟩ dX11_holds_23 (by decide) rfl (fun c_2 => ?_) (fun c_2 => ?_)
        · refine g_iload C 5 rfl dX11_holds_121 rfl ?_
          refine g_top (v' := vI (bP (hldA a p x y d = true))) (congrArg (fun z_ : Int => vI z_) (show (bP (hldA a p x y d = true)) = r by rw [hr9]; exact yl_e hs (by omega))) ?_
          exact g_iret C hr (nrZ _) (Nat.le_of_ble_eq_true rfl) (Nat.le_of_ble_eq_true rfl) dX11_holds_123 ⟨rfl, rfl⟩
        have n3 := snd_3 hs
        have t3 := tm_3 (n := a (225 + 17 * p)) h0 (show i < a (225 + 17 * p) by omega) n3
        have hr01 : r = 0 ∨ r = 1 := by rw [hr9]; exact b01_r _
        refine g_aload_n C 0 rfl dX11_holds_26 rfl ?_
        refine g_iload_n C 1 rfl dX11_holds_27 rfl ?_
        refine g_iload C 6 rfl dX11_holds_28 rfl ?_
        refine g_iconst C dX11_holds_30 rfl ?_
        refine g_callV C (b := (Q 0)) (As := [vI p, vI i, vI 0]) (wc := [((Q 0), .inr (12, [vR (Q 1), vR (Q 2), vR (Q 3), vR (Q 4), vR (Q 5), vI pn, vR (Q 6), vL f0, vL f1, vL f2, vL f3, vL px, vL py, vL pb, vI rg, vI wr, vR (Q 7), vI rn, vR (Q 8), vI wn])), ((Q 1), cL E 310 a)]) (wr := []) (st := []) gX11_holds_X11_coordinate (q9 := 0) (ci := 12) rfl rfl rfl (K_m_coord0 l E Q pn f0 f1 f2 f3 px py pb rg wr rn wn a p i hp (by first | assumption | omega) (by first | assumption | omega)) hyd_X11_coordinate rfl [0, 1] [] rfl rfl rfl rfl rfl (by decide) ⟨rfl, rfl⟩ ⟨Nat.le_of_ble_eq_true rfl, Nat.le_of_ble_eq_true rfl, Nat.le_of_ble_eq_true rfl, Nat.le_of_ble_eq_true rfl⟩ (Nat.le_of_ble_eq_true rfl) dX11_holds_31 (rfl : _ = 0) (rfl : _ = 0) rfl ?_
        rintro _ _ ⟨rfl, rfl⟩
        refine g_is (ws' := [((Q 0), .inr (12, [vR (Q 1), vR (Q 2), vR (Q 3), vR (Q 4), vR (Q 5), vI pn, vR (Q 6), vL f0, vL f1, vL f2, vL f3, vL px, vL py, vL pb, vI rg, vI wr, vR (Q 7), vI rn, vR (Q 8), vI wn])), ((Q 1), cL E 310 a)]) (st' := [vL ((sh2 a (226 + (17 * p))) (Int.tmod i (a (225 + (17 * p)))))]) rfl rfl ?_
        refine g_lstore C (lv' := [(0, vR (Q 0)), (1, vI p), (2, vL x), (4, vL y), (6, vL d), (8, vI r), (9, vI i), (10, vL ((sh2 a (226 + (17 * p))) (Int.tmod i (a (225 + (17 * p))))))]) [1, 2, 3, 4, 5, 6, 7, 0] (by decide) rfl rfl dX11_holds_34 rfl ?_
        refine g_aload_n C 0 rfl dX11_holds_36 rfl ?_
        refine g_iload_n C 1 rfl dX11_holds_37 rfl ?_
        refine g_iload C 6 rfl dX11_holds_38 rfl ?_
        refine g_iconst C dX11_holds_40 rfl ?_
        refine g_callV C (b := (Q 0)) (As := [vI p, vI i, vI 1]) (wc := [((Q 0), .inr (12, [vR (Q 1), vR (Q 2), vR (Q 3), vR (Q 4), vR (Q 5), vI pn, vR (Q 6), vL f0, vL f1, vL f2, vL f3, vL px, vL py, vL pb, vI rg, vI wr, vR (Q 7), vI rn, vR (Q 8), vI wn])), ((Q 1), cL E 310 a)]) (wr := []) (st := []) gX11_holds_X11_coordinate (q9 := 0) (ci := 12) rfl rfl rfl (K_m_coord1 l E Q pn f0 f1 f2 f3 px py pb rg wr rn wn a p i hp (by first | assumption | omega) (by first | assumption | omega)) hyd_X11_coordinate rfl [0, 1] [] rfl rfl rfl rfl rfl (by decide) ⟨rfl, rfl⟩ ⟨Nat.le_of_ble_eq_true rfl, Nat.le_of_ble_eq_true rfl, Nat.le_of_ble_eq_true rfl, Nat.le_of_ble_eq_true rfl⟩ (Nat.le_of_ble_eq_true rfl) dX11_holds_41 (rfl : _ = 0) (rfl : _ = 0) rfl ?_
        rintro _ _ ⟨rfl, rfl⟩
        refine g_is (ws' := [((Q 0), .inr (12, [vR (Q 1), vR (Q 2), vR (Q 3), vR (Q 4), vR (Q 5), vI pn, vR (Q 6), vL f0, vL f1, vL f2, vL f3, vL px, vL py, vL pb, vI rg, vI wr, vR (Q 7), vI rn, vR (Q 8), vI wn])), ((Q 1), cL E 310 a)]) (st' := [vL ((sh2 a (227 + (17 * p))) (Int.tmod i (a (225 + (17 * p)))))]) rfl rfl ?_
        refine g_lstore C (lv' := [(0, vR (Q 0)), (1, vI p), (2, vL x), (4, vL y), (6, vL d), (8, vI r), (9, vI i), (10, vL ((sh2 a (226 + (17 * p))) (Int.tmod i (a (225 + (17 * p)))))), (12, vL ((sh2 a (227 + (17 * p))) (Int.tmod i (a (225 + (17 * p))))))]) [1, 2, 3, 4, 5, 6, 7, 8, 0] (by decide) rfl rfl dX11_holds_44 rfl ?_
        refine g_aload_n C 0 rfl dX11_holds_46 rfl ?_
        refine g_iload_n C 1 rfl dX11_holds_47 rfl ?_
        refine g_iload C 6 rfl dX11_holds_48 rfl ?_
        refine g_iconst C dX11_holds_50 rfl ?_
        refine g_iadd C rfl dX11_holds_51 rfl ?_
        refine g_iconst C dX11_holds_52 rfl ?_
        refine g_callV C (b := (Q 0)) (As := [vI p, vI (i + 1), vI 0]) (wc := [((Q 0), .inr (12, [vR (Q 1), vR (Q 2), vR (Q 3), vR (Q 4), vR (Q 5), vI pn, vR (Q 6), vL f0, vL f1, vL f2, vL f3, vL px, vL py, vL pb, vI rg, vI wr, vR (Q 7), vI rn, vR (Q 8), vI wn])), ((Q 1), cL E 310 a)]) (wr := []) (st := []) gX11_holds_X11_coordinate (q9 := 0) (ci := 12) rfl rfl rfl (K_m_coord0 l E Q pn f0 f1 f2 f3 px py pb rg wr rn wn a p (i + 1) hp (by first | assumption | omega) (by first | assumption | omega)) hyd_X11_coordinate rfl [0, 1] [] rfl rfl rfl rfl rfl (by decide) ⟨rfl, rfl⟩ ⟨Nat.le_of_ble_eq_true rfl, Nat.le_of_ble_eq_true rfl, Nat.le_of_ble_eq_true rfl, Nat.le_of_ble_eq_true rfl⟩ (Nat.le_of_ble_eq_true rfl) dX11_holds_53 (rfl : _ = 0) (rfl : _ = 0) rfl ?_
        rintro _ _ ⟨rfl, rfl⟩
        refine g_is (ws' := [((Q 0), .inr (12, [vR (Q 1), vR (Q 2), vR (Q 3), vR (Q 4), vR (Q 5), vI pn, vR (Q 6), vL f0, vL f1, vL f2, vL f3, vL px, vL py, vL pb, vI rg, vI wr, vR (Q 7), vI rn, vR (Q 8), vI wn])), ((Q 1), cL E 310 a)]) (st' := [vL ((sh2 a (226 + (17 * p))) (Int.tmod (i + 1) (a (225 + (17 * p)))))]) rfl rfl ?_
        refine g_lload C 7 rfl dX11_holds_56 rfl ?_
        refine g_lsub C rfl dX11_holds_58 rfl ?_
        refine g_lstore C (lv' := [(0, vR (Q 0)), (1, vI p), (2, vL x), (4, vL y), (6, vL d), (8, vI r), (9, vI i), (10, vL ((sh2 a (226 + (17 * p))) (Int.tmod i (a (225 + (17 * p)))))), (12, vL ((sh2 a (227 + (17 * p))) (Int.tmod i (a (225 + (17 * p)))))), (14, vL (((sh2 a (226 + (17 * p))) (Int.tmod (i + 1) (a (225 + (17 * p))))) - ((sh2 a (226 + (17 * p))) (Int.tmod i (a (225 + (17 * p)))))))]) [1, 2, 3, 4, 5, 6, 7, 8, 9, 0] (by decide) rfl rfl dX11_holds_59 rfl ?_
        refine g_aload_n C 0 rfl dX11_holds_61 rfl ?_
        refine g_iload_n C 1 rfl dX11_holds_62 rfl ?_
        refine g_iload C 6 rfl dX11_holds_63 rfl ?_
        refine g_iconst C dX11_holds_65 rfl ?_
        refine g_iadd C rfl dX11_holds_66 rfl ?_
        refine g_iconst C dX11_holds_67 rfl ?_
        refine g_callV C (b := (Q 0)) (As := [vI p, vI (i + 1), vI 1]) (wc := [((Q 0), .inr (12, [vR (Q 1), vR (Q 2), vR (Q 3), vR (Q 4), vR (Q 5), vI pn, vR (Q 6), vL f0, vL f1, vL f2, vL f3, vL px, vL py, vL pb, vI rg, vI wr, vR (Q 7), vI rn, vR (Q 8), vI wn])), ((Q 1), cL E 310 a)]) (wr := []) (st := []) gX11_holds_X11_coordinate (q9 := 0) (ci := 12) rfl rfl rfl (K_m_coord1 l E Q pn f0 f1 f2 f3 px py pb rg wr rn wn a p (i + 1) hp (by first | assumption | omega) (by first | assumption | omega)) hyd_X11_coordinate rfl [0, 1] [] rfl rfl rfl rfl rfl (by decide) ⟨rfl, rfl⟩ ⟨Nat.le_of_ble_eq_true rfl, Nat.le_of_ble_eq_true rfl, Nat.le_of_ble_eq_true rfl, Nat.le_of_ble_eq_true rfl⟩ (Nat.le_of_ble_eq_true rfl) dX11_holds_68 (rfl : _ = 0) (rfl : _ = 0) rfl ?_
        rintro _ _ ⟨rfl, rfl⟩
        refine g_is (ws' := [((Q 0), .inr (12, [vR (Q 1), vR (Q 2), vR (Q 3), vR (Q 4), vR (Q 5), vI pn, vR (Q 6), vL f0, vL f1, vL f2, vL f3, vL px, vL py, vL pb, vI rg, vI wr, vR (Q 7), vI rn, vR (Q 8), vI wn])), ((Q 1), cL E 310 a)]) (st' := [vL ((sh2 a (227 + (17 * p))) (Int.tmod (i + 1) (a (225 + (17 * p)))))]) rfl rfl ?_
        refine g_lload C 8 rfl dX11_holds_71 rfl ?_
        refine g_lsub C rfl dX11_holds_73 rfl ?_
        refine g_lstore C (lv' := [(0, vR (Q 0)), (1, vI p), (2, vL x), (4, vL y), (6, vL d), (8, vI r), (9, vI i), (10, vL ((sh2 a (226 + (17 * p))) (Int.tmod i (a (225 + (17 * p)))))), (12, vL ((sh2 a (227 + (17 * p))) (Int.tmod i (a (225 + (17 * p)))))), (14, vL (((sh2 a (226 + (17 * p))) (Int.tmod (i + 1) (a (225 + (17 * p))))) - ((sh2 a (226 + (17 * p))) (Int.tmod i (a (225 + (17 * p))))))), (16, vL (((sh2 a (227 + (17 * p))) (Int.tmod (i + 1) (a (225 + (17 * p))))) - ((sh2 a (227 + (17 * p))) (Int.tmod i (a (225 + (17 * p)))))))]) [1, 2, 3, 4, 5, 6, 7, 8, 9, 10, 0] (by decide) rfl rfl dX11_holds_74 rfl ?_
        refine g_iload C 5 rfl dX11_holds_76 rfl ?_
        refine g_if_eq C (tgt := 112) ⟨by omega, by omega⟩ dX11_holds_78 (by decide) rfl (fun c_3 => ?_) (fun c_3 => ?_)
        · refine g_iconst C dX11_holds_112 rfl ?_
          refine g_istore C (lv' := [(0, vR (Q 0)), (1, vI p), (2, vL x), (4, vL y), (6, vL d), (8, vI 0), (9, vI i), (10, vL ((sh2 a (226 + (17 * p))) (Int.tmod i (a (225 + (17 * p)))))), (12, vL ((sh2 a (227 + (17 * p))) (Int.tmod i (a (225 + (17 * p)))))), (14, vL (((sh2 a (226 + (17 * p))) (Int.tmod (i + 1) (a (225 + (17 * p))))) - ((sh2 a (226 + (17 * p))) (Int.tmod i (a (225 + (17 * p))))))), (16, vL (((sh2 a (227 + (17 * p))) (Int.tmod (i + 1) (a (225 + (17 * p))))) - ((sh2 a (227 + (17 * p))) (Int.tmod i (a (225 + (17 * p)))))))]) [1, 2, 3, 4, 5, 0, 6, 7, 8, 9, 10] (by decide) rfl rfl dX11_holds_113 rfl ?_
          refine g_iinc C (r := (i + 1)) (lv' := [(0, vR (Q 0)), (1, vI p), (2, vL x), (4, vL y), (6, vL d), (8, vI 0), (9, vI (i + 1)), (10, vL ((sh2 a (226 + (17 * p))) (Int.tmod i (a (225 + (17 * p)))))), (12, vL ((sh2 a (227 + (17 * p))) (Int.tmod i (a (225 + (17 * p)))))), (14, vL (((sh2 a (226 + (17 * p))) (Int.tmod (i + 1) (a (225 + (17 * p))))) - ((sh2 a (226 + (17 * p))) (Int.tmod i (a (225 + (17 * p))))))), (16, vL (((sh2 a (227 + (17 * p))) (Int.tmod (i + 1) (a (225 + (17 * p))))) - ((sh2 a (227 + (17 * p))) (Int.tmod i (a (225 + (17 * p)))))))]) 6 [1, 2, 3, 4, 5, 6, 0, 7, 8, 9, 10] rfl rfl (by decide) rfl rfl dX11_holds_115 rfl ?_
          refine g_goto C (pc' := 16) dX11_holds_118 (by decide) ?_
          refine g_lv (lv' := [(0, vR (Q 0)), (1, vI p), (2, vL x), (4, vL y), (6, vL d), (8, vI 0), (9, vI (i + 1))]) [0, 1, 2, 3, 4, 5, 6] rfl ?_
          exact ih _ (by omega) (i + 1) 0 (by omega) (by omega) hs (yl_s h0 hr9 (by first | exact Or.inl ⟨rfl, by omega, by omega⟩ | exact Or.inr ⟨rfl, by omega⟩)) rfl
        refine g_lload C 9 rfl dX11_holds_81 rfl ?_
        refine g_lload C 3 rfl dX11_holds_83 rfl ?_
        refine g_lload C 8 rfl dX11_holds_85 rfl ?_
        refine g_lload C 4 rfl dX11_holds_87 rfl ?_
        refine g_lmul C rfl dX11_holds_89 rfl ?_
        refine g_lsub C rfl dX11_holds_90 rfl ?_
        refine g_lmul C rfl dX11_holds_91 rfl ?_
        refine g_lload C 10 rfl dX11_holds_92 rfl ?_
        refine g_lload_n C 2 rfl dX11_holds_94 rfl ?_
        refine g_lload C 7 rfl dX11_holds_95 rfl ?_
        refine g_lload C 4 rfl dX11_holds_97 rfl ?_
        refine g_lmul C rfl dX11_holds_99 rfl ?_
        refine g_lsub C rfl dX11_holds_100 rfl ?_
        refine g_lmul C rfl dX11_holds_101 rfl ?_
        refine g_lsub C rfl dX11_holds_102 rfl ?_
        refine g_top (v' := vL (edg (sh2 a (226 + (17 * p))) (sh2 a (227 + (17 * p))) (a (225 + (17 * p))) x y d i)) (congrArg (fun z_ : Int => vL z_) (show (edg (sh2 a (226 + (17 * p))) (sh2 a (227 + (17 * p))) (a (225 + (17 * p))) x y d i) = (((((sh2 a (226 + (17 * p))) (Int.tmod (i + 1) (a (225 + (17 * p))))) - ((sh2 a (226 + (17 * p))) (Int.tmod i (a (225 + (17 * p)))))) * (y - (((sh2 a (227 + (17 * p))) (Int.tmod i (a (225 + (17 * p))))) * d))) - ((((sh2 a (227 + (17 * p))) (Int.tmod (i + 1) (a (225 + (17 * p))))) - ((sh2 a (227 + (17 * p))) (Int.tmod i (a (225 + (17 * p)))))) * (x - (((sh2 a (226 + (17 * p))) (Int.tmod i (a (225 + (17 * p))))) * d)))) by rw [t3.1, t3.2.1]; rfl)) ?_
        have tb := edg_b (n := a (225 + 17 * p)) hX hY (by omega) ⟨h0, by omega⟩ hx hy hd
        refine g_lconst0 C dX11_holds_103 rfl ?_
        refine g_lcmp_lt C ⟨by omega, by omega⟩ ⟨by decide, by decide⟩ dX11_holds_104 rfl (tgt := 112) dX11_holds_105 (by decide) rfl (fun c_4 => ?_) (fun c_4 => ?_)
        · refine g_iconst C dX11_holds_112 rfl ?_
          refine g_istore C (lv' := [(0, vR (Q 0)), (1, vI p), (2, vL x), (4, vL y), (6, vL d), (8, vI 0), (9, vI i), (10, vL ((sh2 a (226 + (17 * p))) (Int.tmod i (a (225 + (17 * p)))))), (12, vL ((sh2 a (227 + (17 * p))) (Int.tmod i (a (225 + (17 * p)))))), (14, vL (((sh2 a (226 + (17 * p))) (Int.tmod (i + 1) (a (225 + (17 * p))))) - ((sh2 a (226 + (17 * p))) (Int.tmod i (a (225 + (17 * p))))))), (16, vL (((sh2 a (227 + (17 * p))) (Int.tmod (i + 1) (a (225 + (17 * p))))) - ((sh2 a (227 + (17 * p))) (Int.tmod i (a (225 + (17 * p)))))))]) [1, 2, 3, 4, 5, 0, 6, 7, 8, 9, 10] (by decide) rfl rfl dX11_holds_113 rfl ?_
          refine g_iinc C (r := (i + 1)) (lv' := [(0, vR (Q 0)), (1, vI p), (2, vL x), (4, vL y), (6, vL d), (8, vI 0), (9, vI (i + 1)), (10, vL ((sh2 a (226 + (17 * p))) (Int.tmod i (a (225 + (17 * p)))))), (12, vL ((sh2 a (227 + (17 * p))) (Int.tmod i (a (225 + (17 * p)))))), (14, vL (((sh2 a (226 + (17 * p))) (Int.tmod (i + 1) (a (225 + (17 * p))))) - ((sh2 a (226 + (17 * p))) (Int.tmod i (a (225 + (17 * p))))))), (16, vL (((sh2 a (227 + (17 * p))) (Int.tmod (i + 1) (a (225 + (17 * p))))) - ((sh2 a (227 + (17 * p))) (Int.tmod i (a (225 + (17 * p)))))))]) 6 [1, 2, 3, 4, 5, 6, 0, 7, 8, 9, 10] rfl rfl (by decide) rfl rfl dX11_holds_115 rfl ?_
          refine g_goto C (pc' := 16) dX11_holds_118 (by decide) ?_
          refine g_lv (lv' := [(0, vR (Q 0)), (1, vI p), (2, vL x), (4, vL y), (6, vL d), (8, vI 0), (9, vI (i + 1))]) [0, 1, 2, 3, 4, 5, 6] rfl ?_
          exact ih _ (by omega) (i + 1) 0 (by omega) (by omega) hs (yl_s h0 hr9 (by first | exact Or.inl ⟨rfl, by omega, by omega⟩ | exact Or.inr ⟨rfl, by omega⟩)) rfl
        refine g_iconst C dX11_holds_108 rfl ?_
        refine g_goto C (pc' := 113) dX11_holds_109 (by decide) ?_
        refine g_istore C (lv' := [(0, vR (Q 0)), (1, vI p), (2, vL x), (4, vL y), (6, vL d), (8, vI 1), (9, vI i), (10, vL ((sh2 a (226 + (17 * p))) (Int.tmod i (a (225 + (17 * p)))))), (12, vL ((sh2 a (227 + (17 * p))) (Int.tmod i (a (225 + (17 * p)))))), (14, vL (((sh2 a (226 + (17 * p))) (Int.tmod (i + 1) (a (225 + (17 * p))))) - ((sh2 a (226 + (17 * p))) (Int.tmod i (a (225 + (17 * p))))))), (16, vL (((sh2 a (227 + (17 * p))) (Int.tmod (i + 1) (a (225 + (17 * p))))) - ((sh2 a (227 + (17 * p))) (Int.tmod i (a (225 + (17 * p)))))))]) [1, 2, 3, 4, 5, 0, 6, 7, 8, 9, 10] (by decide) rfl rfl dX11_holds_113 rfl ?_
        refine g_iinc C (r := (i + 1)) (lv' := [(0, vR (Q 0)), (1, vI p), (2, vL x), (4, vL y), (6, vL d), (8, vI 1), (9, vI (i + 1)), (10, vL ((sh2 a (226 + (17 * p))) (Int.tmod i (a (225 + (17 * p)))))), (12, vL ((sh2 a (227 + (17 * p))) (Int.tmod i (a (225 + (17 * p)))))), (14, vL (((sh2 a (226 + (17 * p))) (Int.tmod (i + 1) (a (225 + (17 * p))))) - ((sh2 a (226 + (17 * p))) (Int.tmod i (a (225 + (17 * p))))))), (16, vL (((sh2 a (227 + (17 * p))) (Int.tmod (i + 1) (a (225 + (17 * p))))) - ((sh2 a (227 + (17 * p))) (Int.tmod i (a (225 + (17 * p)))))))]) 6 [1, 2, 3, 4, 5, 6, 0, 7, 8, 9, 10] rfl rfl (by decide) rfl rfl dX11_holds_115 rfl ?_
        refine g_goto C (pc' := 16) dX11_holds_118 (by decide) ?_
        refine g_lv (lv' := [(0, vR (Q 0)), (1, vI p), (2, vL x), (4, vL y), (6, vL d), (8, vI 1), (9, vI (i + 1))]) [0, 1, 2, 3, 4, 5, 6] rfl ?_
        exact ih _ (by omega) (i + 1) 1 (by omega) (by omega) hs (yl_s h0 hr9 (by first | exact Or.inl ⟨rfl, by omega, by omega⟩ | exact Or.inr ⟨rfl, by omega⟩)) rfl
    exact hL_16 _ 0 1 (by omega) (by omega) c_1 rfl rfl
  refine g_iconst C dX11_holds_8 rfl ?_
  refine g_top (v' := vI (bP (hldA a p x y d = true))) (congrArg (fun z_ : Int => vI z_) (show (bP (hldA a p x y d = true)) = 0 by exact bP_f (by unfold hldA hld; intro q; rw [Bool.and_eq_true] at q; exact c_1 (of_decide_eq_true q.1)))) ?_
  exact g_iret C hr (nrZ _) (Nat.le_of_ble_eq_true rfl) (Nat.le_of_ble_eq_true rfl) dX11_holds_9 ⟨rfl, rfl⟩
