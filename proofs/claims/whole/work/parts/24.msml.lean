theorem in_X11_tripped_X11 : ∀ w ∈ u_ws RX11 TX11 20, w ∈ wsX11_tripped := by decide +kernel
theorem fd_X11_tripped_7 : fdk wsX11_tripped RX11 7 "ZoneRelayModel" RX11 TX11 20 0 := ⟨in_X11_tripped_X11, by decide +kernel, by decide, rfl⟩
abbrev rm_K_m_tripped : Room := { frames := 0, cells := 0, slots := 0, locals := 0 }
set_option maxHeartbeats 400000 in
set_option maxRecDepth 100000 in
theorem K_m_tripped (l : Launch) (E : Ev) (Q : Nat → Nat) (pn f0 f1 f2 f3 px py pb rg wr rn wn : Int) (a : Int → Int)  : Mc l yX11_tripped wsX11_tripped rm_K_m_tripped E [vR (Q 0)] [((Q 0), .inr (12, [vR (Q 1), vR (Q 2), vR (Q 3), vR (Q 4), vR (Q 5), vI pn, vR (Q 6), vL f0, vL f1, vL f2, vL f3, vL px, vL py, vL pb, vI rg, vI wr, vR (Q 7), vI rn, vR (Q 8), vI wn])), ((Q 1), cL E 310 a)] 0 0 (fun v9 w9 => v9 = some (vI (a 97)) ∧ w9 = [((Q 0), .inr (12, [vR (Q 1), vR (Q 2), vR (Q 3), vR (Q 4), vR (Q 5), vI pn, vR (Q 6), vL f0, vL f1, vL f2, vL f3, vL px, vL py, vL pb, vI rg, vI wr, vR (Q 7), vI rn, vR (Q 8), vI wn])), ((Q 1), cL E 310 a)]) := by
  refine Mc.intro (cc := cX11_tripped) (maxL := 1) (ret := (some .int)) (lv0 := [(0, vR (Q 0))]) (by decide +kernel) rfl rfl (Nat.le_of_ble_eq_true rfl) ?_
  intro p9 e9 s9 m9 args9 below9 meth9 c9 A9 C hr hmn
  have C : Cx p9 s9 m9 args9 meth9 c9 E A9 1 cX11_tripped wsX11_tripped RX11 := C
  refine g_aload_n C 0 rfl dX11_tripped_0 rfl ?_
  refine g_get C 0 fd_X11_tripped_7 rfl rfl rfl dX11_tripped_1 rfl ?_
  refine g_bipush C (by decide) dX11_tripped_4 rfl ?_
  refine g_lald C 1 rfl (by decide) (by decide) (by decide) rfl dX11_tripped_6 rfl ?_
  refine g_l2i C rfl dX11_tripped_7 rfl ?_
  exact g_iret C hr rfl (Nat.le_of_ble_eq_true rfl) (Nat.le_of_ble_eq_true rfl) dX11_tripped_8 ⟨rfl, rfl⟩

theorem w_X11_isFault_k40 : Cond.constantLong RX11 40 (1000) ∈ wsX11_isFault := by decide +kernel
theorem w_X11_isFault_k46 : Cond.constantLong RX11 46 (20000) ∈ wsX11_isFault := by decide +kernel
abbrev rm_K_m_isFault : Room := { frames := 1, cells := 0, slots := 0, locals := 25 }
set_option maxHeartbeats 400000 in
set_option maxRecDepth 100000 in
theorem K_m_isFault (l : Launch) (E : Ev) (p q : Int) (hp : bi p) (hq : bi q) : Mc l yX11_isFault wsX11_isFault rm_K_m_isFault E [vI p, vI q] [] 0 0 (fun v9 w9 => v9 = some (vI (bP ((0 ≤ p ∧ p ≤ 1000) ∧ (0 ≤ q ∧ q ≤ 20000)))) ∧ w9 = []) := by
  refine Mc.intro (cc := cX11_isFault) (maxL := 2) (ret := (some .boolean)) (lv0 := [(0, vI p), (1, vI q)]) (by decide +kernel) rfl rfl (Nat.le_of_ble_eq_true rfl) ?_
  intro p9 e9 s9 m9 args9 below9 meth9 c9 A9 C hr hmn
  have C : Cx p9 s9 m9 args9 meth9 c9 E A9 2 cX11_isFault wsX11_isFault RX11 := C
  refine g_iload_n C 0 rfl dX11_isFault_0 rfl ?_
  refine g_i2l C (hp) rfl dX11_isFault_1 rfl ?_
  refine g_lconst0 C dX11_isFault_2 rfl ?_
  refine g_ldc2 C (x := 1000) w_X11_isFault_k40 (by decide) dX11_isFault_3 rfl ?_
  refine g_callS C (As := [vL p, vL 0, vL 1000]) (wc := []) (wr := []) (st := []) gX11_isFault_X11_in rfl (K_m_in l E p 0 1000 ⟨by omega, by omega⟩ ⟨by decide, by decide⟩ ⟨by decide, by decide⟩) hyd_X11_in rfl [] [] rfl rfl rfl rfl rfl (by decide) ⟨rfl, rfl⟩ ⟨Nat.le_of_ble_eq_true rfl, Nat.le_of_ble_eq_true rfl, Nat.le_of_ble_eq_true rfl, Nat.le_of_ble_eq_true rfl⟩ (Nat.le_of_ble_eq_true rfl) dX11_isFault_6 (rfl : _ = 0) (rfl : _ = 0) rfl ?_
  rintro _ _ ⟨rfl, rfl⟩
  refine g_is (ws' := []) (st' := [vI (bP (0 ≤ p ∧ p ≤ 1000))]) rfl rfl ?_
  refine g_ifb_eq C (tgt := 28) dX11_isFault_9 (by decide) rfl (fun c_1 => ?_) (fun c_1 => ?_)
  · refine g_iconst C dX11_isFault_28 rfl ?_
    refine g_top (v' := vI (bP ((0 ≤ p ∧ p ≤ 1000) ∧ (0 ≤ q ∧ q ≤ 20000)))) (congrArg (fun z_ : Int => vI z_) (show (bP ((0 ≤ p ∧ p ≤ 1000) ∧ (0 ≤ q ∧ q ≤ 20000))) = 0 by first | exact bP_t (by first | assumption | omega) | exact bP_f (by first | assumption | omega))) ?_
    exact g_iret C hr (nrZ _) (Nat.le_of_ble_eq_true rfl) (Nat.le_of_ble_eq_true rfl) dX11_isFault_29 ⟨rfl, rfl⟩
  refine g_iload_n C 1 rfl dX11_isFault_12 rfl ?_
  refine g_i2l C (hq) rfl dX11_isFault_13 rfl ?_
  refine g_lconst0 C dX11_isFault_14 rfl ?_
  refine g_ldc2 C (x := 20000) w_X11_isFault_k46 (by decide) dX11_isFault_15 rfl ?_
  refine g_callS C (As := [vL q, vL 0, vL 20000]) (wc := []) (wr := []) (st := []) gX11_isFault_X11_in rfl (K_m_in l E q 0 20000 ⟨by omega, by omega⟩ ⟨by decide, by decide⟩ ⟨by decide, by decide⟩) hyd_X11_in rfl [] [] rfl rfl rfl rfl rfl (by decide) ⟨rfl, rfl⟩ ⟨Nat.le_of_ble_eq_true rfl, Nat.le_of_ble_eq_true rfl, Nat.le_of_ble_eq_true rfl, Nat.le_of_ble_eq_true rfl⟩ (Nat.le_of_ble_eq_true rfl) dX11_isFault_18 (rfl : _ = 0) (rfl : _ = 0) rfl ?_
  rintro _ _ ⟨rfl, rfl⟩
  refine g_is (ws' := []) (st' := [vI (bP (0 ≤ q ∧ q ≤ 20000))]) rfl rfl ?_
  refine g_ifb_eq C (tgt := 28) dX11_isFault_21 (by decide) rfl (fun c_2 => ?_) (fun c_2 => ?_)
  · refine g_iconst C dX11_isFault_28 rfl ?_
    refine g_top (v' := vI (bP ((0 ≤ p ∧ p ≤ 1000) ∧ (0 ≤ q ∧ q ≤ 20000)))) (congrArg (fun z_ : Int => vI z_) (show (bP ((0 ≤ p ∧ p ≤ 1000) ∧ (0 ≤ q ∧ q ≤ 20000))) = 0 by first | exact bP_t (by first | assumption | omega) | exact bP_f (by first | assumption | omega))) ?_
    exact g_iret C hr (nrZ _) (Nat.le_of_ble_eq_true rfl) (Nat.le_of_ble_eq_true rfl) dX11_isFault_29 ⟨rfl, rfl⟩
  refine g_iconst C dX11_isFault_24 rfl ?_
  refine g_goto C (pc' := 29) dX11_isFault_25 (by decide) ?_
  refine g_top (v' := vI (bP ((0 ≤ p ∧ p ≤ 1000) ∧ (0 ≤ q ∧ q ≤ 20000)))) (congrArg (fun z_ : Int => vI z_) (show (bP ((0 ≤ p ∧ p ≤ 1000) ∧ (0 ≤ q ∧ q ≤ 20000))) = 1 by first | exact bP_t (by first | assumption | omega) | exact bP_f (by first | assumption | omega))) ?_
  exact g_iret C hr (nrZ _) (Nat.le_of_ble_eq_true rfl) (Nat.le_of_ble_eq_true rfl) dX11_isFault_29 ⟨rfl, rfl⟩

theorem w_X11_arePhasors_k85 : Cond.constantLong RX11 85 (-20000) ∈ wsX11_arePhasors := by decide +kernel
theorem w_X11_arePhasors_k46 : Cond.constantLong RX11 46 (20000) ∈ wsX11_arePhasors := by decide +kernel
abbrev rm_K_m_arePh : Room := { frames := 1, cells := 0, slots := 0, locals := 25 }
set_option maxHeartbeats 400000 in
set_option maxRecDepth 100000 in
theorem K_m_arePh (l : Launch) (E : Ev) (va vb ia ib : Int) (hva : bi va) (hvb : bi vb) (hia : bi ia) (hib : bi ib) : Mc l yX11_arePhasors wsX11_arePhasors rm_K_m_arePh E [vI va, vI vb, vI ia, vI ib] [] 0 0 (fun v9 w9 => v9 = some (vI (bP ((-20000 ≤ va ∧ va ≤ 20000) ∧ (-20000 ≤ vb ∧ vb ≤ 20000) ∧ (-20000 ≤ ia ∧ ia ≤ 20000) ∧ (-20000 ≤ ib ∧ ib ≤ 20000)))) ∧ w9 = []) := by
  refine Mc.intro (cc := cX11_arePhasors) (maxL := 4) (ret := (some .boolean)) (lv0 := [(0, vI va), (1, vI vb), (2, vI ia), (3, vI ib)]) (by decide +kernel) rfl rfl (Nat.le_of_ble_eq_true rfl) ?_
  intro p9 e9 s9 m9 args9 below9 meth9 c9 A9 C hr hmn
  have C : Cx p9 s9 m9 args9 meth9 c9 E A9 4 cX11_arePhasors wsX11_arePhasors RX11 := C
  refine g_iload_n C 0 rfl dX11_arePhasors_0 rfl ?_
  refine g_i2l C (hva) rfl dX11_arePhasors_1 rfl ?_
  refine g_ldc2 C (x := (-20000)) w_X11_arePhasors_k85 (by decide) dX11_arePhasors_2 rfl ?_
  refine g_ldc2 C (x := 20000) w_X11_arePhasors_k46 (by decide) dX11_arePhasors_5 rfl ?_
  refine g_callS C (As := [vL va, vL (-20000), vL 20000]) (wc := []) (wr := []) (st := []) gX11_arePhasors_X11_in rfl (K_m_in l E va (-20000) 20000 ⟨by omega, by omega⟩ ⟨by decide, by decide⟩ ⟨by decide, by decide⟩) hyd_X11_in rfl [] [] rfl rfl rfl rfl rfl (by decide) ⟨rfl, rfl⟩ ⟨Nat.le_of_ble_eq_true rfl, Nat.le_of_ble_eq_true rfl, Nat.le_of_ble_eq_true rfl, Nat.le_of_ble_eq_true rfl⟩ (Nat.le_of_ble_eq_true rfl) dX11_arePhasors_8 (rfl : _ = 0) (rfl : _ = 0) rfl ?_
  rintro _ _ ⟨rfl, rfl⟩
  refine g_is (ws' := []) (st' := [vI (bP ((-20000) ≤ va ∧ va ≤ 20000))]) rfl rfl ?_
  refine g_ifb_eq C (tgt := 60) dX11_arePhasors_11 (by decide) rfl (fun c_1 => ?_) (fun c_1 => ?_)
  · refine g_iconst C dX11_arePhasors_60 rfl ?_
    refine g_top (v' := vI (bP ((-20000 ≤ va ∧ va ≤ 20000) ∧ (-20000 ≤ vb ∧ vb ≤ 20000) ∧ (-20000 ≤ ia ∧ ia ≤ 20000) ∧ (-20000 ≤ ib ∧ ib ≤ 20000)))) (congrArg (fun z_ : Int => vI z_) (show (bP ((-20000 ≤ va ∧ va ≤ 20000) ∧ (-20000 ≤ vb ∧ vb ≤ 20000) ∧ (-20000 ≤ ia ∧ ia ≤ 20000) ∧ (-20000 ≤ ib ∧ ib ≤ 20000))) = 0 by first | exact bP_t (by first | assumption | omega) | exact bP_f (by first | assumption | omega))) ?_
    exact g_iret C hr (nrZ _) (Nat.le_of_ble_eq_true rfl) (Nat.le_of_ble_eq_true rfl) dX11_arePhasors_61 ⟨rfl, rfl⟩
  refine g_iload_n C 1 rfl dX11_arePhasors_14 rfl ?_
  refine g_i2l C (hvb) rfl dX11_arePhasors_15 rfl ?_
  refine g_ldc2 C (x := (-20000)) w_X11_arePhasors_k85 (by decide) dX11_arePhasors_16 rfl ?_
  refine g_ldc2 C (x := 20000) w_X11_arePhasors_k46 (by decide) dX11_arePhasors_19 rfl ?_
  refine g_callS C (As := [vL vb, vL (-20000), vL 20000]) (wc := []) (wr := []) (st := []) gX11_arePhasors_X11_in rfl (K_m_in l E vb (-20000) 20000 ⟨by omega, by omega⟩ ⟨by decide, by decide⟩ ⟨by decide, by decide⟩) hyd_X11_in rfl [] [] rfl rfl rfl rfl rfl (by decide) ⟨rfl, rfl⟩ ⟨Nat.le_of_ble_eq_true rfl, Nat.le_of_ble_eq_true rfl, Nat.le_of_ble_eq_true rfl, Nat.le_of_ble_eq_true rfl⟩ (Nat.le_of_ble_eq_true rfl) dX11_arePhasors_22 (rfl : _ = 0) (rfl : _ = 0) rfl ?_
  rintro _ _ ⟨rfl, rfl⟩
  refine g_is (ws' := []) (st' := [vI (bP ((-20000) ≤ vb ∧ vb ≤ 20000))]) rfl rfl ?_
  refine g_ifb_eq C (tgt := 60) dX11_arePhasors_25 (by decide) rfl (fun c_2 => ?_) (fun c_2 => ?_)
  · refine g_iconst C dX11_arePhasors_60 rfl ?_
    refine g_top (v' := vI (bP ((-20000 ≤ va ∧ va ≤ 20000) ∧ (-20000 ≤ vb ∧ vb ≤ 20000) ∧ (-20000 ≤ ia ∧ ia ≤ 20000) ∧ (-20000 ≤ ib ∧ ib ≤ 20000)))) (congrArg (fun z_ : Int => vI z_) (show (bP ((-20000 ≤ va ∧ va ≤ 20000) ∧ (-20000 ≤ vb ∧ vb ≤ 20000) ∧ (-20000 ≤ ia ∧ ia ≤ 20000) ∧ (-20000 ≤ ib ∧ ib ≤ 20000))) = 0 by first | exact bP_t (by first | assumption | omega) | exact bP_f (by first | assumption | omega))) ?_
    exact g_iret C hr (nrZ _) (Nat.le_of_ble_eq_true rfl) (Nat.le_of_ble_eq_true rfl) dX11_arePhasors_61 ⟨rfl, rfl⟩
  refine g_iload_n C 2 rfl dX11_arePhasors_28 rfl ?_
  refine g_i2l C (hia) rfl dX11_arePhasors_29 rfl ?_
  refine g_ldc2 C (x := (-20000)) w_X11_arePhasors_k85 (by decide) dX11_arePhasors_30 rfl ?_
  refine g_ldc2 C (x := 20000) w_X11_arePhasors_k46 (by decide) dX11_arePhasors_33 rfl ?_
  refine g_callS C (As := [vL ia, vL (-20000), vL 20000]) (wc := []) (wr := []) (st := []) gX11_arePhasors_X11_in rfl (K_m_in l E ia (-20000) 20000 ⟨by omega, by omega⟩ ⟨by decide, by decide⟩ ⟨by decide, by decide⟩) hyd_X11_in rfl [] [] rfl rfl rfl rfl rfl (by decide) ⟨rfl, rfl⟩ ⟨Nat.le_of_ble_eq_true rfl, Nat.le_of_ble_eq_true rfl, Nat.le_of_ble_eq_true rfl, Nat.le_of_ble_eq_true rfl⟩ (Nat.le_of_ble_eq_true rfl) dX11_arePhasors_36 (rfl : _ = 0) (rfl : _ = 0) rfl ?_
  rintro _ _ ⟨rfl, rfl⟩
  refine g_is (ws' := []) (st' := [vI (bP ((-20000) ≤ ia ∧ ia ≤ 20000))]) rfl rfl ?_
  refine g_ifb_eq C (tgt := 60) dX11_arePhasors_39 (by decide) rfl (fun c_3 => ?_) (fun c_3 => ?_)
  · refine g_iconst C dX11_arePhasors_60 rfl ?_
    refine g_top (v' := vI (bP ((-20000 ≤ va ∧ va ≤ 20000) ∧ (-20000 ≤ vb ∧ vb ≤ 20000) ∧ (-20000 ≤ ia ∧ ia ≤ 20000) ∧ (-20000 ≤ ib ∧ ib ≤ 20000)))) (congrArg (fun z_ : Int => vI z_) (show (bP ((-20000 ≤ va ∧ va ≤ 20000) ∧ (-20000 ≤ vb ∧ vb ≤ 20000) ∧ (-20000 ≤ ia ∧ ia ≤ 20000) ∧ (-20000 ≤ ib ∧ ib ≤ 20000))) = 0 by first | exact bP_t (by first | assumption | omega) | exact bP_f (by first | assumption | omega))) ?_
    exact g_iret C hr (nrZ _) (Nat.le_of_ble_eq_true rfl) (Nat.le_of_ble_eq_true rfl) dX11_arePhasors_61 ⟨rfl, rfl⟩
  refine g_iload_n C 3 rfl dX11_arePhasors_42 rfl ?_
  refine g_i2l C (hib) rfl dX11_arePhasors_43 rfl ?_
  refine g_ldc2 C (x := (-20000)) w_X11_arePhasors_k85 (by decide) dX11_arePhasors_44 rfl ?_
  refine g_ldc2 C (x := 20000) w_X11_arePhasors_k46 (by decide) dX11_arePhasors_47 rfl ?_
  refine g_callS C (As := [vL ib, vL (-20000), vL 20000]) (wc := []) (wr := []) (st := []) gX11_arePhasors_X11_in rfl (K_m_in l E ib (-20000) 20000 ⟨by omega, by omega⟩ ⟨by decide, by decide⟩ ⟨by decide, by decide⟩) hyd_X11_in rfl [] [] rfl rfl rfl rfl rfl (by decide) ⟨rfl, rfl⟩ ⟨Nat.le_of_ble_eq_true rfl, Nat.le_of_ble_eq_true rfl, Nat.le_of_ble_eq_true rfl, Nat.le_of_ble_eq_true rfl⟩ (Nat.le_of_ble_eq_true rfl) dX11_arePhasors_50 (rfl : _ = 0) (rfl : _ = 0) rfl ?_
  rintro _ _ ⟨rfl, rfl⟩
  refine g_is (ws' := []) (st' := [vI (bP ((-20000) ≤ ib ∧ ib ≤ 20000))]) rfl rfl ?_
  refine g_ifb_eq C (tgt := 60) dX11_arePhasors_53 (by decide) rfl (fun c_4 => ?_) (fun c_4 => ?_)
  · refine g_iconst C dX11_arePhasors_60 rfl ?_
    refine g_top (v' := vI (bP ((-20000 ≤ va ∧ va ≤ 20000) ∧ (-20000 ≤ vb ∧ vb ≤ 20000) ∧ (-20000 ≤ ia ∧ ia ≤ 20000) ∧ (-20000 ≤ ib ∧ ib ≤ 20000)))) (congrArg (fun z_ : Int => vI z_) (show (bP ((-20000 ≤ va ∧ va ≤ 20000) ∧ (-20000 ≤ vb ∧ vb ≤ 20000) ∧ (-20000 ≤ ia ∧ ia ≤ 20000) ∧ (-20000 ≤ ib ∧ ib ≤ 20000))) = 0 by first | exact bP_t (by first | assumption | omega) | exact bP_f (by first | assumption | omega))) ?_
    exact g_iret C hr (nrZ _) (Nat.le_of_ble_eq_true rfl) (Nat.le_of_ble_eq_true rfl) dX11_arePhasors_61 ⟨rfl, rfl⟩
  refine g_iconst C dX11_arePhasors_56 rfl ?_
  refine g_goto C (pc' := 61) dX11_arePhasors_57 (by decide) ?_
  refine g_top (v' := vI (bP ((-20000 ≤ va ∧ va ≤ 20000) ∧ (-20000 ≤ vb ∧ vb ≤ 20000) ∧ (-20000 ≤ ia ∧ ia ≤ 20000) ∧ (-20000 ≤ ib ∧ ib ≤ 20000)))) (congrArg (fun z_ : Int => vI z_) (show (bP ((-20000 ≤ va ∧ va ≤ 20000) ∧ (-20000 ≤ vb ∧ vb ≤ 20000) ∧ (-20000 ≤ ia ∧ ia ≤ 20000) ∧ (-20000 ≤ ib ∧ ib ≤ 20000))) = 1 by first | exact bP_t (by first | assumption | omega) | exact bP_f (by first | assumption | omega))) ?_
  exact g_iret C hr (nrZ _) (Nat.le_of_ble_eq_true rfl) (Nat.le_of_ble_eq_true rfl) dX11_arePhasors_61 ⟨rfl, rfl⟩

theorem in_X11_putFour_X11 : ∀ w ∈ u_ws RX11 TX11 20, w ∈ wsX11_putFour := by decide +kernel
theorem fd_X11_putFour_7 : fdk wsX11_putFour RX11 7 "ZoneRelayModel" RX11 TX11 20 0 := ⟨in_X11_putFour_X11, by decide +kernel, by decide, rfl⟩
abbrev rm_K_m_putFour : Room := { frames := 0, cells := 0, slots := 0, locals := 0 }
set_option maxHeartbeats 400000 in
set_option maxRecDepth 100000 in
theorem K_m_putFour (l : Launch) (E : Ev) (Q : Nat → Nat) (pn f0 f1 f2 f3 px py pb rg wr rn wn : Int) (a : Int → Int) (w va vb ia ib : Int) (hw : 0 ≤ w ∧ w ≤ 10) : Mc l yX11_putFour wsX11_putFour rm_K_m_putFour E [vR (Q 0), vI w, vL va, vL vb, vL ia, vL ib] [((Q 0), .inr (12, [vR (Q 1), vR (Q 2), vR (Q 3), vR (Q 4), vR (Q 5), vI pn, vR (Q 6), vL f0, vL f1, vL f2, vL f3, vL px, vL py, vL pb, vI rg, vI wr, vR (Q 7), vI rn, vR (Q 8), vI wn])), ((Q 1), cL E 310 a)] 0 0 (fun v9 w9 => v9 = none ∧ w9 = [((Q 0), .inr (12, [vR (Q 1), vR (Q 2), vR (Q 3), vR (Q 4), vR (Q 5), vI pn, vR (Q 6), vL f0, vL f1, vL f2, vL f3, vL px, vL py, vL pb, vI rg, vI wr, vR (Q 7), vI rn, vR (Q 8), vI wn])), ((Q 1), cL E 310 (ua (ua (ua (ua a w va) (w + 1) vb) (w + 2) ia) (w + 3) ib))]) := by
  refine Mc.intro (cc := cX11_putFour) (maxL := 10) (ret := none) (lv0 := [(0, vR (Q 0)), (1, vI w), (2, vL va), (4, vL vb), (6, vL ia), (8, vL ib)]) (by decide +kernel) rfl rfl (Nat.le_of_ble_eq_true rfl) ?_
  intro p9 e9 s9 m9 args9 below9 meth9 c9 A9 C hr hmn
  have C : Cx p9 s9 m9 args9 meth9 c9 E A9 10 cX11_putFour wsX11_putFour RX11 := C
  refine g_aload_n C 0 rfl dX11_putFour_0 rfl ?_
  refine g_get C 0 fd_X11_putFour_7 rfl rfl rfl dX11_putFour_1 rfl ?_
  refine g_iload_n C 1 rfl dX11_putFour_4 rfl ?_
  refine g_lload_n C 2 rfl dX11_putFour_5 rfl ?_
  refine g_last C 1 rfl (by omega) (by omega) (by decide) (ws' := [((Q 0), .inr (12, [vR (Q 1), vR (Q 2), vR (Q 3), vR (Q 4), vR (Q 5), vI pn, vR (Q 6), vL f0, vL f1, vL f2, vL f3, vL px, vL py, vL pb, vI rg, vI wr, vR (Q 7), vI rn, vR (Q 8), vI wn])), ((Q 1), cL E 310 (ua a w va))]) rfl dX11_putFour_6 rfl ?_
  refine g_aload_n C 0 rfl dX11_putFour_7 rfl ?_
  refine g_get C 0 fd_X11_putFour_7 rfl rfl rfl dX11_putFour_8 rfl ?_
  refine g_iload_n C 1 rfl dX11_putFour_11 rfl ?_
  refine g_iconst C dX11_putFour_12 rfl ?_
  refine g_iadd C rfl dX11_putFour_13 rfl ?_
  refine g_lload C 3 rfl dX11_putFour_14 rfl ?_
  refine g_last C 1 rfl (by omega) (by omega) (by decide) (ws' := [((Q 0), .inr (12, [vR (Q 1), vR (Q 2), vR (Q 3), vR (Q 4), vR (Q 5), vI pn, vR (Q 6), vL f0, vL f1, vL f2, vL f3, vL px, vL py, vL pb, vI rg, vI wr, vR (Q 7), vI rn, vR (Q 8), vI wn])), ((Q 1), cL E 310 (ua (ua a w va) (w + 1) vb))]) rfl dX11_putFour_16 rfl ?_
  refine g_aload_n C 0 rfl dX11_putFour_17 rfl ?_
  refine g_get C 0 fd_X11_putFour_7 rfl rfl rfl dX11_putFour_18 rfl ?_
  refine g_iload_n C 1 rfl dX11_putFour_21 rfl ?_
  refine g_iconst C dX11_putFour_22 rfl ?_
  refine g_iadd C rfl dX11_putFour_23 rfl ?_
  refine g_lload C 4 rfl dX11_putFour_24 rfl ?_
  refine g_last C 1 rfl (by omega) (by omega) (by decide) (ws' := [((Q 0), .inr (12, [vR (Q 1), vR (Q 2), vR (Q 3), vR (Q 4), vR (Q 5), vI pn, vR (Q 6), vL f0, vL f1, vL f2, vL f3, vL px, vL py, vL pb, vI rg, vI wr, vR (Q 7), vI rn, vR (Q 8), vI wn])), ((Q 1), cL E 310 (ua (ua (ua a w va) (w + 1) vb) (w + 2) ia))]) rfl dX11_putFour_26 rfl ?_
  refine g_aload_n C 0 rfl dX11_putFour_27 rfl ?_
  refine g_get C 0 fd_X11_putFour_7 rfl rfl rfl dX11_putFour_28 rfl ?_
  refine g_iload_n C 1 rfl dX11_putFour_31 rfl ?_
  refine g_iconst C dX11_putFour_32 rfl ?_
  refine g_iadd C rfl dX11_putFour_33 rfl ?_
  refine g_lload C 5 rfl dX11_putFour_34 rfl ?_
  refine g_last C 1 rfl (by omega) (by omega) (by decide) (ws' := [((Q 0), .inr (12, [vR (Q 1), vR (Q 2), vR (Q 3), vR (Q 4), vR (Q 5), vI pn, vR (Q 6), vL f0, vL f1, vL f2, vL f3, vL px, vL py, vL pb, vI rg, vI wr, vR (Q 7), vI rn, vR (Q 8), vI wn])), ((Q 1), cL E 310 (ua (ua (ua (ua a w va) (w + 1) vb) (w + 2) ia) (w + 3) ib))]) rfl dX11_putFour_36 rfl ?_
  exact g_vret C hr (Nat.le_of_ble_eq_true rfl) (Nat.le_of_ble_eq_true rfl) dX11_putFour_37 ⟨rfl, rfl⟩

theorem w_X11_limited_k46 : Cond.constantLong RX11 46 (20000) ∈ wsX11_limited := by decide +kernel
theorem w_X11_limited_k85 : Cond.constantLong RX11 85 (-20000) ∈ wsX11_limited := by decide +kernel
abbrev rm_K_m_lim : Room := { frames := 0, cells := 0, slots := 0, locals := 0 }
set_option maxHeartbeats 400000 in
set_option maxRecDepth 100000 in
theorem K_m_lim (l : Launch) (E : Ev) (x : Int) (hx : bl x) : Mc l yX11_limited wsX11_limited rm_K_m_lim E [vL x] [] 0 0 (fun v9 w9 => v9 = some (vL (lim x)) ∧ w9 = []) := by
  refine Mc.intro (cc := cX11_limited) (maxL := 2) (ret := (some .long)) (lv0 := [(0, vL x)]) (by decide +kernel) rfl rfl (Nat.le_of_ble_eq_true rfl) ?_
  intro p9 e9 s9 m9 args9 below9 meth9 c9 A9 C hr hmn
  have C : Cx p9 s9 m9 args9 meth9 c9 E A9 2 cX11_limited wsX11_limited RX11 := C
  refine g_lload_n C 0 rfl dX11_limited_0 rfl ?_
  refine g_ldc2 C (x := 20000) w_X11_limited_k46 (by decide) dX11_limited_1 rfl ?_
  refine g_lcmp_le C (hx) ⟨by decide, by decide⟩ dX11_limited_4 rfl (tgt := 14) dX11_limited_5 (by decide) rfl (fun c_1 => ?_) (fun c_1 => ?_)
  · refine g_lload_n C 0 rfl dX11_limited_14 rfl ?_
    refine g_ldc2 C (x := (-20000)) w_X11_limited_k85 (by decide) dX11_limited_15 rfl ?_
    refine g_lcmp_ge C (hx) ⟨by decide, by decide⟩ dX11_limited_18 rfl (tgt := 28) dX11_limited_19 (by decide) rfl (fun c_2 => ?_) (fun c_2 => ?_)
    · refine g_lload_n C 0 rfl dX11_limited_28 rfl ?_
      refine g_top (v' := vL (lim x)) (congrArg (fun z_ : Int => vL z_) (show (lim x) = x by unfold lim; (repeat' split) <;> omega)) ?_
      exact g_lret C hr (Nat.le_of_ble_eq_true rfl) (Nat.le_of_ble_eq_true rfl) dX11_limited_29 ⟨rfl, rfl⟩
    refine g_ldc2 C (x := (-20000)) w_X11_limited_k85 (by decide) dX11_limited_22 rfl ?_
    refine g_goto C (pc' := 29) dX11_limited_25 (by decide) ?_
    refine g_top (v' := vL (lim x)) (congrArg (fun z_ : Int => vL z_) (show (lim x) = (-20000) by unfold lim; (repeat' split) <;> omega)) ?_
    exact g_lret C hr (Nat.le_of_ble_eq_true rfl) (Nat.le_of_ble_eq_true rfl) dX11_limited_29 ⟨rfl, rfl⟩
  refine g_ldc2 C (x := 20000) w_X11_limited_k46 (by decide) dX11_limited_8 rfl ?_
  refine g_goto C (pc' := 29) dX11_limited_11 (by decide) ?_
  refine g_top (v' := vL (lim x)) (congrArg (fun z_ : Int => vL z_) (show (lim x) = 20000 by unfold lim; (repeat' split) <;> omega)) ?_
  exact g_lret C hr (Nat.le_of_ble_eq_true rfl) (Nat.le_of_ble_eq_true rfl) dX11_limited_29 ⟨rfl, rfl⟩

theorem in_X11_wipe_X11 : ∀ w ∈ u_ws RX11 TX11 20, w ∈ wsX11_wipe := by decide +kernel
theorem fd_X11_wipe_278 : fdk wsX11_wipe RX11 278 "ZoneRelayModel" RX11 TX11 20 5 := ⟨in_X11_wipe_X11, by decide +kernel, by decide, rfl⟩
abbrev rm_K_m_wipe : Room := { frames := 0, cells := 0, slots := 0, locals := 0 }
set_option maxHeartbeats 400000 in
set_option maxRecDepth 100000 in
theorem K_m_wipe (l : Launch) (E : Ev) (Q : Nat → Nat) (pn f0 f1 f2 f3 px py pb rg wr rn wn : Int)  : Mc l yX11_wipe wsX11_wipe rm_K_m_wipe E [vR (Q 0)] [((Q 0), .inr (12, [vR (Q 1), vR (Q 2), vR (Q 3), vR (Q 4), vR (Q 5), vI pn, vR (Q 6), vL f0, vL f1, vL f2, vL f3, vL px, vL py, vL pb, vI rg, vI wr, vR (Q 7), vI rn, vR (Q 8), vI wn]))] 0 0 (fun v9 w9 => v9 = some (vI pn) ∧ w9 = [((Q 0), .inr (12, [vR (Q 1), vR (Q 2), vR (Q 3), vR (Q 4), vR (Q 5), vI 0, vR (Q 6), vL f0, vL f1, vL f2, vL f3, vL px, vL py, vL pb, vI rg, vI wr, vR (Q 7), vI rn, vR (Q 8), vI wn]))]) := by
  refine Mc.intro (cc := cX11_wipe) (maxL := 2) (ret := (some .int)) (lv0 := [(0, vR (Q 0))]) (by decide +kernel) rfl rfl (Nat.le_of_ble_eq_true rfl) ?_
  intro p9 e9 s9 m9 args9 below9 meth9 c9 A9 C hr hmn
  have C : Cx p9 s9 m9 args9 meth9 c9 E A9 2 cX11_wipe wsX11_wipe RX11 := C
  refine g_aload_n C 0 rfl dX11_wipe_0 rfl ?_
  refine g_get C 0 fd_X11_wipe_278 rfl rfl rfl dX11_wipe_1 rfl ?_
  refine g_istore_n C (lv' := [(0, vR (Q 0)), (1, vI pn)]) [1, 0] (by decide) rfl rfl dX11_wipe_4 rfl ?_
  refine g_aload_n C 0 rfl dX11_wipe_5 rfl ?_
  refine g_iconst C dX11_wipe_6 rfl ?_
  refine g_put C tyX11 tyX11_ok nmX11 0 fd_X11_wipe_278 rfl rfl rfl rfl rfl rfl (Nat.le_of_ble_eq_true rfl) (ws' := [((Q 0), .inr (12, [vR (Q 1), vR (Q 2), vR (Q 3), vR (Q 4), vR (Q 5), vI 0, vR (Q 6), vL f0, vL f1, vL f2, vL f3, vL px, vL py, vL pb, vI rg, vI wr, vR (Q 7), vI rn, vR (Q 8), vI wn]))]) rfl dX11_wipe_7 rfl ?_
  refine g_iload_n C 1 rfl dX11_wipe_10 rfl ?_
  exact g_iret C hr rfl (Nat.le_of_ble_eq_true rfl) (Nat.le_of_ble_eq_true rfl) dX11_wipe_11 ⟨rfl, rfl⟩
