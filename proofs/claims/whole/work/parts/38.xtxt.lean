theorem in_X5_startNumber_X5 : ∀ w ∈ u_ws RX5 TX5 7, w ∈ wsX5_startNumber := by decide +kernel
theorem fd_X5_startNumber_63 : fdk wsX5_startNumber RX5 63 "ZoneRelay$Reader" RX5 TX5 7 4 := ⟨in_X5_startNumber_X5, by decide +kernel, by decide, rfl⟩
theorem fd_X5_startNumber_43 : fdk wsX5_startNumber RX5 43 "ZoneRelay$Reader" RX5 TX5 7 5 := ⟨in_X5_startNumber_X5, by decide +kernel, by decide, rfl⟩
theorem fd_X5_startNumber_69 : fdk wsX5_startNumber RX5 69 "ZoneRelay$Reader" RX5 TX5 7 6 := ⟨in_X5_startNumber_X5, by decide +kernel, by decide, rfl⟩
abbrev rm_K_r_start : Room := { frames := 0, cells := 0, slots := 0, locals := 0 }
set_option maxHeartbeats 8000000 in
set_option maxRecDepth 100000 in
theorem K_r_start (l : Launch) (E : Ev) (h xs ys : Nat) (m w g d v : Int)  : Mc l yX5_startNumber wsX5_startNumber rm_K_r_start E [vR h] [(h, .inr (6, [vR xs, vR ys, vI m, vI w, vI g, vI d, vI v]))] 0 0 (fun v9 w9 => v9 = none ∧ w9 = [(h, .inr (6, [vR xs, vR ys, vI m, vI w, vI 0, vI 0, vI 0]))]) := by
  refine Mc.intro (cc := cX5_startNumber) (maxL := 1) (ret := none) (lv0 := [(0, vR h)]) (by decide +kernel) rfl rfl (Nat.le_of_ble_eq_true rfl) ?_
  intro p9 e9 s9 m9 args9 below9 meth9 c9 A9 C hr hmn
  have C : Cx p9 s9 m9 args9 meth9 c9 E A9 1 cX5_startNumber wsX5_startNumber RX5 := C
  refine g_aload_n C 0 rfl dX5_startNumber_0 rfl ?_
  refine g_iconst C dX5_startNumber_1 rfl ?_
  refine g_put C tyX5 tyX5_ok nmX5 0 fd_X5_startNumber_63 rfl rfl rfl rfl (by decide) (by decide) (Nat.le_of_ble_eq_true rfl) (ws' := [(h, .inr (6, [vR xs, vR ys, vI m, vI w, vI 0, vI d, vI v]))]) rfl dX5_startNumber_2 rfl ?_
  refine g_aload_n C 0 rfl dX5_startNumber_5 rfl ?_
  refine g_iconst C dX5_startNumber_6 rfl ?_
  refine g_put C tyX5 tyX5_ok nmX5 0 fd_X5_startNumber_43 rfl rfl rfl rfl rfl rfl (Nat.le_of_ble_eq_true rfl) (ws' := [(h, .inr (6, [vR xs, vR ys, vI m, vI w, vI 0, vI 0, vI v]))]) rfl dX5_startNumber_7 rfl ?_
  refine g_aload_n C 0 rfl dX5_startNumber_10 rfl ?_
  refine g_iconst C dX5_startNumber_11 rfl ?_
  refine g_put C tyX5 tyX5_ok nmX5 0 fd_X5_startNumber_69 rfl rfl rfl rfl rfl rfl (Nat.le_of_ble_eq_true rfl) (ws' := [(h, .inr (6, [vR xs, vR ys, vI m, vI w, vI 0, vI 0, vI 0]))]) rfl dX5_startNumber_12 rfl ?_
  exact g_vret C hr (Nat.le_of_ble_eq_true rfl) (Nat.le_of_ble_eq_true rfl) dX5_startNumber_15 ⟨rfl, rfl⟩

theorem in_X5_number_X5 : ∀ w ∈ u_ws RX5 TX5 7, w ∈ wsX5_number := by decide +kernel
theorem fd_X5_number_63 : fdk wsX5_number RX5 63 "ZoneRelay$Reader" RX5 TX5 7 4 := ⟨in_X5_number_X5, by decide +kernel, by decide, rfl⟩
theorem fd_X5_number_69 : fdk wsX5_number RX5 69 "ZoneRelay$Reader" RX5 TX5 7 6 := ⟨in_X5_number_X5, by decide +kernel, by decide, rfl⟩
abbrev rm_K_r_num : Room := { frames := 0, cells := 0, slots := 0, locals := 0 }
set_option maxHeartbeats 8000000 in
set_option maxRecDepth 100000 in
theorem K_r_num (l : Launch) (E : Ev) (h xs ys : Nat) (m w g d v : Int) (hg : g = 0 ∨ g = 1) : Mc l yX5_number wsX5_number rm_K_r_num E [vR h] [(h, .inr (6, [vR xs, vR ys, vI m, vI w, vI g, vI d, vI v]))] 0 0 (fun v9 w9 => v9 = some (vI (num g v)) ∧ w9 = [(h, .inr (6, [vR xs, vR ys, vI m, vI w, vI g, vI d, vI v]))]) := by
  refine Mc.intro (cc := cX5_number) (maxL := 1) (ret := (some .int)) (lv0 := [(0, vR h)]) (by decide +kernel) rfl rfl (Nat.le_of_ble_eq_true rfl) ?_
  intro p9 e9 s9 m9 args9 below9 meth9 c9 A9 C hr hmn
  have C : Cx p9 s9 m9 args9 meth9 c9 E A9 1 cX5_number wsX5_number RX5 := C
  refine g_aload_n C 0 rfl dX5_number_0 rfl ?_
  refine g_get C 0 fd_X5_number_63 rfl rfl rfl dX5_number_1 rfl ?_
  refine g_if_eq C (tgt := 15) ⟨by omega, by omega⟩ dX5_number_4 (by decide) rfl (fun c_1 => ?_) (fun c_1 => ?_)
  · refine g_aload_n C 0 rfl dX5_number_15 rfl ?_
    refine g_get C 0 fd_X5_number_69 rfl rfl rfl dX5_number_16 rfl ?_
    refine g_top (v' := vI (num g v)) (congrArg (fun z_ : Int => vI z_) (show (num g v) = v by unfold num; (repeat' split) <;> first | rfl | omega | contradiction)) ?_
    exact g_iret C hr rfl (Nat.le_of_ble_eq_true rfl) (Nat.le_of_ble_eq_true rfl) dX5_number_19 ⟨rfl, rfl⟩
  refine g_aload_n C 0 rfl dX5_number_7 rfl ?_
  refine g_get C 0 fd_X5_number_69 rfl rfl rfl dX5_number_8 rfl ?_
  refine g_ineg C rfl dX5_number_11 rfl ?_
  refine g_goto C (pc' := 19) dX5_number_12 (by decide) ?_
  refine g_top (v' := vI (num g v)) (congrArg (fun z_ : Int => vI z_) (show (num g v) = (-v) by unfold num; (repeat' split) <;> first | rfl | omega | contradiction)) ?_
  exact g_iret C hr rfl (Nat.le_of_ble_eq_true rfl) (Nat.le_of_ble_eq_true rfl) dX5_number_19 ⟨rfl, rfl⟩

theorem in_X5_endCorner_X5 : ∀ w ∈ u_ws RX5 TX5 7, w ∈ wsX5_endCorner := by decide +kernel
theorem fd_X5_endCorner_18 : fdk wsX5_endCorner RX5 18 "ZoneRelay$Reader" RX5 TX5 7 2 := ⟨in_X5_endCorner_X5, by decide +kernel, by decide, rfl⟩
theorem fd_X5_endCorner_15 : fdk wsX5_endCorner RX5 15 "ZoneRelay$Reader" RX5 TX5 7 1 := ⟨in_X5_endCorner_X5, by decide +kernel, by decide, rfl⟩
theorem hyd_X5_number : yX5_number.cls ≠ "java/lang/invoke/MethodHandle" ∧ yX5_number.cls ≠ "java/lang/invoke/VarHandle" ∧ (parseMethodDescriptor yX5_number.desc).map (fun d => d.parameters.length) = some 0 := by decide +kernel
theorem fd_X5_endCorner_22 : fdk wsX5_endCorner RX5 22 "ZoneRelay$Reader" RX5 TX5 7 3 := ⟨in_X5_endCorner_X5, by decide +kernel, by decide, rfl⟩
theorem hyd_X5_startNumber : yX5_startNumber.cls ≠ "java/lang/invoke/MethodHandle" ∧ yX5_startNumber.cls ≠ "java/lang/invoke/VarHandle" ∧ (parseMethodDescriptor yX5_startNumber.desc).map (fun d => d.parameters.length) = some 0 := by decide +kernel
abbrev rm_K_r_end : Room := { frames := 1, cells := 0, slots := 0, locals := 20 }
set_option maxHeartbeats 8000000 in
set_option maxRecDepth 100000 in
theorem K_r_end (l : Launch) (E : Ev) (h xs ys : Nat) (m w g d v : Int) (Y : Int → Int) (hg : g = 0 ∨ g = 1) (hm : 0 ≤ m ∧ m ≤ 7) : Mc l yX5_endCorner wsX5_endCorner rm_K_r_end E [vR h] [(h, .inr (6, [vR xs, vR ys, vI m, vI w, vI g, vI d, vI v])), (ys, cI E 8 Y)] 0 0 (fun v9 w9 => v9 = none ∧ w9 = [(h, .inr (6, [vR xs, vR ys, vI (m + 1), vI 0, vI 0, vI 0, vI 0])), (ys, cI E 8 (ua Y m (num g v)))]) := by
  refine Mc.intro (cc := cX5_endCorner) (maxL := 1) (ret := none) (lv0 := [(0, vR h)]) (by decide +kernel) rfl rfl (Nat.le_of_ble_eq_true rfl) ?_
  intro p9 e9 s9 m9 args9 below9 meth9 c9 A9 C hr hmn
  have C : Cx p9 s9 m9 args9 meth9 c9 E A9 1 cX5_endCorner wsX5_endCorner RX5 := C
  refine g_aload_n C 0 rfl dX5_endCorner_0 rfl ?_
  refine g_get C 0 fd_X5_endCorner_18 rfl rfl rfl dX5_endCorner_1 rfl ?_
  refine g_bipush C (by decide) dX5_endCorner_4 rfl ?_
  refine g_icmp_lt C (tgt := 10) ⟨by omega, by omega⟩ ⟨by decide, by decide⟩ dX5_endCorner_6 (by decide) rfl (fun c_1 => ?_) (fun c_1 => ?_)
  · refine g_aload_n C 0 rfl dX5_endCorner_10 rfl ?_
    refine g_get C 0 fd_X5_endCorner_15 rfl rfl rfl dX5_endCorner_11 rfl ?_
    refine g_aload_n C 0 rfl dX5_endCorner_14 rfl ?_
    refine g_get C 0 fd_X5_endCorner_18 rfl rfl rfl dX5_endCorner_15 rfl ?_
    refine g_aload_n C 0 rfl dX5_endCorner_18 rfl ?_
    refine g_callV C (b := h) (mc := 0) (ms := 0) (rm := rm_K_r_num) (As := []) (wc := [(h, .inr (6, [vR xs, vR ys, vI m, vI w, vI g, vI d, vI v]))]) (wr := [(ys, cI E 8 Y)]) (st := [vI m, vR ys]) gX5_endCorner_X5_number (q9 := 0) (ci := 6) rfl rfl rfl (K_r_num l E h xs ys m w g d v hg) hyd_X5_number rfl [0] [1] rfl rfl rfl rfl rfl (by decide) ⟨rfl, rfl⟩ ⟨Nat.le_of_ble_eq_true rfl, Nat.le_of_ble_eq_true rfl, Nat.le_of_ble_eq_true rfl, Nat.le_of_ble_eq_true rfl⟩ (Nat.le_of_ble_eq_true rfl) dX5_endCorner_19 (rfl : _ = 0) (rfl : _ = 0) rfl ?_
    rintro _ _ ⟨rfl, rfl⟩
    refine g_is (ws' := [(ys, cI E 8 Y), (h, .inr (6, [vR xs, vR ys, vI m, vI w, vI g, vI d, vI v]))]) (st' := [vI (num g v), vI m, vR ys]) rfl rfl ?_
    refine g_sub (ws' := [(h, .inr (6, [vR xs, vR ys, vI m, vI w, vI g, vI d, vI v])), (ys, cI E 8 Y)]) [1, 0] rfl rfl rfl ?_
    refine g_iast C 1 rfl (by omega) (by omega) (by decide) (ws' := [(h, .inr (6, [vR xs, vR ys, vI m, vI w, vI g, vI d, vI v])), (ys, cI E 8 (ua Y m (num g v)))]) rfl dX5_endCorner_22 rfl ?_
    refine g_aload_n C 0 rfl dX5_endCorner_23 rfl ?_
    refine g_dup C rfl dX5_endCorner_24 rfl ?_
    refine g_get C 0 fd_X5_endCorner_18 rfl rfl rfl dX5_endCorner_25 rfl ?_
    refine g_iconst C dX5_endCorner_28 rfl ?_
    refine g_iadd C rfl dX5_endCorner_29 rfl ?_
    refine g_put C tyX5 tyX5_ok nmX5 0 fd_X5_endCorner_18 rfl rfl rfl rfl rfl rfl (Nat.le_of_ble_eq_true rfl) (ws' := [(h, .inr (6, [vR xs, vR ys, vI (m + 1), vI w, vI g, vI d, vI v])), (ys, cI E 8 (ua Y m (num g v)))]) rfl dX5_endCorner_30 rfl ?_
    refine g_aload_n C 0 rfl dX5_endCorner_33 rfl ?_
    refine g_iconst C dX5_endCorner_34 rfl ?_
    refine g_put C tyX5 tyX5_ok nmX5 0 fd_X5_endCorner_22 rfl rfl rfl rfl (by decide) (by decide) (Nat.le_of_ble_eq_true rfl) (ws' := [(h, .inr (6, [vR xs, vR ys, vI (m + 1), vI 0, vI g, vI d, vI v])), (ys, cI E 8 (ua Y m (num g v)))]) rfl dX5_endCorner_35 rfl ?_
    refine g_aload_n C 0 rfl dX5_endCorner_38 rfl ?_
    refine g_callV C (b := h) (mc := 0) (ms := 0) (rm := rm_K_r_start) (As := []) (wc := [(h, .inr (6, [vR xs, vR ys, vI (m + 1), vI 0, vI g, vI d, vI v]))]) (wr := [(ys, cI E 8 (ua Y m (num g v)))]) (st := []) gX5_endCorner_X5_startNumber (q9 := 0) (ci := 6) rfl rfl rfl (K_r_start l E h xs ys (m + 1) 0 g d v ) hyd_X5_startNumber rfl [0] [1] rfl rfl rfl rfl rfl (by decide) ⟨rfl, rfl⟩ ⟨Nat.le_of_ble_eq_true rfl, Nat.le_of_ble_eq_true rfl, Nat.le_of_ble_eq_true rfl, Nat.le_of_ble_eq_true rfl⟩ (Nat.le_of_ble_eq_true rfl) dX5_endCorner_39 (rfl : _ = 0) (rfl : _ = 0) rfl ?_
    rintro _ _ ⟨rfl, rfl⟩
    refine g_is (ws' := [(ys, cI E 8 (ua Y m (num g v))), (h, .inr (6, [vR xs, vR ys, vI (m + 1), vI 0, vI 0, vI 0, vI 0]))]) (st' := []) rfl rfl ?_
    refine g_sub (ws' := [(h, .inr (6, [vR xs, vR ys, vI (m + 1), vI 0, vI 0, vI 0, vI 0])), (ys, cI E 8 (ua Y m (num g v)))]) [1, 0] rfl rfl rfl ?_
    exact g_vret C hr (Nat.le_of_ble_eq_true rfl) (Nat.le_of_ble_eq_true rfl) dX5_endCorner_42 ⟨rfl, rfl⟩
  exfalso; omega

theorem in_X5_takesMinus_X5 : ∀ w ∈ u_ws RX5 TX5 7, w ∈ wsX5_takesMinus := by decide +kernel
theorem fd_X5_takesMinus_63 : fdk wsX5_takesMinus RX5 63 "ZoneRelay$Reader" RX5 TX5 7 4 := ⟨in_X5_takesMinus_X5, by decide +kernel, by decide, rfl⟩
theorem fd_X5_takesMinus_43 : fdk wsX5_takesMinus RX5 43 "ZoneRelay$Reader" RX5 TX5 7 5 := ⟨in_X5_takesMinus_X5, by decide +kernel, by decide, rfl⟩
abbrev rm_K_r_minus0 : Room := { frames := 0, cells := 0, slots := 0, locals := 0 }
set_option maxHeartbeats 8000000 in
set_option maxRecDepth 100000 in
theorem K_r_minus0 (l : Launch) (E : Ev) (h xs ys : Nat) (m w g d v : Int) (hk : ¬ (rM g d)) (hg : g = 0 ∨ g = 1) (hd : bi d) : Mc l yX5_takesMinus wsX5_takesMinus rm_K_r_minus0 E [vR h] [(h, .inr (6, [vR xs, vR ys, vI m, vI w, vI g, vI d, vI v]))] 0 0 (fun v9 w9 => v9 = some (vI 0) ∧ w9 = [(h, .inr (6, [vR xs, vR ys, vI m, vI w, vI g, vI d, vI v]))]) := by
  refine Mc.intro (cc := cX5_takesMinus) (maxL := 1) (ret := (some .boolean)) (lv0 := [(0, vR h)]) (by decide +kernel) rfl rfl (Nat.le_of_ble_eq_true rfl) ?_
  intro p9 e9 s9 m9 args9 below9 meth9 c9 A9 C hr hmn
  have C : Cx p9 s9 m9 args9 meth9 c9 E A9 1 cX5_takesMinus wsX5_takesMinus RX5 := C
  refine g_aload_n C 0 rfl dX5_takesMinus_0 rfl ?_
  refine g_get C 0 fd_X5_takesMinus_63 rfl rfl rfl dX5_takesMinus_1 rfl ?_
  refine g_if_ne C (tgt := 14) ⟨by omega, by omega⟩ dX5_takesMinus_4 (by decide) rfl (fun c_1 => ?_) (fun c_1 => ?_)
  · refine g_iconst C dX5_takesMinus_14 rfl ?_
    exact g_iret C hr (by decide) (Nat.le_of_ble_eq_true rfl) (Nat.le_of_ble_eq_true rfl) dX5_takesMinus_15 ⟨rfl, rfl⟩
  refine g_aload_n C 0 rfl dX5_takesMinus_7 rfl ?_
  refine g_get C 0 fd_X5_takesMinus_43 rfl rfl rfl dX5_takesMinus_8 rfl ?_
  refine g_if_le C (tgt := 16) (hd) dX5_takesMinus_11 (by decide) rfl (fun c_2 => ?_) (fun c_2 => ?_)
  · exfalso; omega
  refine g_iconst C dX5_takesMinus_14 rfl ?_
  exact g_iret C hr (by decide) (Nat.le_of_ble_eq_true rfl) (Nat.le_of_ble_eq_true rfl) dX5_takesMinus_15 ⟨rfl, rfl⟩

theorem in_X5_takesComma_X5 : ∀ w ∈ u_ws RX5 TX5 7, w ∈ wsX5_takesComma := by decide +kernel
theorem fd_X5_takesComma_22 : fdk wsX5_takesComma RX5 22 "ZoneRelay$Reader" RX5 TX5 7 3 := ⟨in_X5_takesComma_X5, by decide +kernel, by decide, rfl⟩
theorem fd_X5_takesComma_43 : fdk wsX5_takesComma RX5 43 "ZoneRelay$Reader" RX5 TX5 7 5 := ⟨in_X5_takesComma_X5, by decide +kernel, by decide, rfl⟩
theorem fd_X5_takesComma_18 : fdk wsX5_takesComma RX5 18 "ZoneRelay$Reader" RX5 TX5 7 2 := ⟨in_X5_takesComma_X5, by decide +kernel, by decide, rfl⟩
abbrev rm_K_r_comma0 : Room := { frames := 0, cells := 0, slots := 0, locals := 0 }
set_option maxHeartbeats 8000000 in
set_option maxRecDepth 100000 in
theorem K_r_comma0 (l : Launch) (E : Ev) (h xs ys : Nat) (m w g d v : Int) (X : Int → Int) (hk : ¬ (rC m w d)) (hg : g = 0 ∨ g = 1) (hd : bi d) (hm : 0 ≤ m ∧ m ≤ 8) (hw : w = 0 ∨ w = 1) : Mc l yX5_takesComma wsX5_takesComma rm_K_r_comma0 E [vR h] [(h, .inr (6, [vR xs, vR ys, vI m, vI w, vI g, vI d, vI v])), (xs, cI E 8 X)] 0 0 (fun v9 w9 => v9 = some (vI 0) ∧ w9 = [(h, .inr (6, [vR xs, vR ys, vI m, vI w, vI g, vI d, vI v])), (xs, cI E 8 X)]) := by
  refine Mc.intro (cc := cX5_takesComma) (maxL := 1) (ret := (some .boolean)) (lv0 := [(0, vR h)]) (by decide +kernel) rfl rfl (Nat.le_of_ble_eq_true rfl) ?_
  intro p9 e9 s9 m9 args9 below9 meth9 c9 A9 C hr hmn
  have C : Cx p9 s9 m9 args9 meth9 c9 E A9 1 cX5_takesComma wsX5_takesComma RX5 := C
  refine g_aload_n C 0 rfl dX5_takesComma_0 rfl ?_
  refine g_get C 0 fd_X5_takesComma_22 rfl rfl rfl dX5_takesComma_1 rfl ?_
  refine g_if_ne C (tgt := 23) ⟨by omega, by omega⟩ dX5_takesComma_4 (by decide) rfl (fun c_1 => ?_) (fun c_1 => ?_)
  · refine g_iconst C dX5_takesComma_23 rfl ?_
    exact g_iret C hr (by decide) (Nat.le_of_ble_eq_true rfl) (Nat.le_of_ble_eq_true rfl) dX5_takesComma_24 ⟨rfl, rfl⟩
  refine g_aload_n C 0 rfl dX5_takesComma_7 rfl ?_
  refine g_get C 0 fd_X5_takesComma_43 rfl rfl rfl dX5_takesComma_8 rfl ?_
  refine g_if_eq C (tgt := 23) (hd) dX5_takesComma_11 (by decide) rfl (fun c_2 => ?_) (fun c_2 => ?_)
  · refine g_iconst C dX5_takesComma_23 rfl ?_
    exact g_iret C hr (by decide) (Nat.le_of_ble_eq_true rfl) (Nat.le_of_ble_eq_true rfl) dX5_takesComma_24 ⟨rfl, rfl⟩
  refine g_aload_n C 0 rfl dX5_takesComma_14 rfl ?_
  refine g_get C 0 fd_X5_takesComma_18 rfl rfl rfl dX5_takesComma_15 rfl ?_
  refine g_bipush C (by decide) dX5_takesComma_18 rfl ?_
  refine g_icmp_lt C (tgt := 25) ⟨by omega, by omega⟩ ⟨by decide, by decide⟩ dX5_takesComma_20 (by decide) rfl (fun c_3 => ?_) (fun c_3 => ?_)
  · exfalso; omega
  refine g_iconst C dX5_takesComma_23 rfl ?_
  exact g_iret C hr (by decide) (Nat.le_of_ble_eq_true rfl) (Nat.le_of_ble_eq_true rfl) dX5_takesComma_24 ⟨rfl, rfl⟩

theorem in_X5_takesSlash_X5 : ∀ w ∈ u_ws RX5 TX5 7, w ∈ wsX5_takesSlash := by decide +kernel
theorem fd_X5_takesSlash_22 : fdk wsX5_takesSlash RX5 22 "ZoneRelay$Reader" RX5 TX5 7 3 := ⟨in_X5_takesSlash_X5, by decide +kernel, by decide, rfl⟩
theorem fd_X5_takesSlash_43 : fdk wsX5_takesSlash RX5 43 "ZoneRelay$Reader" RX5 TX5 7 5 := ⟨in_X5_takesSlash_X5, by decide +kernel, by decide, rfl⟩
theorem fd_X5_takesSlash_18 : fdk wsX5_takesSlash RX5 18 "ZoneRelay$Reader" RX5 TX5 7 2 := ⟨in_X5_takesSlash_X5, by decide +kernel, by decide, rfl⟩
abbrev rm_K_r_slash0 : Room := { frames := 0, cells := 0, slots := 0, locals := 0 }
set_option maxHeartbeats 8000000 in
set_option maxRecDepth 100000 in
theorem K_r_slash0 (l : Launch) (E : Ev) (h xs ys : Nat) (m w g d v : Int) (Y : Int → Int) (hk : ¬ (rS m w d)) (hg : g = 0 ∨ g = 1) (hd : bi d) (hm : 0 ≤ m ∧ m ≤ 8) (hw : w = 0 ∨ w = 1) : Mc l yX5_takesSlash wsX5_takesSlash rm_K_r_slash0 E [vR h] [(h, .inr (6, [vR xs, vR ys, vI m, vI w, vI g, vI d, vI v])), (ys, cI E 8 Y)] 0 0 (fun v9 w9 => v9 = some (vI 0) ∧ w9 = [(h, .inr (6, [vR xs, vR ys, vI m, vI w, vI g, vI d, vI v])), (ys, cI E 8 Y)]) := by
  refine Mc.intro (cc := cX5_takesSlash) (maxL := 1) (ret := (some .boolean)) (lv0 := [(0, vR h)]) (by decide +kernel) rfl rfl (Nat.le_of_ble_eq_true rfl) ?_
  intro p9 e9 s9 m9 args9 below9 meth9 c9 A9 C hr hmn
  have C : Cx p9 s9 m9 args9 meth9 c9 E A9 1 cX5_takesSlash wsX5_takesSlash RX5 := C
  refine g_aload_n C 0 rfl dX5_takesSlash_0 rfl ?_
  refine g_get C 0 fd_X5_takesSlash_22 rfl rfl rfl dX5_takesSlash_1 rfl ?_
  refine g_if_eq C (tgt := 23) ⟨by omega, by omega⟩ dX5_takesSlash_4 (by decide) rfl (fun c_1 => ?_) (fun c_1 => ?_)
  · refine g_iconst C dX5_takesSlash_23 rfl ?_
    exact g_iret C hr (by decide) (Nat.le_of_ble_eq_true rfl) (Nat.le_of_ble_eq_true rfl) dX5_takesSlash_24 ⟨rfl, rfl⟩
  refine g_aload_n C 0 rfl dX5_takesSlash_7 rfl ?_
  refine g_get C 0 fd_X5_takesSlash_43 rfl rfl rfl dX5_takesSlash_8 rfl ?_
  refine g_if_eq C (tgt := 23) (hd) dX5_takesSlash_11 (by decide) rfl (fun c_2 => ?_) (fun c_2 => ?_)
  · refine g_iconst C dX5_takesSlash_23 rfl ?_
    exact g_iret C hr (by decide) (Nat.le_of_ble_eq_true rfl) (Nat.le_of_ble_eq_true rfl) dX5_takesSlash_24 ⟨rfl, rfl⟩
  refine g_aload_n C 0 rfl dX5_takesSlash_14 rfl ?_
  refine g_get C 0 fd_X5_takesSlash_18 rfl rfl rfl dX5_takesSlash_15 rfl ?_
  refine g_bipush C (by decide) dX5_takesSlash_18 rfl ?_
  refine g_icmp_lt C (tgt := 25) ⟨by omega, by omega⟩ ⟨by decide, by decide⟩ dX5_takesSlash_20 (by decide) rfl (fun c_3 => ?_) (fun c_3 => ?_)
  · exfalso; omega
  refine g_iconst C dX5_takesSlash_23 rfl ?_
  exact g_iret C hr (by decide) (Nat.le_of_ble_eq_true rfl) (Nat.le_of_ble_eq_true rfl) dX5_takesSlash_24 ⟨rfl, rfl⟩

theorem in_X5_takesDigit_X5 : ∀ w ∈ u_ws RX5 TX5 7, w ∈ wsX5_takesDigit := by decide +kernel
theorem fd_X5_takesDigit_43 : fdk wsX5_takesDigit RX5 43 "ZoneRelay$Reader" RX5 TX5 7 5 := ⟨in_X5_takesDigit_X5, by decide +kernel, by decide, rfl⟩
theorem w_X5_takesDigit_ns72 : Cond.initialized yX10_outside.cls ∈ wsX5_takesDigit ∧ Cond.static yX10_outside ∈ wsX5_takesDigit := ⟨by decide +kernel, by decide +kernel⟩
theorem nw_X5_72 : Cond.methodLinkNest RX5 72 yX10_outside RX10 ∈ nwl := by decide +kernel
theorem fd_X5_takesDigit_69 : fdk wsX5_takesDigit RX5 69 "ZoneRelay$Reader" RX5 TX5 7 6 := ⟨in_X5_takesDigit_X5, by decide +kernel, by decide, rfl⟩
abbrev rm_K_r_digit0 : Room := { frames := 1, cells := 0, slots := 0, locals := 22 }
set_option maxHeartbeats 8000000 in
set_option maxRecDepth 100000 in
theorem K_r_digit0 (l : Launch) (E : Ev) (h xs ys : Nat) (m w g d v x : Int) (hk : ¬ ((0 ≤ x ∧ x ≤ 9) ∧ ¬ (0 < d ∧ v = 0) ∧ v * 10 + x ≤ 20000)) (hx : -1000 ≤ x ∧ x ≤ 1000) (hd : 0 ≤ d ∧ d ≤ 1000) (hv : 0 ≤ v ∧ v ≤ 20000) : Mc l yX5_takesDigit wsX5_takesDigit rm_K_r_digit0 E [vR h, vI x] [(h, .inr (6, [vR xs, vR ys, vI m, vI w, vI g, vI d, vI v]))] 0 0 (fun v9 w9 => v9 = some (vI 0) ∧ w9 = [(h, .inr (6, [vR xs, vR ys, vI m, vI w, vI g, vI d, vI v]))]) := by
  refine Mc.intro (cc := cX5_takesDigit) (maxL := 3) (ret := (some .boolean)) (lv0 := [(0, vR h), (1, vI x)]) (by decide +kernel) rfl rfl (Nat.le_of_ble_eq_true rfl) ?_
  intro p9 e9 s9 m9 args9 below9 meth9 c9 A9 C hr hmn
  have C : Cx p9 s9 m9 args9 meth9 c9 E A9 3 cX5_takesDigit wsX5_takesDigit RX5 := C
  refine g_aload_n C 0 rfl dX5_takesDigit_0 rfl ?_
  refine g_get C 0 fd_X5_takesDigit_43 rfl rfl rfl dX5_takesDigit_1 rfl ?_
  refine g_if_le C (tgt := 18) ⟨by omega, by omega⟩ dX5_takesDigit_4 (by decide) rfl (fun c_1 => ?_) (fun c_1 => ?_)
  · refine g_iconst C dX5_takesDigit_18 rfl ?_
    refine g_istore_n C (lv' := [(0, vR h), (1, vI x), (2, vI 0)]) [1, 2, 0] (by decide) rfl rfl dX5_takesDigit_19 rfl ?_
    refine g_iload_n C 1 rfl dX5_takesDigit_20 rfl ?_
    refine g_iconst C dX5_takesDigit_21 rfl ?_
    refine g_bipush C (by decide) dX5_takesDigit_22 rfl ?_
    refine g_callSN C (mc := 0) (ms := 0) (rm := rm_K_outside) (As := [vI x, vI 0, vI 9]) (wc := []) (wr := [(h, .inr (6, [vR xs, vR ys, vI m, vI w, vI g, vI d, vI v]))]) (st := []) gX5_takesDigit_X10_outside_n72 nw_X5_72 w_X5_takesDigit_ns72 rfl (K_outside l E x 0 9 ⟨by omega, by omega⟩ ⟨by omega, by omega⟩ ⟨by omega, by omega⟩) hyd_X10_outside rfl [] [0] rfl rfl rfl rfl rfl (by decide) ⟨rfl, rfl⟩ ⟨Nat.le_of_ble_eq_true rfl, Nat.le_of_ble_eq_true rfl, Nat.le_of_ble_eq_true rfl, Nat.le_of_ble_eq_true rfl⟩ (Nat.le_of_ble_eq_true rfl) dX5_takesDigit_24 (rfl : _ = 0) (rfl : _ = 0) rfl ?_
    rintro _ _ ⟨rfl, rfl⟩
    refine g_is (ws' := [(h, .inr (6, [vR xs, vR ys, vI m, vI w, vI g, vI d, vI v]))]) (st' := [vI (bP (x < 0 ∨ 9 < x))]) rfl rfl ?_
    refine g_ifb_ne C (tgt := 49) dX5_takesDigit_27 (by decide) rfl (fun c_2 => ?_) (fun c_2 => ?_)
    · refine g_iconst C dX5_takesDigit_49 rfl ?_
      exact g_iret C hr (by decide) (Nat.le_of_ble_eq_true rfl) (Nat.le_of_ble_eq_true rfl) dX5_takesDigit_50 ⟨rfl, rfl⟩
    refine g_iload_n C 2 rfl dX5_takesDigit_30 rfl ?_
    refine g_if_ne C (tgt := 49) ⟨by decide, by decide⟩ dX5_takesDigit_31 (by decide) rfl (fun c_3 => ?_) (fun c_3 => ?_)
    · exact absurd c_3 (by decide)
    refine g_aload_n C 0 rfl dX5_takesDigit_34 rfl ?_
    refine g_get C 0 fd_X5_takesDigit_69 rfl rfl rfl dX5_takesDigit_35 rfl ?_
    refine g_bipush C (by decide) dX5_takesDigit_38 rfl ?_
    refine g_imul C rfl dX5_takesDigit_40 rfl ?_
    refine g_iload_n C 1 rfl dX5_takesDigit_41 rfl ?_
    refine g_iadd C rfl dX5_takesDigit_42 rfl ?_
    refine g_sipush C (by decide) dX5_takesDigit_43 rfl ?_
    refine g_icmp_le C (tgt := 51) ⟨by omega, by omega⟩ ⟨by decide, by decide⟩ dX5_takesDigit_46 (by decide) rfl (fun c_4 => ?_) (fun c_4 => ?_)
    · exfalso; omega
    refine g_iconst C dX5_takesDigit_49 rfl ?_
    exact g_iret C hr (by decide) (Nat.le_of_ble_eq_true rfl) (Nat.le_of_ble_eq_true rfl) dX5_takesDigit_50 ⟨rfl, rfl⟩
  refine g_aload_n C 0 rfl dX5_takesDigit_7 rfl ?_
  refine g_get C 0 fd_X5_takesDigit_69 rfl rfl rfl dX5_takesDigit_8 rfl ?_
  refine g_if_ne C (tgt := 18) ⟨by omega, by omega⟩ dX5_takesDigit_11 (by decide) rfl (fun c_5 => ?_) (fun c_5 => ?_)
  · refine g_iconst C dX5_takesDigit_18 rfl ?_
    refine g_istore_n C (lv' := [(0, vR h), (1, vI x), (2, vI 0)]) [1, 2, 0] (by decide) rfl rfl dX5_takesDigit_19 rfl ?_
    refine g_iload_n C 1 rfl dX5_takesDigit_20 rfl ?_
    refine g_iconst C dX5_takesDigit_21 rfl ?_
    refine g_bipush C (by decide) dX5_takesDigit_22 rfl ?_
    refine g_callSN C (mc := 0) (ms := 0) (rm := rm_K_outside) (As := [vI x, vI 0, vI 9]) (wc := []) (wr := [(h, .inr (6, [vR xs, vR ys, vI m, vI w, vI g, vI d, vI v]))]) (st := []) gX5_takesDigit_X10_outside_n72 nw_X5_72 w_X5_takesDigit_ns72 rfl (K_outside l E x 0 9 ⟨by omega, by omega⟩ ⟨by omega, by omega⟩ ⟨by omega, by omega⟩) hyd_X10_outside rfl [] [0] rfl rfl rfl rfl rfl (by decide) ⟨rfl, rfl⟩ ⟨Nat.le_of_ble_eq_true rfl, Nat.le_of_ble_eq_true rfl, Nat.le_of_ble_eq_true rfl, Nat.le_of_ble_eq_true rfl⟩ (Nat.le_of_ble_eq_true rfl) dX5_takesDigit_24 (rfl : _ = 0) (rfl : _ = 0) rfl ?_
    rintro _ _ ⟨rfl, rfl⟩
    refine g_is (ws' := [(h, .inr (6, [vR xs, vR ys, vI m, vI w, vI g, vI d, vI v]))]) (st' := [vI (bP (x < 0 ∨ 9 < x))]) rfl rfl ?_
    refine g_ifb_ne C (tgt := 49) dX5_takesDigit_27 (by decide) rfl (fun c_6 => ?_) (fun c_6 => ?_)
    · refine g_iconst C dX5_takesDigit_49 rfl ?_
      exact g_iret C hr (by decide) (Nat.le_of_ble_eq_true rfl) (Nat.le_of_ble_eq_true rfl) dX5_takesDigit_50 ⟨rfl, rfl⟩
    refine g_iload_n C 2 rfl dX5_takesDigit_30 rfl ?_
    refine g_if_ne C (tgt := 49) ⟨by decide, by decide⟩ dX5_takesDigit_31 (by decide) rfl (fun c_7 => ?_) (fun c_7 => ?_)
    · exact absurd c_7 (by decide)
    refine g_aload_n C 0 rfl dX5_takesDigit_34 rfl ?_
    refine g_get C 0 fd_X5_takesDigit_69 rfl rfl rfl dX5_takesDigit_35 rfl ?_
    refine g_bipush C (by decide) dX5_takesDigit_38 rfl ?_
    refine g_imul C rfl dX5_takesDigit_40 rfl ?_
    refine g_iload_n C 1 rfl dX5_takesDigit_41 rfl ?_
    refine g_iadd C rfl dX5_takesDigit_42 rfl ?_
    refine g_sipush C (by decide) dX5_takesDigit_43 rfl ?_
    refine g_icmp_le C (tgt := 51) ⟨by omega, by omega⟩ ⟨by decide, by decide⟩ dX5_takesDigit_46 (by decide) rfl (fun c_8 => ?_) (fun c_8 => ?_)
    · exfalso; omega
    refine g_iconst C dX5_takesDigit_49 rfl ?_
    exact g_iret C hr (by decide) (Nat.le_of_ble_eq_true rfl) (Nat.le_of_ble_eq_true rfl) dX5_takesDigit_50 ⟨rfl, rfl⟩
  refine g_iconst C dX5_takesDigit_14 rfl ?_
  refine g_goto C (pc' := 19) dX5_takesDigit_15 (by decide) ?_
  refine g_istore_n C (lv' := [(0, vR h), (1, vI x), (2, vI 1)]) [1, 2, 0] (by decide) rfl rfl dX5_takesDigit_19 rfl ?_
  refine g_iload_n C 1 rfl dX5_takesDigit_20 rfl ?_
  refine g_iconst C dX5_takesDigit_21 rfl ?_
  refine g_bipush C (by decide) dX5_takesDigit_22 rfl ?_
  refine g_callSN C (mc := 0) (ms := 0) (rm := rm_K_outside) (As := [vI x, vI 0, vI 9]) (wc := []) (wr := [(h, .inr (6, [vR xs, vR ys, vI m, vI w, vI g, vI d, vI v]))]) (st := []) gX5_takesDigit_X10_outside_n72 nw_X5_72 w_X5_takesDigit_ns72 rfl (K_outside l E x 0 9 ⟨by omega, by omega⟩ ⟨by omega, by omega⟩ ⟨by omega, by omega⟩) hyd_X10_outside rfl [] [0] rfl rfl rfl rfl rfl (by decide) ⟨rfl, rfl⟩ ⟨Nat.le_of_ble_eq_true rfl, Nat.le_of_ble_eq_true rfl, Nat.le_of_ble_eq_true rfl, Nat.le_of_ble_eq_true rfl⟩ (Nat.le_of_ble_eq_true rfl) dX5_takesDigit_24 (rfl : _ = 0) (rfl : _ = 0) rfl ?_
  rintro _ _ ⟨rfl, rfl⟩
  refine g_is (ws' := [(h, .inr (6, [vR xs, vR ys, vI m, vI w, vI g, vI d, vI v]))]) (st' := [vI (bP (x < 0 ∨ 9 < x))]) rfl rfl ?_
  refine g_ifb_ne C (tgt := 49) dX5_takesDigit_27 (by decide) rfl (fun c_9 => ?_) (fun c_9 => ?_)
  · refine g_iconst C dX5_takesDigit_49 rfl ?_
    exact g_iret C hr (by decide) (Nat.le_of_ble_eq_true rfl) (Nat.le_of_ble_eq_true rfl) dX5_takesDigit_50 ⟨rfl, rfl⟩
  refine g_iload_n C 2 rfl dX5_takesDigit_30 rfl ?_
  refine g_if_ne C (tgt := 49) ⟨by decide, by decide⟩ dX5_takesDigit_31 (by decide) rfl (fun c_10 => ?_) (fun c_10 => ?_)
  · refine g_iconst C dX5_takesDigit_49 rfl ?_
    exact g_iret C hr (by decide) (Nat.le_of_ble_eq_true rfl) (Nat.le_of_ble_eq_true rfl) dX5_takesDigit_50 ⟨rfl, rfl⟩
  exact absurd c_10 (by decide)

theorem hyd_X5_takesDigit : yX5_takesDigit.cls ≠ "java/lang/invoke/MethodHandle" ∧ yX5_takesDigit.cls ≠ "java/lang/invoke/VarHandle" ∧ (parseMethodDescriptor yX5_takesDigit.desc).map (fun d => d.parameters.length) = some 1 := by decide +kernel
theorem hyd_X5_takesSlash : yX5_takesSlash.cls ≠ "java/lang/invoke/MethodHandle" ∧ yX5_takesSlash.cls ≠ "java/lang/invoke/VarHandle" ∧ (parseMethodDescriptor yX5_takesSlash.desc).map (fun d => d.parameters.length) = some 0 := by decide +kernel
theorem hyd_X5_takesComma : yX5_takesComma.cls ≠ "java/lang/invoke/MethodHandle" ∧ yX5_takesComma.cls ≠ "java/lang/invoke/VarHandle" ∧ (parseMethodDescriptor yX5_takesComma.desc).map (fun d => d.parameters.length) = some 0 := by decide +kernel
theorem hyd_X5_takesMinus : yX5_takesMinus.cls ≠ "java/lang/invoke/MethodHandle" ∧ yX5_takesMinus.cls ≠ "java/lang/invoke/VarHandle" ∧ (parseMethodDescriptor yX5_takesMinus.desc).map (fun d => d.parameters.length) = some 0 := by decide +kernel
abbrev rm_K_r_takes0 : Room := { frames := 2, cells := 0, slots := 0, locals := 44 }
set_option maxHeartbeats 8000000 in
set_option maxRecDepth 100000 in
theorem K_r_takes0 (l : Launch) (E : Ev) (h xs ys : Nat) (m w g d v : Int) (X Y : Int → Int) (c : Int) (hk : ¬ okR c m w g d v) (hc : 0 ≤ c ∧ c ≤ 255) (hg : g = 0 ∨ g = 1) (hd : 0 ≤ d ∧ d ≤ 1000) (hm : 0 ≤ m ∧ m ≤ 8) (hw : w = 0 ∨ w = 1) (hv : 0 ≤ v ∧ v ≤ 20000) : Mc l yX5_takes wsX5_takes rm_K_r_takes0 E [vR h, vI c] [(h, .inr (6, [vR xs, vR ys, vI m, vI w, vI g, vI d, vI v])), (xs, cI E 8 X), (ys, cI E 8 Y)] 0 0 (fun v9 w9 => v9 = some (vI 0) ∧ w9 = [(h, .inr (6, [vR xs, vR ys, vI m, vI w, vI g, vI d, vI v])), (xs, cI E 8 X), (ys, cI E 8 Y)]) := by
  refine Mc.intro (cc := cX5_takes) (maxL := 2) (ret := (some .boolean)) (lv0 := [(0, vR h), (1, vI c)]) (by decide +kernel) rfl rfl (Nat.le_of_ble_eq_true rfl) ?_
  intro p9 e9 s9 m9 args9 below9 meth9 c9 A9 C hr hmn
  have C : Cx p9 s9 m9 args9 meth9 c9 E A9 2 cX5_takes wsX5_takes RX5 := C
  refine g_iload_n C 1 rfl dX5_takes_0 rfl ?_
  refine g_bipush C (by decide) dX5_takes_1 rfl ?_
  refine g_icmp_ne C (tgt := 11) ⟨by omega, by omega⟩ ⟨by decide, by decide⟩ dX5_takes_3 (by decide) rfl (fun c_1 => ?_) (fun c_1 => ?_)
  · refine g_iload_n C 1 rfl dX5_takes_11 rfl ?_
    refine g_bipush C (by decide) dX5_takes_12 rfl ?_
    refine g_icmp_ne C (tgt := 22) ⟨by omega, by omega⟩ ⟨by decide, by decide⟩ dX5_takes_14 (by decide) rfl (fun c_2 => ?_) (fun c_2 => ?_)
    · refine g_iload_n C 1 rfl dX5_takes_22 rfl ?_
      refine g_bipush C (by decide) dX5_takes_23 rfl ?_
      refine g_icmp_ne C (tgt := 33) ⟨by omega, by omega⟩ ⟨by decide, by decide⟩ dX5_takes_25 (by decide) rfl (fun c_3 => ?_) (fun c_3 => ?_)
      · refine g_aload_n C 0 rfl dX5_takes_33 rfl ?_
        refine g_iload_n C 1 rfl dX5_takes_34 rfl ?_
        refine g_bipush C (by decide) dX5_takes_35 rfl ?_
        refine g_isub C rfl dX5_takes_37 rfl ?_
        refine g_callV C (b := h) (mc := 0) (ms := 0) (rm := rm_K_r_digit0) (As := [vI (c - 48)]) (wc := [(h, .inr (6, [vR xs, vR ys, vI m, vI w, vI g, vI d, vI v]))]) (wr := [(xs, cI E 8 X), (ys, cI E 8 Y)]) (st := []) gX5_takes_X5_takesDigit (q9 := 0) (ci := 6) rfl rfl rfl (K_r_digit0 l E h xs ys m w g d v (c - 48) (fun q => hk (Or.inr (Or.inr (Or.inr ⟨by omega, by omega, q.2.1, q.2.2⟩)))) (by first | assumption | omega) hd hv) hyd_X5_takesDigit rfl [0] [1, 2] rfl rfl rfl rfl rfl (by decide) ⟨rfl, rfl⟩ ⟨Nat.le_of_ble_eq_true rfl, Nat.le_of_ble_eq_true rfl, Nat.le_of_ble_eq_true rfl, Nat.le_of_ble_eq_true rfl⟩ (Nat.le_of_ble_eq_true rfl) dX5_takes_38 (rfl : _ = 0) (rfl : _ = 0) rfl ?_
        rintro _ _ ⟨rfl, rfl⟩
        refine g_is (ws' := [(xs, cI E 8 X), (ys, cI E 8 Y), (h, .inr (6, [vR xs, vR ys, vI m, vI w, vI g, vI d, vI v]))]) (st' := [vI 0]) rfl rfl ?_
        refine g_sub (ws' := [(h, .inr (6, [vR xs, vR ys, vI m, vI w, vI g, vI d, vI v])), (xs, cI E 8 X), (ys, cI E 8 Y)]) [2, 0, 1] rfl rfl rfl ?_
        exact g_iret C hr (by decide) (Nat.le_of_ble_eq_true rfl) (Nat.le_of_ble_eq_true rfl) dX5_takes_41 ⟨rfl, rfl⟩
      refine g_aload_n C 0 rfl dX5_takes_28 rfl ?_
      refine g_callV C (b := h) (mc := 0) (ms := 0) (rm := rm_K_r_slash0) (As := []) (wc := [(h, .inr (6, [vR xs, vR ys, vI m, vI w, vI g, vI d, vI v])), (ys, cI E 8 Y)]) (wr := [(xs, cI E 8 X)]) (st := []) gX5_takes_X5_takesSlash (q9 := 0) (ci := 6) rfl rfl rfl (K_r_slash0 l E h xs ys m w g d v Y (fun q => hk (Or.inr (Or.inr (Or.inl ⟨by omega, q⟩)))) hg ⟨by omega, by omega⟩ hm hw) hyd_X5_takesSlash rfl [0, 2] [1] rfl rfl rfl rfl rfl (by decide) ⟨rfl, rfl⟩ ⟨Nat.le_of_ble_eq_true rfl, Nat.le_of_ble_eq_true rfl, Nat.le_of_ble_eq_true rfl, Nat.le_of_ble_eq_true rfl⟩ (Nat.le_of_ble_eq_true rfl) dX5_takes_29 (rfl : _ = 0) (rfl : _ = 0) rfl ?_
      rintro _ _ ⟨rfl, rfl⟩
      refine g_is (ws' := [(xs, cI E 8 X), (h, .inr (6, [vR xs, vR ys, vI m, vI w, vI g, vI d, vI v])), (ys, cI E 8 Y)]) (st' := [vI 0]) rfl rfl ?_
      refine g_sub (ws' := [(h, .inr (6, [vR xs, vR ys, vI m, vI w, vI g, vI d, vI v])), (xs, cI E 8 X), (ys, cI E 8 Y)]) [1, 0, 2] rfl rfl rfl ?_
      exact g_iret C hr (by decide) (Nat.le_of_ble_eq_true rfl) (Nat.le_of_ble_eq_true rfl) dX5_takes_32 ⟨rfl, rfl⟩
    refine g_aload_n C 0 rfl dX5_takes_17 rfl ?_
    refine g_callV C (b := h) (mc := 0) (ms := 0) (rm := rm_K_r_comma0) (As := []) (wc := [(h, .inr (6, [vR xs, vR ys, vI m, vI w, vI g, vI d, vI v])), (xs, cI E 8 X)]) (wr := [(ys, cI E 8 Y)]) (st := []) gX5_takes_X5_takesComma (q9 := 0) (ci := 6) rfl rfl rfl (K_r_comma0 l E h xs ys m w g d v X (fun q => hk (Or.inr (Or.inl ⟨by omega, q⟩))) hg ⟨by omega, by omega⟩ hm hw) hyd_X5_takesComma rfl [0, 1] [2] rfl rfl rfl rfl rfl (by decide) ⟨rfl, rfl⟩ ⟨Nat.le_of_ble_eq_true rfl, Nat.le_of_ble_eq_true rfl, Nat.le_of_ble_eq_true rfl, Nat.le_of_ble_eq_true rfl⟩ (Nat.le_of_ble_eq_true rfl) dX5_takes_18 (rfl : _ = 0) (rfl : _ = 0) rfl ?_
    rintro _ _ ⟨rfl, rfl⟩
    refine g_is (ws' := [(ys, cI E 8 Y), (h, .inr (6, [vR xs, vR ys, vI m, vI w, vI g, vI d, vI v])), (xs, cI E 8 X)]) (st' := [vI 0]) rfl rfl ?_
    refine g_sub (ws' := [(h, .inr (6, [vR xs, vR ys, vI m, vI w, vI g, vI d, vI v])), (xs, cI E 8 X), (ys, cI E 8 Y)]) [1, 2, 0] rfl rfl rfl ?_
    exact g_iret C hr (by decide) (Nat.le_of_ble_eq_true rfl) (Nat.le_of_ble_eq_true rfl) dX5_takes_21 ⟨rfl, rfl⟩
  refine g_aload_n C 0 rfl dX5_takes_6 rfl ?_
  refine g_callV C (b := h) (mc := 0) (ms := 0) (rm := rm_K_r_minus0) (As := []) (wc := [(h, .inr (6, [vR xs, vR ys, vI m, vI w, vI g, vI d, vI v]))]) (wr := [(xs, cI E 8 X), (ys, cI E 8 Y)]) (st := []) gX5_takes_X5_takesMinus (q9 := 0) (ci := 6) rfl rfl rfl (K_r_minus0 l E h xs ys m w g d v (fun q => hk (Or.inl ⟨by omega, q⟩)) hg ⟨by omega, by omega⟩) hyd_X5_takesMinus rfl [0] [1, 2] rfl rfl rfl rfl rfl (by decide) ⟨rfl, rfl⟩ ⟨Nat.le_of_ble_eq_true rfl, Nat.le_of_ble_eq_true rfl, Nat.le_of_ble_eq_true rfl, Nat.le_of_ble_eq_true rfl⟩ (Nat.le_of_ble_eq_true rfl) dX5_takes_7 (rfl : _ = 0) (rfl : _ = 0) rfl ?_
  rintro _ _ ⟨rfl, rfl⟩
  refine g_is (ws' := [(xs, cI E 8 X), (ys, cI E 8 Y), (h, .inr (6, [vR xs, vR ys, vI m, vI w, vI g, vI d, vI v]))]) (st' := [vI 0]) rfl rfl ?_
  refine g_sub (ws' := [(h, .inr (6, [vR xs, vR ys, vI m, vI w, vI g, vI d, vI v])), (xs, cI E 8 X), (ys, cI E 8 Y)]) [2, 0, 1] rfl rfl rfl ?_
  exact g_iret C hr (by decide) (Nat.le_of_ble_eq_true rfl) (Nat.le_of_ble_eq_true rfl) dX5_takes_10 ⟨rfl, rfl⟩

abbrev rm_K_r_minus1 : Room := { frames := 0, cells := 0, slots := 0, locals := 0 }
set_option maxHeartbeats 8000000 in
set_option maxRecDepth 100000 in
theorem K_r_minus1 (l : Launch) (E : Ev) (h xs ys : Nat) (m w g d v : Int) (hk : (rM g d)) (hg : g = 0 ∨ g = 1) (hd : bi d) : Mc l yX5_takesMinus wsX5_takesMinus rm_K_r_minus1 E [vR h] [(h, .inr (6, [vR xs, vR ys, vI m, vI w, vI g, vI d, vI v]))] 0 0 (fun v9 w9 => v9 = some (vI 1) ∧ w9 = [(h, .inr (6, [vR xs, vR ys, vI m, vI w, vI 1, vI d, vI v]))]) := by
  refine Mc.intro (cc := cX5_takesMinus) (maxL := 1) (ret := (some .boolean)) (lv0 := [(0, vR h)]) (by decide +kernel) rfl rfl (Nat.le_of_ble_eq_true rfl) ?_
  intro p9 e9 s9 m9 args9 below9 meth9 c9 A9 C hr hmn
  have C : Cx p9 s9 m9 args9 meth9 c9 E A9 1 cX5_takesMinus wsX5_takesMinus RX5 := C
  refine g_aload_n C 0 rfl dX5_takesMinus_0 rfl ?_
  refine g_get C 0 fd_X5_takesMinus_63 rfl rfl rfl dX5_takesMinus_1 rfl ?_
  refine g_if_ne C (tgt := 14) ⟨by omega, by omega⟩ dX5_takesMinus_4 (by decide) rfl (fun c_1 => ?_) (fun c_1 => ?_)
  · exfalso; omega
  refine g_aload_n C 0 rfl dX5_takesMinus_7 rfl ?_
  refine g_get C 0 fd_X5_takesMinus_43 rfl rfl rfl dX5_takesMinus_8 rfl ?_
  refine g_if_le C (tgt := 16) (hd) dX5_takesMinus_11 (by decide) rfl (fun c_2 => ?_) (fun c_2 => ?_)
  · refine g_aload_n C 0 rfl dX5_takesMinus_16 rfl ?_
    refine g_iconst C dX5_takesMinus_17 rfl ?_
    refine g_put C tyX5 tyX5_ok nmX5 0 fd_X5_takesMinus_63 rfl rfl rfl rfl (by decide) (by decide) (Nat.le_of_ble_eq_true rfl) (ws' := [(h, .inr (6, [vR xs, vR ys, vI m, vI w, vI 1, vI d, vI v]))]) rfl dX5_takesMinus_18 rfl ?_
    refine g_iconst C dX5_takesMinus_21 rfl ?_
    exact g_iret C hr (by decide) (Nat.le_of_ble_eq_true rfl) (Nat.le_of_ble_eq_true rfl) dX5_takesMinus_22 ⟨rfl, rfl⟩
  exfalso; omega

theorem fd_X5_takesComma_9 : fdk wsX5_takesComma RX5 9 "ZoneRelay$Reader" RX5 TX5 7 0 := ⟨in_X5_takesComma_X5, by decide +kernel, by decide, rfl⟩
abbrev rm_K_r_comma1 : Room := { frames := 1, cells := 0, slots := 0, locals := 20 }
set_option maxHeartbeats 8000000 in
set_option maxRecDepth 100000 in
theorem K_r_comma1 (l : Launch) (E : Ev) (h xs ys : Nat) (m w g d v : Int) (X : Int → Int) (hk : (rC m w d)) (hg : g = 0 ∨ g = 1) (hd : bi d) (hm : 0 ≤ m ∧ m ≤ 8) (hw : w = 0 ∨ w = 1) : Mc l yX5_takesComma wsX5_takesComma rm_K_r_comma1 E [vR h] [(h, .inr (6, [vR xs, vR ys, vI m, vI w, vI g, vI d, vI v])), (xs, cI E 8 X)] 0 0 (fun v9 w9 => v9 = some (vI 1) ∧ w9 = [(h, .inr (6, [vR xs, vR ys, vI m, vI 1, vI 0, vI 0, vI 0])), (xs, cI E 8 (ua X m (num g v)))]) := by
  refine Mc.intro (cc := cX5_takesComma) (maxL := 1) (ret := (some .boolean)) (lv0 := [(0, vR h)]) (by decide +kernel) rfl rfl (Nat.le_of_ble_eq_true rfl) ?_
  intro p9 e9 s9 m9 args9 below9 meth9 c9 A9 C hr hmn
  have C : Cx p9 s9 m9 args9 meth9 c9 E A9 1 cX5_takesComma wsX5_takesComma RX5 := C
  refine g_aload_n C 0 rfl dX5_takesComma_0 rfl ?_
  refine g_get C 0 fd_X5_takesComma_22 rfl rfl rfl dX5_takesComma_1 rfl ?_
  refine g_if_ne C (tgt := 23) ⟨by omega, by omega⟩ dX5_takesComma_4 (by decide) rfl (fun c_1 => ?_) (fun c_1 => ?_)
  · exfalso; omega
  refine g_aload_n C 0 rfl dX5_takesComma_7 rfl ?_
  refine g_get C 0 fd_X5_takesComma_43 rfl rfl rfl dX5_takesComma_8 rfl ?_
  refine g_if_eq C (tgt := 23) (hd) dX5_takesComma_11 (by decide) rfl (fun c_2 => ?_) (fun c_2 => ?_)
  · exfalso; omega
  refine g_aload_n C 0 rfl dX5_takesComma_14 rfl ?_
  refine g_get C 0 fd_X5_takesComma_18 rfl rfl rfl dX5_takesComma_15 rfl ?_
  refine g_bipush C (by decide) dX5_takesComma_18 rfl ?_
  refine g_icmp_lt C (tgt := 25) ⟨by omega, by omega⟩ ⟨by decide, by decide⟩ dX5_takesComma_20 (by decide) rfl (fun c_3 => ?_) (fun c_3 => ?_)
  · refine g_aload_n C 0 rfl dX5_takesComma_25 rfl ?_
    refine g_get C 0 fd_X5_takesComma_9 rfl rfl rfl dX5_takesComma_26 rfl ?_
    refine g_aload_n C 0 rfl dX5_takesComma_29 rfl ?_
    refine g_get C 0 fd_X5_takesComma_18 rfl rfl rfl dX5_takesComma_30 rfl ?_
    refine g_aload_n C 0 rfl dX5_takesComma_33 rfl ?_
    refine g_callV C (b := h) (mc := 0) (ms := 0) (rm := rm_K_r_num) (As := []) (wc := [(h, .inr (6, [vR xs, vR ys, vI m, vI w, vI g, vI d, vI v]))]) (wr := [(xs, cI E 8 X)]) (st := [vI m, vR xs]) gX5_takesComma_X5_number (q9 := 0) (ci := 6) rfl rfl rfl (K_r_num l E h xs ys m w g d v hg) hyd_X5_number rfl [0] [1] rfl rfl rfl rfl rfl (by decide) ⟨rfl, rfl⟩ ⟨Nat.le_of_ble_eq_true rfl, Nat.le_of_ble_eq_true rfl, Nat.le_of_ble_eq_true rfl, Nat.le_of_ble_eq_true rfl⟩ (Nat.le_of_ble_eq_true rfl) dX5_takesComma_34 (rfl : _ = 0) (rfl : _ = 0) rfl ?_
    rintro _ _ ⟨rfl, rfl⟩
    refine g_is (ws' := [(xs, cI E 8 X), (h, .inr (6, [vR xs, vR ys, vI m, vI w, vI g, vI d, vI v]))]) (st' := [vI (num g v), vI m, vR xs]) rfl rfl ?_
    refine g_sub (ws' := [(h, .inr (6, [vR xs, vR ys, vI m, vI w, vI g, vI d, vI v])), (xs, cI E 8 X)]) [1, 0] rfl rfl rfl ?_
    refine g_iast C 1 rfl (by omega) (by omega) (by decide) (ws' := [(h, .inr (6, [vR xs, vR ys, vI m, vI w, vI g, vI d, vI v])), (xs, cI E 8 (ua X m (num g v)))]) rfl dX5_takesComma_37 rfl ?_
    refine g_aload_n C 0 rfl dX5_takesComma_38 rfl ?_
    refine g_iconst C dX5_takesComma_39 rfl ?_
    refine g_put C tyX5 tyX5_ok nmX5 0 fd_X5_takesComma_22 rfl rfl rfl rfl (by decide) (by decide) (Nat.le_of_ble_eq_true rfl) (ws' := [(h, .inr (6, [vR xs, vR ys, vI m, vI 1, vI g, vI d, vI v])), (xs, cI E 8 (ua X m (num g v)))]) rfl dX5_takesComma_40 rfl ?_
    refine g_aload_n C 0 rfl dX5_takesComma_43 rfl ?_
    refine g_callV C (b := h) (mc := 0) (ms := 0) (rm := rm_K_r_start) (As := []) (wc := [(h, .inr (6, [vR xs, vR ys, vI m, vI 1, vI g, vI d, vI v]))]) (wr := [(xs, cI E 8 (ua X m (num g v)))]) (st := []) gX5_takesComma_X5_startNumber (q9 := 0) (ci := 6) rfl rfl rfl (K_r_start l E h xs ys m 1 g d v ) hyd_X5_startNumber rfl [0] [1] rfl rfl rfl rfl rfl (by decide) ⟨rfl, rfl⟩ ⟨Nat.le_of_ble_eq_true rfl, Nat.le_of_ble_eq_true rfl, Nat.le_of_ble_eq_true rfl, Nat.le_of_ble_eq_true rfl⟩ (Nat.le_of_ble_eq_true rfl) dX5_takesComma_44 (rfl : _ = 0) (rfl : _ = 0) rfl ?_
    rintro _ _ ⟨rfl, rfl⟩
    refine g_is (ws' := [(xs, cI E 8 (ua X m (num g v))), (h, .inr (6, [vR xs, vR ys, vI m, vI 1, vI 0, vI 0, vI 0]))]) (st' := []) rfl rfl ?_
    refine g_sub (ws' := [(h, .inr (6, [vR xs, vR ys, vI m, vI 1, vI 0, vI 0, vI 0])), (xs, cI E 8 (ua X m (num g v)))]) [1, 0] rfl rfl rfl ?_
    refine g_iconst C dX5_takesComma_47 rfl ?_
    exact g_iret C hr (by decide) (Nat.le_of_ble_eq_true rfl) (Nat.le_of_ble_eq_true rfl) dX5_takesComma_48 ⟨rfl, rfl⟩
  exfalso; omega

theorem hyd_X5_endCorner : yX5_endCorner.cls ≠ "java/lang/invoke/MethodHandle" ∧ yX5_endCorner.cls ≠ "java/lang/invoke/VarHandle" ∧ (parseMethodDescriptor yX5_endCorner.desc).map (fun d => d.parameters.length) = some 0 := by decide +kernel
abbrev rm_K_r_slash1 : Room := { frames := 2, cells := 0, slots := 0, locals := 40 }
set_option maxHeartbeats 8000000 in
set_option maxRecDepth 100000 in
theorem K_r_slash1 (l : Launch) (E : Ev) (h xs ys : Nat) (m w g d v : Int) (Y : Int → Int) (hk : (rS m w d)) (hg : g = 0 ∨ g = 1) (hd : bi d) (hm : 0 ≤ m ∧ m ≤ 8) (hw : w = 0 ∨ w = 1) : Mc l yX5_takesSlash wsX5_takesSlash rm_K_r_slash1 E [vR h] [(h, .inr (6, [vR xs, vR ys, vI m, vI w, vI g, vI d, vI v])), (ys, cI E 8 Y)] 0 0 (fun v9 w9 => v9 = some (vI 1) ∧ w9 = [(h, .inr (6, [vR xs, vR ys, vI (m + 1), vI 0, vI 0, vI 0, vI 0])), (ys, cI E 8 (ua Y m (num g v)))]) := by
  refine Mc.intro (cc := cX5_takesSlash) (maxL := 1) (ret := (some .boolean)) (lv0 := [(0, vR h)]) (by decide +kernel) rfl rfl (Nat.le_of_ble_eq_true rfl) ?_
  intro p9 e9 s9 m9 args9 below9 meth9 c9 A9 C hr hmn
  have C : Cx p9 s9 m9 args9 meth9 c9 E A9 1 cX5_takesSlash wsX5_takesSlash RX5 := C
  refine g_aload_n C 0 rfl dX5_takesSlash_0 rfl ?_
  refine g_get C 0 fd_X5_takesSlash_22 rfl rfl rfl dX5_takesSlash_1 rfl ?_
  refine g_if_eq C (tgt := 23) ⟨by omega, by omega⟩ dX5_takesSlash_4 (by decide) rfl (fun c_1 => ?_) (fun c_1 => ?_)
  · exfalso; omega
  refine g_aload_n C 0 rfl dX5_takesSlash_7 rfl ?_
  refine g_get C 0 fd_X5_takesSlash_43 rfl rfl rfl dX5_takesSlash_8 rfl ?_
  refine g_if_eq C (tgt := 23) (hd) dX5_takesSlash_11 (by decide) rfl (fun c_2 => ?_) (fun c_2 => ?_)
  · exfalso; omega
  refine g_aload_n C 0 rfl dX5_takesSlash_14 rfl ?_
  refine g_get C 0 fd_X5_takesSlash_18 rfl rfl rfl dX5_takesSlash_15 rfl ?_
  refine g_bipush C (by decide) dX5_takesSlash_18 rfl ?_
  refine g_icmp_lt C (tgt := 25) ⟨by omega, by omega⟩ ⟨by decide, by decide⟩ dX5_takesSlash_20 (by decide) rfl (fun c_3 => ?_) (fun c_3 => ?_)
  · refine g_aload_n C 0 rfl dX5_takesSlash_25 rfl ?_
    refine g_callV C (b := h) (mc := 0) (ms := 0) (rm := rm_K_r_end) (As := []) (wc := [(h, .inr (6, [vR xs, vR ys, vI m, vI w, vI g, vI d, vI v])), (ys, cI E 8 Y)]) (wr := []) (st := []) gX5_takesSlash_X5_endCorner (q9 := 0) (ci := 6) rfl rfl rfl (K_r_end l E h xs ys m w g d v Y hg (by first | assumption | omega)) hyd_X5_endCorner rfl [0, 1] [] rfl rfl rfl rfl rfl (by decide) ⟨rfl, rfl⟩ ⟨Nat.le_of_ble_eq_true rfl, Nat.le_of_ble_eq_true rfl, Nat.le_of_ble_eq_true rfl, Nat.le_of_ble_eq_true rfl⟩ (Nat.le_of_ble_eq_true rfl) dX5_takesSlash_26 (rfl : _ = 0) (rfl : _ = 0) rfl ?_
    rintro _ _ ⟨rfl, rfl⟩
    refine g_is (ws' := [(h, .inr (6, [vR xs, vR ys, vI (m + 1), vI 0, vI 0, vI 0, vI 0])), (ys, cI E 8 (ua Y m (num g v)))]) (st' := []) rfl rfl ?_
    refine g_iconst C dX5_takesSlash_29 rfl ?_
    exact g_iret C hr (by decide) (Nat.le_of_ble_eq_true rfl) (Nat.le_of_ble_eq_true rfl) dX5_takesSlash_30 ⟨rfl, rfl⟩
  exfalso; omega

abbrev rm_K_r_digit1 : Room := { frames := 1, cells := 0, slots := 0, locals := 22 }
set_option maxHeartbeats 8000000 in
set_option maxRecDepth 100000 in
theorem K_r_digit1 (l : Launch) (E : Ev) (h xs ys : Nat) (m w g d v x : Int) (hk : ((0 ≤ x ∧ x ≤ 9) ∧ ¬ (0 < d ∧ v = 0) ∧ v * 10 + x ≤ 20000)) (hx : -1000 ≤ x ∧ x ≤ 1000) (hd : 0 ≤ d ∧ d ≤ 1000) (hv : 0 ≤ v ∧ v ≤ 20000) : Mc l yX5_takesDigit wsX5_takesDigit rm_K_r_digit1 E [vR h, vI x] [(h, .inr (6, [vR xs, vR ys, vI m, vI w, vI g, vI d, vI v]))] 0 0 (fun v9 w9 => v9 = some (vI 1) ∧ w9 = [(h, .inr (6, [vR xs, vR ys, vI m, vI w, vI g, vI (d + 1), vI ((v * 10) + x)]))]) := by
  refine Mc.intro (cc := cX5_takesDigit) (maxL := 3) (ret := (some .boolean)) (lv0 := [(0, vR h), (1, vI x)]) (by decide +kernel) rfl rfl (Nat.le_of_ble_eq_true rfl) ?_
  intro p9 e9 s9 m9 args9 below9 meth9 c9 A9 C hr hmn
  have C : Cx p9 s9 m9 args9 meth9 c9 E A9 3 cX5_takesDigit wsX5_takesDigit RX5 := C
  refine g_aload_n C 0 rfl dX5_takesDigit_0 rfl ?_
  refine g_get C 0 fd_X5_takesDigit_43 rfl rfl rfl dX5_takesDigit_1 rfl ?_
  refine g_if_le C (tgt := 18) ⟨by omega, by omega⟩ dX5_takesDigit_4 (by decide) rfl (fun c_1 => ?_) (fun c_1 => ?_)
  · refine g_iconst C dX5_takesDigit_18 rfl ?_
    refine g_istore_n C (lv' := [(0, vR h), (1, vI x), (2, vI 0)]) [1, 2, 0] (by decide) rfl rfl dX5_takesDigit_19 rfl ?_
    refine g_iload_n C 1 rfl dX5_takesDigit_20 rfl ?_
    refine g_iconst C dX5_takesDigit_21 rfl ?_
    refine g_bipush C (by decide) dX5_takesDigit_22 rfl ?_
    refine g_callSN C (mc := 0) (ms := 0) (rm := rm_K_outside) (As := [vI x, vI 0, vI 9]) (wc := []) (wr := [(h, .inr (6, [vR xs, vR ys, vI m, vI w, vI g, vI d, vI v]))]) (st := []) gX5_takesDigit_X10_outside_n72 nw_X5_72 w_X5_takesDigit_ns72 rfl (K_outside l E x 0 9 ⟨by omega, by omega⟩ ⟨by omega, by omega⟩ ⟨by omega, by omega⟩) hyd_X10_outside rfl [] [0] rfl rfl rfl rfl rfl (by decide) ⟨rfl, rfl⟩ ⟨Nat.le_of_ble_eq_true rfl, Nat.le_of_ble_eq_true rfl, Nat.le_of_ble_eq_true rfl, Nat.le_of_ble_eq_true rfl⟩ (Nat.le_of_ble_eq_true rfl) dX5_takesDigit_24 (rfl : _ = 0) (rfl : _ = 0) rfl ?_
    rintro _ _ ⟨rfl, rfl⟩
    refine g_is (ws' := [(h, .inr (6, [vR xs, vR ys, vI m, vI w, vI g, vI d, vI v]))]) (st' := [vI (bP (x < 0 ∨ 9 < x))]) rfl rfl ?_
    refine g_ifb_ne C (tgt := 49) dX5_takesDigit_27 (by decide) rfl (fun c_2 => ?_) (fun c_2 => ?_)
    · exfalso; omega
    refine g_iload_n C 2 rfl dX5_takesDigit_30 rfl ?_
    refine g_if_ne C (tgt := 49) ⟨by decide, by decide⟩ dX5_takesDigit_31 (by decide) rfl (fun c_3 => ?_) (fun c_3 => ?_)
    · exact absurd c_3 (by decide)
    refine g_aload_n C 0 rfl dX5_takesDigit_34 rfl ?_
    refine g_get C 0 fd_X5_takesDigit_69 rfl rfl rfl dX5_takesDigit_35 rfl ?_
    refine g_bipush C (by decide) dX5_takesDigit_38 rfl ?_
    refine g_imul C rfl dX5_takesDigit_40 rfl ?_
    refine g_iload_n C 1 rfl dX5_takesDigit_41 rfl ?_
    refine g_iadd C rfl dX5_takesDigit_42 rfl ?_
    refine g_sipush C (by decide) dX5_takesDigit_43 rfl ?_
    refine g_icmp_le C (tgt := 51) ⟨by omega, by omega⟩ ⟨by decide, by decide⟩ dX5_takesDigit_46 (by decide) rfl (fun c_4 => ?_) (fun c_4 => ?_)
    · refine g_aload_n C 0 rfl dX5_takesDigit_51 rfl ?_
      refine g_aload_n C 0 rfl dX5_takesDigit_52 rfl ?_
      refine g_get C 0 fd_X5_takesDigit_69 rfl rfl rfl dX5_takesDigit_53 rfl ?_
      refine g_bipush C (by decide) dX5_takesDigit_56 rfl ?_
      refine g_imul C rfl dX5_takesDigit_58 rfl ?_
      refine g_iload_n C 1 rfl dX5_takesDigit_59 rfl ?_
      refine g_iadd C rfl dX5_takesDigit_60 rfl ?_
      refine g_put C tyX5 tyX5_ok nmX5 0 fd_X5_takesDigit_69 rfl rfl rfl rfl rfl rfl (Nat.le_of_ble_eq_true rfl) (ws' := [(h, .inr (6, [vR xs, vR ys, vI m, vI w, vI g, vI d, vI ((v * 10) + x)]))]) rfl dX5_takesDigit_61 rfl ?_
      refine g_aload_n C 0 rfl dX5_takesDigit_64 rfl ?_
      refine g_dup C rfl dX5_takesDigit_65 rfl ?_
      refine g_get C 0 fd_X5_takesDigit_43 rfl rfl rfl dX5_takesDigit_66 rfl ?_
      refine g_iconst C dX5_takesDigit_69 rfl ?_
      refine g_iadd C rfl dX5_takesDigit_70 rfl ?_
      refine g_put C tyX5 tyX5_ok nmX5 0 fd_X5_takesDigit_43 rfl rfl rfl rfl rfl rfl (Nat.le_of_ble_eq_true rfl) (ws' := [(h, .inr (6, [vR xs, vR ys, vI m, vI w, vI g, vI (d + 1), vI ((v * 10) + x)]))]) rfl dX5_takesDigit_71 rfl ?_
      refine g_iconst C dX5_takesDigit_74 rfl ?_
      exact g_iret C hr (by decide) (Nat.le_of_ble_eq_true rfl) (Nat.le_of_ble_eq_true rfl) dX5_takesDigit_75 ⟨rfl, rfl⟩
    exfalso; omega
  refine g_aload_n C 0 rfl dX5_takesDigit_7 rfl ?_
  refine g_get C 0 fd_X5_takesDigit_69 rfl rfl rfl dX5_takesDigit_8 rfl ?_
  refine g_if_ne C (tgt := 18) ⟨by omega, by omega⟩ dX5_takesDigit_11 (by decide) rfl (fun c_5 => ?_) (fun c_5 => ?_)
  · refine g_iconst C dX5_takesDigit_18 rfl ?_
    refine g_istore_n C (lv' := [(0, vR h), (1, vI x), (2, vI 0)]) [1, 2, 0] (by decide) rfl rfl dX5_takesDigit_19 rfl ?_
    refine g_iload_n C 1 rfl dX5_takesDigit_20 rfl ?_
    refine g_iconst C dX5_takesDigit_21 rfl ?_
    refine g_bipush C (by decide) dX5_takesDigit_22 rfl ?_
    refine g_callSN C (mc := 0) (ms := 0) (rm := rm_K_outside) (As := [vI x, vI 0, vI 9]) (wc := []) (wr := [(h, .inr (6, [vR xs, vR ys, vI m, vI w, vI g, vI d, vI v]))]) (st := []) gX5_takesDigit_X10_outside_n72 nw_X5_72 w_X5_takesDigit_ns72 rfl (K_outside l E x 0 9 ⟨by omega, by omega⟩ ⟨by omega, by omega⟩ ⟨by omega, by omega⟩) hyd_X10_outside rfl [] [0] rfl rfl rfl rfl rfl (by decide) ⟨rfl, rfl⟩ ⟨Nat.le_of_ble_eq_true rfl, Nat.le_of_ble_eq_true rfl, Nat.le_of_ble_eq_true rfl, Nat.le_of_ble_eq_true rfl⟩ (Nat.le_of_ble_eq_true rfl) dX5_takesDigit_24 (rfl : _ = 0) (rfl : _ = 0) rfl ?_
    rintro _ _ ⟨rfl, rfl⟩
    refine g_is (ws' := [(h, .inr (6, [vR xs, vR ys, vI m, vI w, vI g, vI d, vI v]))]) (st' := [vI (bP (x < 0 ∨ 9 < x))]) rfl rfl ?_
    refine g_ifb_ne C (tgt := 49) dX5_takesDigit_27 (by decide) rfl (fun c_6 => ?_) (fun c_6 => ?_)
    · exfalso; omega
    refine g_iload_n C 2 rfl dX5_takesDigit_30 rfl ?_
    refine g_if_ne C (tgt := 49) ⟨by decide, by decide⟩ dX5_takesDigit_31 (by decide) rfl (fun c_7 => ?_) (fun c_7 => ?_)
    · exact absurd c_7 (by decide)
    refine g_aload_n C 0 rfl dX5_takesDigit_34 rfl ?_
    refine g_get C 0 fd_X5_takesDigit_69 rfl rfl rfl dX5_takesDigit_35 rfl ?_
    refine g_bipush C (by decide) dX5_takesDigit_38 rfl ?_
    refine g_imul C rfl dX5_takesDigit_40 rfl ?_
    refine g_iload_n C 1 rfl dX5_takesDigit_41 rfl ?_
    refine g_iadd C rfl dX5_takesDigit_42 rfl ?_
    refine g_sipush C (by decide) dX5_takesDigit_43 rfl ?_
    refine g_icmp_le C (tgt := 51) ⟨by omega, by omega⟩ ⟨by decide, by decide⟩ dX5_takesDigit_46 (by decide) rfl (fun c_8 => ?_) (fun c_8 => ?_)
    · refine g_aload_n C 0 rfl dX5_takesDigit_51 rfl ?_
      refine g_aload_n C 0 rfl dX5_takesDigit_52 rfl ?_
      refine g_get C 0 fd_X5_takesDigit_69 rfl rfl rfl dX5_takesDigit_53 rfl ?_
      refine g_bipush C (by decide) dX5_takesDigit_56 rfl ?_
      refine g_imul C rfl dX5_takesDigit_58 rfl ?_
      refine g_iload_n C 1 rfl dX5_takesDigit_59 rfl ?_
      refine g_iadd C rfl dX5_takesDigit_60 rfl ?_
      refine g_put C tyX5 tyX5_ok nmX5 0 fd_X5_takesDigit_69 rfl rfl rfl rfl rfl rfl (Nat.le_of_ble_eq_true rfl) (ws' := [(h, .inr (6, [vR xs, vR ys, vI m, vI w, vI g, vI d, vI ((v * 10) + x)]))]) rfl dX5_takesDigit_61 rfl ?_
      refine g_aload_n C 0 rfl dX5_takesDigit_64 rfl ?_
      refine g_dup C rfl dX5_takesDigit_65 rfl ?_
      refine g_get C 0 fd_X5_takesDigit_43 rfl rfl rfl dX5_takesDigit_66 rfl ?_
      refine g_iconst C dX5_takesDigit_69 rfl ?_
      refine g_iadd C rfl dX5_takesDigit_70 rfl ?_
      refine g_put C tyX5 tyX5_ok nmX5 0 fd_X5_takesDigit_43 rfl rfl rfl rfl rfl rfl (Nat.le_of_ble_eq_true rfl) (ws' := [(h, .inr (6, [vR xs, vR ys, vI m, vI w, vI g, vI (d + 1), vI ((v * 10) + x)]))]) rfl dX5_takesDigit_71 rfl ?_
      refine g_iconst C dX5_takesDigit_74 rfl ?_
      exact g_iret C hr (by decide) (Nat.le_of_ble_eq_true rfl) (Nat.le_of_ble_eq_true rfl) dX5_takesDigit_75 ⟨rfl, rfl⟩
    exfalso; omega
  refine g_iconst C dX5_takesDigit_14 rfl ?_
  refine g_goto C (pc' := 19) dX5_takesDigit_15 (by decide) ?_
  refine g_istore_n C (lv' := [(0, vR h), (1, vI x), (2, vI 1)]) [1, 2, 0] (by decide) rfl rfl dX5_takesDigit_19 rfl ?_
  refine g_iload_n C 1 rfl dX5_takesDigit_20 rfl ?_
  refine g_iconst C dX5_takesDigit_21 rfl ?_
  refine g_bipush C (by decide) dX5_takesDigit_22 rfl ?_
  refine g_callSN C (mc := 0) (ms := 0) (rm := rm_K_outside) (As := [vI x, vI 0, vI 9]) (wc := []) (wr := [(h, .inr (6, [vR xs, vR ys, vI m, vI w, vI g, vI d, vI v]))]) (st := []) gX5_takesDigit_X10_outside_n72 nw_X5_72 w_X5_takesDigit_ns72 rfl (K_outside l E x 0 9 ⟨by omega, by omega⟩ ⟨by omega, by omega⟩ ⟨by omega, by omega⟩) hyd_X10_outside rfl [] [0] rfl rfl rfl rfl rfl (by decide) ⟨rfl, rfl⟩ ⟨Nat.le_of_ble_eq_true rfl, Nat.le_of_ble_eq_true rfl, Nat.le_of_ble_eq_true rfl, Nat.le_of_ble_eq_true rfl⟩ (Nat.le_of_ble_eq_true rfl) dX5_takesDigit_24 (rfl : _ = 0) (rfl : _ = 0) rfl ?_
  rintro _ _ ⟨rfl, rfl⟩
  refine g_is (ws' := [(h, .inr (6, [vR xs, vR ys, vI m, vI w, vI g, vI d, vI v]))]) (st' := [vI (bP (x < 0 ∨ 9 < x))]) rfl rfl ?_
  refine g_ifb_ne C (tgt := 49) dX5_takesDigit_27 (by decide) rfl (fun c_9 => ?_) (fun c_9 => ?_)
  · exfalso; omega
  refine g_iload_n C 2 rfl dX5_takesDigit_30 rfl ?_
  refine g_if_ne C (tgt := 49) ⟨by decide, by decide⟩ dX5_takesDigit_31 (by decide) rfl (fun c_10 => ?_) (fun c_10 => ?_)
  · exfalso; omega
  exact absurd c_10 (by decide)

abbrev rm_K_r_takes1 : Room := { frames := 3, cells := 0, slots := 0, locals := 60 }
set_option maxHeartbeats 8000000 in
set_option maxRecDepth 100000 in
theorem K_r_takes1 (l : Launch) (E : Ev) (h xs ys : Nat) (m w g d v : Int) (X Y : Int → Int) (c : Int) (hk : okR c m w g d v) (hc : 0 ≤ c ∧ c ≤ 255) (hg : g = 0 ∨ g = 1) (hd : 0 ≤ d ∧ d ≤ 1000) (hm : 0 ≤ m ∧ m ≤ 8) (hw : w = 0 ∨ w = 1) (hv : 0 ≤ v ∧ v ≤ 20000) : Mc l yX5_takes wsX5_takes rm_K_r_takes1 E [vR h, vI c] [(h, .inr (6, [vR xs, vR ys, vI m, vI w, vI g, vI d, vI v])), (xs, cI E 8 X), (ys, cI E 8 Y)] 0 0 (fun v9 w9 => v9 = some (vI 1) ∧ w9 = [(h, .inr (6, [vR xs, vR ys, vI (r_m c m), vI (r_w c w), vI (r_g c g), vI (r_d c d), vI (r_v c v)])), (xs, cI E 8 (r_X c m g v X)), (ys, cI E 8 (r_Y c m g v Y))]) := by
  refine Mc.intro (cc := cX5_takes) (maxL := 2) (ret := (some .boolean)) (lv0 := [(0, vR h), (1, vI c)]) (by decide +kernel) rfl rfl (Nat.le_of_ble_eq_true rfl) ?_
  intro p9 e9 s9 m9 args9 below9 meth9 c9 A9 C hr hmn
  have C : Cx p9 s9 m9 args9 meth9 c9 E A9 2 cX5_takes wsX5_takes RX5 := C
  refine g_iload_n C 1 rfl dX5_takes_0 rfl ?_
  refine g_bipush C (by decide) dX5_takes_1 rfl ?_
  refine g_icmp_ne C (tgt := 11) ⟨by omega, by omega⟩ ⟨by decide, by decide⟩ dX5_takes_3 (by decide) rfl (fun c_1 => ?_) (fun c_1 => ?_)
  · refine g_iload_n C 1 rfl dX5_takes_11 rfl ?_
    refine g_bipush C (by decide) dX5_takes_12 rfl ?_
    refine g_icmp_ne C (tgt := 22) ⟨by omega, by omega⟩ ⟨by decide, by decide⟩ dX5_takes_14 (by decide) rfl (fun c_2 => ?_) (fun c_2 => ?_)
    · refine g_iload_n C 1 rfl dX5_takes_22 rfl ?_
      refine g_bipush C (by decide) dX5_takes_23 rfl ?_
      refine g_icmp_ne C (tgt := 33) ⟨by omega, by omega⟩ ⟨by decide, by decide⟩ dX5_takes_25 (by decide) rfl (fun c_3 => ?_) (fun c_3 => ?_)
      · refine g_aload_n C 0 rfl dX5_takes_33 rfl ?_
        refine g_iload_n C 1 rfl dX5_takes_34 rfl ?_
        refine g_bipush C (by decide) dX5_takes_35 rfl ?_
        refine g_isub C rfl dX5_takes_37 rfl ?_
        refine g_callV C (b := h) (mc := 0) (ms := 0) (rm := rm_K_r_digit1) (As := [vI (c - 48)]) (wc := [(h, .inr (6, [vR xs, vR ys, vI m, vI w, vI g, vI d, vI v]))]) (wr := [(xs, cI E 8 X), (ys, cI E 8 Y)]) (st := []) gX5_takes_X5_takesDigit (q9 := 0) (ci := 6) rfl rfl rfl (K_r_digit1 l E h xs ys m w g d v (c - 48) (by rcases hk with q | q | q | q <;> first | (exfalso; have q1 := q.1; omega) | (have q1 := q.2.1; have q2 := q.2.2.1; have q3 := q.2.2.2; exact ⟨by omega, q2, q3⟩)) (by first | assumption | omega) hd hv) hyd_X5_takesDigit rfl [0] [1, 2] rfl rfl rfl rfl rfl (by decide) ⟨rfl, rfl⟩ ⟨Nat.le_of_ble_eq_true rfl, Nat.le_of_ble_eq_true rfl, Nat.le_of_ble_eq_true rfl, Nat.le_of_ble_eq_true rfl⟩ (Nat.le_of_ble_eq_true rfl) dX5_takes_38 (rfl : _ = 0) (rfl : _ = 0) rfl ?_
        rintro _ _ ⟨rfl, rfl⟩
        refine g_is (ws' := [(xs, cI E 8 X), (ys, cI E 8 Y), (h, .inr (6, [vR xs, vR ys, vI m, vI w, vI g, vI (d + 1), vI ((v * 10) + (c - 48))]))]) (st' := [vI 1]) rfl rfl ?_
        refine g_sub (ws' := [(h, .inr (6, [vR xs, vR ys, vI m, vI w, vI g, vI (d + 1), vI ((v * 10) + (c - 48))])), (xs, cI E 8 X), (ys, cI E 8 Y)]) [2, 0, 1] rfl rfl rfl ?_
        have z_4 : (r_m c m) = m := by unfold r_m; (repeat' split) <;> first | rfl | omega
        have z_5 : (r_w c w) = w := by unfold r_w; (repeat' split) <;> first | rfl | omega
        have z_6 : (r_g c g) = g := by unfold r_g; (repeat' split) <;> first | rfl | omega
        have z_7 : (r_d c d) = (d + 1) := by unfold r_d; (repeat' split) <;> first | rfl | omega
        have z_8 : (r_v c v) = ((v * 10) + (c - 48)) := by unfold r_v; (repeat' split) <;> first | rfl | omega
        have z_9 : cI E 8 (r_X c m g v X) = cI E 8 X := cI_c (fun k_ k0_ k1_ => by unfold r_X; (repeat' split) <;> first | rfl | omega)
        have z_10 : cI E 8 (r_Y c m g v Y) = cI E 8 Y := cI_c (fun k_ k0_ k1_ => by unfold r_Y; (repeat' split) <;> first | rfl | omega)
        have zz_11 := congr (congr (congr (congr (congr (congr (congrArg (fun (y9_0 : Int) (y9_1 : Int) (y9_2 : Int) (y9_3 : Int) (y9_4 : Int) (y9_5 : va_E) (y9_6 : va_E) => ([(h, .inr (6, [vR xs, vR ys, vI y9_0, vI y9_1, vI y9_2, vI y9_3, vI y9_4])), (xs, y9_5), (ys, y9_6)] : va_W)) z_4) z_5) z_6) z_7) z_8) z_9) z_10
        refine g_ws (ws' := [(h, .inr (6, [vR xs, vR ys, vI (r_m c m), vI (r_w c w), vI (r_g c g), vI (r_d c d), vI (r_v c v)])), (xs, cI E 8 (r_X c m g v X)), (ys, cI E 8 (r_Y c m g v Y))]) zz_11 ?_
        exact g_iret C hr (by decide) (Nat.le_of_ble_eq_true rfl) (Nat.le_of_ble_eq_true rfl) dX5_takes_41 ⟨rfl, rfl⟩
      refine g_aload_n C 0 rfl dX5_takes_28 rfl ?_
      refine g_callV C (b := h) (mc := 0) (ms := 0) (rm := rm_K_r_slash1) (As := []) (wc := [(h, .inr (6, [vR xs, vR ys, vI m, vI w, vI g, vI d, vI v])), (ys, cI E 8 Y)]) (wr := [(xs, cI E 8 X)]) (st := []) gX5_takes_X5_takesSlash (q9 := 0) (ci := 6) rfl rfl rfl (K_r_slash1 l E h xs ys m w g d v Y (by rcases hk with q | q | q | q <;> first | exact q.2 | (exfalso; omega)) hg ⟨by omega, by omega⟩ hm hw) hyd_X5_takesSlash rfl [0, 2] [1] rfl rfl rfl rfl rfl (by decide) ⟨rfl, rfl⟩ ⟨Nat.le_of_ble_eq_true rfl, Nat.le_of_ble_eq_true rfl, Nat.le_of_ble_eq_true rfl, Nat.le_of_ble_eq_true rfl⟩ (Nat.le_of_ble_eq_true rfl) dX5_takes_29 (rfl : _ = 0) (rfl : _ = 0) rfl ?_
      rintro _ _ ⟨rfl, rfl⟩
      refine g_is (ws' := [(xs, cI E 8 X), (h, .inr (6, [vR xs, vR ys, vI (m + 1), vI 0, vI 0, vI 0, vI 0])), (ys, cI E 8 (ua Y m (num g v)))]) (st' := [vI 1]) rfl rfl ?_
      refine g_sub (ws' := [(h, .inr (6, [vR xs, vR ys, vI (m + 1), vI 0, vI 0, vI 0, vI 0])), (xs, cI E 8 X), (ys, cI E 8 (ua Y m (num g v)))]) [1, 0, 2] rfl rfl rfl ?_
      have z_12 : (r_m c m) = (m + 1) := by unfold r_m; (repeat' split) <;> first | rfl | omega
      have z_13 : (r_w c w) = 0 := by unfold r_w; (repeat' split) <;> first | rfl | omega
      have z_14 : (r_g c g) = 0 := by unfold r_g; (repeat' split) <;> first | rfl | omega
      have z_15 : (r_d c d) = 0 := by unfold r_d; (repeat' split) <;> first | rfl | omega
      have z_16 : (r_v c v) = 0 := by unfold r_v; (repeat' split) <;> first | rfl | omega
      have z_17 : cI E 8 (r_X c m g v X) = cI E 8 X := cI_c (fun k_ k0_ k1_ => by unfold r_X; (repeat' split) <;> first | rfl | omega)
      have z_18 : cI E 8 (r_Y c m g v Y) = cI E 8 (ua Y m (num g v)) := cI_c (fun k_ k0_ k1_ => by unfold r_Y; (repeat' split) <;> first | rfl | omega)
      have zz_19 := congr (congr (congr (congr (congr (congr (congrArg (fun (y9_0 : Int) (y9_1 : Int) (y9_2 : Int) (y9_3 : Int) (y9_4 : Int) (y9_5 : va_E) (y9_6 : va_E) => ([(h, .inr (6, [vR xs, vR ys, vI y9_0, vI y9_1, vI y9_2, vI y9_3, vI y9_4])), (xs, y9_5), (ys, y9_6)] : va_W)) z_12) z_13) z_14) z_15) z_16) z_17) z_18
      refine g_ws (ws' := [(h, .inr (6, [vR xs, vR ys, vI (r_m c m), vI (r_w c w), vI (r_g c g), vI (r_d c d), vI (r_v c v)])), (xs, cI E 8 (r_X c m g v X)), (ys, cI E 8 (r_Y c m g v Y))]) zz_19 ?_
      exact g_iret C hr (by decide) (Nat.le_of_ble_eq_true rfl) (Nat.le_of_ble_eq_true rfl) dX5_takes_32 ⟨rfl, rfl⟩
    refine g_aload_n C 0 rfl dX5_takes_17 rfl ?_
    refine g_callV C (b := h) (mc := 0) (ms := 0) (rm := rm_K_r_comma1) (As := []) (wc := [(h, .inr (6, [vR xs, vR ys, vI m, vI w, vI g, vI d, vI v])), (xs, cI E 8 X)]) (wr := [(ys, cI E 8 Y)]) (st := []) gX5_takes_X5_takesComma (q9 := 0) (ci := 6) rfl rfl rfl (K_r_comma1 l E h xs ys m w g d v X (by rcases hk with q | q | q | q <;> first | exact q.2 | (exfalso; omega)) hg ⟨by omega, by omega⟩ hm hw) hyd_X5_takesComma rfl [0, 1] [2] rfl rfl rfl rfl rfl (by decide) ⟨rfl, rfl⟩ ⟨Nat.le_of_ble_eq_true rfl, Nat.le_of_ble_eq_true rfl, Nat.le_of_ble_eq_true rfl, Nat.le_of_ble_eq_true rfl⟩ (Nat.le_of_ble_eq_true rfl) dX5_takes_18 (rfl : _ = 0) (rfl : _ = 0) rfl ?_
    rintro _ _ ⟨rfl, rfl⟩
    refine g_is (ws' := [(ys, cI E 8 Y), (h, .inr (6, [vR xs, vR ys, vI m, vI 1, vI 0, vI 0, vI 0])), (xs, cI E 8 (ua X m (num g v)))]) (st' := [vI 1]) rfl rfl ?_
    refine g_sub (ws' := [(h, .inr (6, [vR xs, vR ys, vI m, vI 1, vI 0, vI 0, vI 0])), (xs, cI E 8 (ua X m (num g v))), (ys, cI E 8 Y)]) [1, 2, 0] rfl rfl rfl ?_
    have z_20 : (r_m c m) = m := by unfold r_m; (repeat' split) <;> first | rfl | omega
    have z_21 : (r_w c w) = 1 := by unfold r_w; (repeat' split) <;> first | rfl | omega
    have z_22 : (r_g c g) = 0 := by unfold r_g; (repeat' split) <;> first | rfl | omega
    have z_23 : (r_d c d) = 0 := by unfold r_d; (repeat' split) <;> first | rfl | omega
    have z_24 : (r_v c v) = 0 := by unfold r_v; (repeat' split) <;> first | rfl | omega
    have z_25 : cI E 8 (r_X c m g v X) = cI E 8 (ua X m (num g v)) := cI_c (fun k_ k0_ k1_ => by unfold r_X; (repeat' split) <;> first | rfl | omega)
    have z_26 : cI E 8 (r_Y c m g v Y) = cI E 8 Y := cI_c (fun k_ k0_ k1_ => by unfold r_Y; (repeat' split) <;> first | rfl | omega)
    have zz_27 := congr (congr (congr (congr (congr (congr (congrArg (fun (y9_0 : Int) (y9_1 : Int) (y9_2 : Int) (y9_3 : Int) (y9_4 : Int) (y9_5 : va_E) (y9_6 : va_E) => ([(h, .inr (6, [vR xs, vR ys, vI y9_0, vI y9_1, vI y9_2, vI y9_3, vI y9_4])), (xs, y9_5), (ys, y9_6)] : va_W)) z_20) z_21) z_22) z_23) z_24) z_25) z_26
    refine g_ws (ws' := [(h, .inr (6, [vR xs, vR ys, vI (r_m c m), vI (r_w c w), vI (r_g c g), vI (r_d c d), vI (r_v c v)])), (xs, cI E 8 (r_X c m g v X)), (ys, cI E 8 (r_Y c m g v Y))]) zz_27 ?_
    exact g_iret C hr (by decide) (Nat.le_of_ble_eq_true rfl) (Nat.le_of_ble_eq_true rfl) dX5_takes_21 ⟨rfl, rfl⟩
  refine g_aload_n C 0 rfl dX5_takes_6 rfl ?_
  refine g_callV C (b := h) (mc := 0) (ms := 0) (rm := rm_K_r_minus1) (As := []) (wc := [(h, .inr (6, [vR xs, vR ys, vI m, vI w, vI g, vI d, vI v]))]) (wr := [(xs, cI E 8 X), (ys, cI E 8 Y)]) (st := []) gX5_takes_X5_takesMinus (q9 := 0) (ci := 6) rfl rfl rfl (K_r_minus1 l E h xs ys m w g d v (by rcases hk with q | q | q | q <;> first | exact q.2 | (exfalso; omega)) hg ⟨by omega, by omega⟩) hyd_X5_takesMinus rfl [0] [1, 2] rfl rfl rfl rfl rfl (by decide) ⟨rfl, rfl⟩ ⟨Nat.le_of_ble_eq_true rfl, Nat.le_of_ble_eq_true rfl, Nat.le_of_ble_eq_true rfl, Nat.le_of_ble_eq_true rfl⟩ (Nat.le_of_ble_eq_true rfl) dX5_takes_7 (rfl : _ = 0) (rfl : _ = 0) rfl ?_
  rintro _ _ ⟨rfl, rfl⟩
  refine g_is (ws' := [(xs, cI E 8 X), (ys, cI E 8 Y), (h, .inr (6, [vR xs, vR ys, vI m, vI w, vI 1, vI d, vI v]))]) (st' := [vI 1]) rfl rfl ?_
  refine g_sub (ws' := [(h, .inr (6, [vR xs, vR ys, vI m, vI w, vI 1, vI d, vI v])), (xs, cI E 8 X), (ys, cI E 8 Y)]) [2, 0, 1] rfl rfl rfl ?_
  have z_28 : (r_m c m) = m := by unfold r_m; (repeat' split) <;> first | rfl | omega
  have z_29 : (r_w c w) = w := by unfold r_w; (repeat' split) <;> first | rfl | omega
  have z_30 : (r_g c g) = 1 := by unfold r_g; (repeat' split) <;> first | rfl | omega
  have z_31 : (r_d c d) = d := by unfold r_d; (repeat' split) <;> first | rfl | omega
  have z_32 : (r_v c v) = v := by unfold r_v; (repeat' split) <;> first | rfl | omega
  have z_33 : cI E 8 (r_X c m g v X) = cI E 8 X := cI_c (fun k_ k0_ k1_ => by unfold r_X; (repeat' split) <;> first | rfl | omega)
  have z_34 : cI E 8 (r_Y c m g v Y) = cI E 8 Y := cI_c (fun k_ k0_ k1_ => by unfold r_Y; (repeat' split) <;> first | rfl | omega)
  have zz_35 := congr (congr (congr (congr (congr (congr (congrArg (fun (y9_0 : Int) (y9_1 : Int) (y9_2 : Int) (y9_3 : Int) (y9_4 : Int) (y9_5 : va_E) (y9_6 : va_E) => ([(h, .inr (6, [vR xs, vR ys, vI y9_0, vI y9_1, vI y9_2, vI y9_3, vI y9_4])), (xs, y9_5), (ys, y9_6)] : va_W)) z_28) z_29) z_30) z_31) z_32) z_33) z_34
  refine g_ws (ws' := [(h, .inr (6, [vR xs, vR ys, vI (r_m c m), vI (r_w c w), vI (r_g c g), vI (r_d c d), vI (r_v c v)])), (xs, cI E 8 (r_X c m g v X)), (ys, cI E 8 (r_Y c m g v Y))]) zz_35 ?_
  exact g_iret C hr (by decide) (Nat.le_of_ble_eq_true rfl) (Nat.le_of_ble_eq_true rfl) dX5_takes_10 ⟨rfl, rfl⟩

theorem in_X5_findFlaw_X5 : ∀ w ∈ u_ws RX5 TX5 7, w ∈ wsX5_findFlaw := by decide +kernel
theorem fd_X5_findFlaw_18 : fdk wsX5_findFlaw RX5 18 "ZoneRelay$Reader" RX5 TX5 7 2 := ⟨in_X5_findFlaw_X5, by decide +kernel, by decide, rfl⟩
theorem fd_X5_findFlaw_22 : fdk wsX5_findFlaw RX5 22 "ZoneRelay$Reader" RX5 TX5 7 3 := ⟨in_X5_findFlaw_X5, by decide +kernel, by decide, rfl⟩
theorem fd_X5_findFlaw_43 : fdk wsX5_findFlaw RX5 43 "ZoneRelay$Reader" RX5 TX5 7 5 := ⟨in_X5_findFlaw_X5, by decide +kernel, by decide, rfl⟩
theorem hyd_J4_charAt_5068e : yJ4_charAt_5068e.cls ≠ "java/lang/invoke/MethodHandle" ∧ yJ4_charAt_5068e.cls ≠ "java/lang/invoke/VarHandle" ∧ (parseMethodDescriptor yJ4_charAt_5068e.desc).map (fun d => d.parameters.length) = some 1 := by decide +kernel
theorem hyd_X5_takes : yX5_takes.cls ≠ "java/lang/invoke/MethodHandle" ∧ yX5_takes.cls ≠ "java/lang/invoke/VarHandle" ∧ (parseMethodDescriptor yX5_takes.desc).map (fun d => d.parameters.length) = some 1 := by decide +kernel
abbrev rm_K_findFlaw : Room := { frames := 4, cells := 0, slots := 0, locals := 88 }
set_option maxHeartbeats 8000000 in
set_option maxRecDepth 100000 in
theorem K_findFlaw (l : Launch) (E : Ev) (h xs ys sb_ b : Nat) (m w g d v ml n : Int) (X Y t : Int → Int) (N : Nat) (hN : (N : Int) ≤ 1000) (hb : BX N t) (hn : 0 ≤ n ∧ n ≤ 80) (hnN : n ≤ (N : Int)) : Mc l yX5_findFlaw wsX5_findFlaw rm_K_findFlaw E [vR h, vR sb_] [(h, .inr (6, [vR xs, vR ys, vI m, vI w, vI g, vI d, vI v])), (xs, cI E 8 X), (ys, cI E 8 Y), (sb_, .inr (0, [vR b, vI 0, vI ml, vI n])), (b, cB E N t)] 0 0 (fun v9 w9 => ∃ (w8 : Int) (g8 : Int) (d8 : Int) (v8 : Int), v9 = some (vI ((fw t (Int.toNat n) 0 0 0 0 0 0 X Y).1)) ∧ w9 = [(h, .inr (6, [vR xs, vR ys, vI ((fw t (Int.toNat n) 0 0 0 0 0 0 X Y).2.1), vI w8, vI g8, vI d8, vI v8])), (xs, cI E 8 ((fw t (Int.toNat n) 0 0 0 0 0 0 X Y).2.2.1)), (ys, cI E 8 ((fw t (Int.toNat n) 0 0 0 0 0 0 X Y).2.2.2)), (sb_, .inr (0, [vR b, vI 0, vI ml, vI n])), (b, cB E N t)]) := by
  refine Mc.intro (cc := cX5_findFlaw) (maxL := 3) (ret := (some .int)) (lv0 := [(0, vR h), (1, vR sb_)]) (by decide +kernel) rfl rfl (Nat.le_of_ble_eq_true rfl) ?_
  intro p9 e9 s9 m9 args9 below9 meth9 c9 A9 C hr hmn
  have C : Cx p9 s9 m9 args9 meth9 c9 E A9 3 cX5_findFlaw wsX5_findFlaw RX5 := C
  refine g_aload_n C 0 rfl dX5_findFlaw_0 rfl ?_
  refine g_iconst C dX5_findFlaw_1 rfl ?_
  refine g_put C tyX5 tyX5_ok nmX5 0 fd_X5_findFlaw_18 rfl rfl rfl rfl rfl rfl (Nat.le_of_ble_eq_true rfl) (ws' := [(h, .inr (6, [vR xs, vR ys, vI 0, vI w, vI g, vI d, vI v])), (xs, cI E 8 X), (ys, cI E 8 Y), (sb_, .inr (0, [vR b, vI 0, vI ml, vI n])), (b, cB E N t)]) rfl dX5_findFlaw_2 rfl ?_
  refine g_aload_n C 0 rfl dX5_findFlaw_5 rfl ?_
  refine g_iconst C dX5_findFlaw_6 rfl ?_
  refine g_put C tyX5 tyX5_ok nmX5 0 fd_X5_findFlaw_22 rfl rfl rfl rfl (by decide) (by decide) (Nat.le_of_ble_eq_true rfl) (ws' := [(h, .inr (6, [vR xs, vR ys, vI 0, vI 0, vI g, vI d, vI v])), (xs, cI E 8 X), (ys, cI E 8 Y), (sb_, .inr (0, [vR b, vI 0, vI ml, vI n])), (b, cB E N t)]) rfl dX5_findFlaw_7 rfl ?_
  refine g_aload_n C 0 rfl dX5_findFlaw_10 rfl ?_
  refine g_callV C (b := h) (mc := 0) (ms := 0) (rm := rm_K_r_start) (As := []) (wc := [(h, .inr (6, [vR xs, vR ys, vI 0, vI 0, vI g, vI d, vI v]))]) (wr := [(xs, cI E 8 X), (ys, cI E 8 Y), (sb_, .inr (0, [vR b, vI 0, vI ml, vI n])), (b, cB E N t)]) (st := []) gX5_findFlaw_X5_startNumber (q9 := 0) (ci := 6) rfl rfl rfl (K_r_start l E h xs ys 0 0 g d v ) hyd_X5_startNumber rfl [0] [1, 2, 3, 4] rfl rfl rfl rfl rfl (by decide) ⟨rfl, rfl⟩ ⟨Nat.le_of_ble_eq_true rfl, Nat.le_of_ble_eq_true rfl, Nat.le_of_ble_eq_true rfl, Nat.le_of_ble_eq_true rfl⟩ (Nat.le_of_ble_eq_true rfl) dX5_findFlaw_11 (rfl : _ = 0) (rfl : _ = 0) rfl ?_
  rintro _ _ ⟨rfl, rfl⟩
  refine g_is (ws' := [(xs, cI E 8 X), (ys, cI E 8 Y), (sb_, .inr (0, [vR b, vI 0, vI ml, vI n])), (b, cB E N t), (h, .inr (6, [vR xs, vR ys, vI 0, vI 0, vI 0, vI 0, vI 0]))]) (st' := []) rfl rfl ?_
  refine g_sub (ws' := [(h, .inr (6, [vR xs, vR ys, vI 0, vI 0, vI 0, vI 0, vI 0])), (xs, cI E 8 X), (ys, cI E 8 Y), (sb_, .inr (0, [vR b, vI 0, vI ml, vI n])), (b, cB E N t)]) [4, 0, 1, 2, 3] rfl rfl rfl ?_
  refine g_iconst C dX5_findFlaw_14 rfl ?_
  refine g_istore_n C (lv' := [(0, vR h), (1, vR sb_), (2, vI 0)]) [1, 2, 0] (by decide) rfl rfl dX5_findFlaw_15 rfl ?_
  have hL_16 : ∀ (fuel : Nat) (i : Int) (m6 : Int) (w6 : Int) (g6 : Int) (d6 : Int) (v6 : Int) (X9 : Int → Int) (Y9 : Int → Int) (h0 : 0 ≤ i) (h1 : i ≤ n) (hRB : RB m6 w6 d6 v6 g6 X9 Y9) (hd9 : d6 ≤ i) (hF : fw t (Int.toNat (n - i)) i m6 w6 g6 d6 v6 X9 Y9 = (fw t (Int.toNat n) 0 0 0 0 0 0 X Y)) (hfu : (n - i).toNat = fuel), G p9 l e9 rm_K_findFlaw s9 m9 args9 below9 meth9 c9 (RQ E (fun v9 w9 => ∃ (w8 : Int) (g8 : Int) (d8 : Int) (v8 : Int), v9 = some (vI ((fw t (Int.toNat n) 0 0 0 0 0 0 X Y).1)) ∧ w9 = [(h, .inr (6, [vR xs, vR ys, vI ((fw t (Int.toNat n) 0 0 0 0 0 0 X Y).2.1), vI w8, vI g8, vI d8, vI v8])), (xs, cI E 8 ((fw t (Int.toNat n) 0 0 0 0 0 0 X Y).2.2.1)), (ys, cI E 8 ((fw t (Int.toNat n) 0 0 0 0 0 0 X Y).2.2.2)), (sb_, .inr (0, [vR b, vI 0, vI ml, vI n])), (b, cB E N t)]) A9 below9 args9 s9 0 0) E A9 3 0 0 [(h, .inr (6, [vR xs, vR ys, vI m6, vI w6, vI g6, vI d6, vI v6])), (xs, cI E 8 X9), (ys, cI E 8 Y9), (sb_, .inr (0, [vR b, vI 0, vI ml, vI n])), (b, cB E N t)] [(0, vR h), (1, vR sb_), (2, vI i)] 16 [] := by
    intro fuel
    induction fuel using Nat.strongRecOn with
    | ind fuel ih =>
      intro i m6 w6 g6 d6 v6 X9 Y9 h0 h1 hRB hd9 hF hfu
      refine g_iload_n C 2 rfl dX5_findFlaw_16 rfl ?_
      refine g_aload_n C 1 rfl dX5_findFlaw_17 rfl ?_
      refine g_callV C (b := sb_) (mc := 0) (ms := 0) (rm := rm_K_sb_len) (As := []) (wc := [(sb_, .inr (0, [vR b, vI 0, vI ml, vI n]))]) (wr := [(h, .inr (6, [vR xs, vR ys, vI m6, vI w6, vI g6, vI d6, vI v6])), (xs, cI E 8 X9), (ys, cI E 8 Y9), (b, cB E N t)]) (st := [vI i]) gX5_findFlaw_J4_length_8abf5 (q9 := 0) (ci := 0) rfl rfl rfl (K_sb_len l E sb_ b ml n ) hyd_J4_length_8abf5 rfl [3] [0, 1, 2, 4] rfl rfl rfl rfl rfl (by decide) ⟨rfl, rfl⟩ ⟨Nat.le_of_ble_eq_true rfl, Nat.le_of_ble_eq_true rfl, Nat.le_of_ble_eq_true rfl, Nat.le_of_ble_eq_true rfl⟩ (Nat.le_of_ble_eq_true rfl) dX5_findFlaw_18 (rfl : _ = 0) (rfl : _ = 0) rfl ?_
      rintro _ _ ⟨rfl, rfl⟩
      refine g_is (ws' := [(h, .inr (6, [vR xs, vR ys, vI m6, vI w6, vI g6, vI d6, vI v6])), (xs, cI E 8 X9), (ys, cI E 8 Y9), (b, cB E N t), (sb_, .inr (0, [vR b, vI 0, vI ml, vI n]))]) (st' := [vI n, vI i]) rfl rfl ?_
      refine g_sub (ws' := [(h, .inr (6, [vR xs, vR ys, vI m6, vI w6, vI g6, vI d6, vI v6])), (xs, cI E 8 X9), (ys, cI E 8 Y9), (sb_, .inr (0, [vR b, vI 0, vI ml, vI n])), (b, cB E N t)]) [0, 1, 2, 4, 3] rfl rfl rfl ?_
      refine g_icmp_ge C (tgt := 44) ⟨by omega, by omega⟩ ⟨by omega, by omega⟩ dX5_findFlaw_21 (by decide) rfl (fun c_1 => ?_) (fun c_1 => ?_)
      · obtain ⟨hm9, hw9, hg9, hdd, hv9, -, -⟩ := id hRB
        have ei : n = i := by omega
        refine g_aload_n C 0 rfl dX5_findFlaw_44 rfl ?_
        refine g_get C 0 fd_X5_findFlaw_22 rfl rfl rfl dX5_findFlaw_45 rfl ?_
        refine g_if_eq C (tgt := 58) ⟨by omega, by omega⟩ dX5_findFlaw_48 (by decide) rfl (fun c_2 => ?_) (fun c_2 => ?_)
        · have hE : (fw t (Int.toNat n) 0 0 0 0 0 0 X Y) = (i, m6, X9, Y9) := hF.symm.trans (fw_0 (by omega) (by omega))
          refine g_aload_n C 1 rfl dX5_findFlaw_58 rfl ?_
          refine g_callV C (b := sb_) (mc := 0) (ms := 0) (rm := rm_K_sb_len) (As := []) (wc := [(sb_, .inr (0, [vR b, vI 0, vI ml, vI n]))]) (wr := [(h, .inr (6, [vR xs, vR ys, vI m6, vI w6, vI g6, vI d6, vI v6])), (xs, cI E 8 X9), (ys, cI E 8 Y9), (b, cB E N t)]) (st := []) gX5_findFlaw_J4_length_8abf5 (q9 := 0) (ci := 0) rfl rfl rfl (K_sb_len l E sb_ b ml n ) hyd_J4_length_8abf5 rfl [3] [0, 1, 2, 4] rfl rfl rfl rfl rfl (by decide) ⟨rfl, rfl⟩ ⟨Nat.le_of_ble_eq_true rfl, Nat.le_of_ble_eq_true rfl, Nat.le_of_ble_eq_true rfl, Nat.le_of_ble_eq_true rfl⟩ (Nat.le_of_ble_eq_true rfl) dX5_findFlaw_59 (rfl : _ = 0) (rfl : _ = 0) rfl ?_
          rintro _ _ ⟨rfl, rfl⟩
          refine g_is (ws' := [(h, .inr (6, [vR xs, vR ys, vI m6, vI w6, vI g6, vI d6, vI v6])), (xs, cI E 8 X9), (ys, cI E 8 Y9), (b, cB E N t), (sb_, .inr (0, [vR b, vI 0, vI ml, vI n]))]) (st' := [vI n]) rfl rfl ?_
          refine g_sub (ws' := [(h, .inr (6, [vR xs, vR ys, vI m6, vI w6, vI g6, vI d6, vI v6])), (xs, cI E 8 X9), (ys, cI E 8 Y9), (sb_, .inr (0, [vR b, vI 0, vI ml, vI n])), (b, cB E N t)]) [0, 1, 2, 4, 3] rfl rfl rfl ?_
          refine g_top (v' := vI ((fw t (Int.toNat n) 0 0 0 0 0 0 X Y).1)) (congrArg (fun z_ : Int => vI z_) (show ((fw t (Int.toNat n) 0 0 0 0 0 0 X Y).1) = n by rw [hE]; omega)) ?_
          have z_3 : ((fw t (Int.toNat n) 0 0 0 0 0 0 X Y).2.1) = m6 := by rw [hE]
          have z_4 : cI E 8 ((fw t (Int.toNat n) 0 0 0 0 0 0 X Y).2.2.1) = cI E 8 X9 := cI_c (fun k_ k0_ k1_ => by rw [hE])
          have z_5 : cI E 8 ((fw t (Int.toNat n) 0 0 0 0 0 0 X Y).2.2.2) = cI E 8 Y9 := cI_c (fun k_ k0_ k1_ => by rw [hE])
          have zz_6 := congr (congr (congrArg (fun (y9_0 : Int) (y9_1 : va_E) (y9_2 : va_E) => ([(h, .inr (6, [vR xs, vR ys, vI y9_0, vI w6, vI g6, vI d6, vI v6])), (xs, y9_1), (ys, y9_2), (sb_, .inr (0, [vR b, vI 0, vI ml, vI n])), (b, cB E N t)] : va_W)) z_3) z_4) z_5
          refine g_ws (ws' := [(h, .inr (6, [vR xs, vR ys, vI ((fw t (Int.toNat n) 0 0 0 0 0 0 X Y).2.1), vI w6, vI g6, vI d6, vI v6])), (xs, cI E 8 ((fw t (Int.toNat n) 0 0 0 0 0 0 X Y).2.2.1)), (ys, cI E 8 ((fw t (Int.toNat n) 0 0 0 0 0 0 X Y).2.2.2)), (sb_, .inr (0, [vR b, vI 0, vI ml, vI n])), (b, cB E N t)]) zz_6 ?_
          exact g_iret C hr rfl (Nat.le_of_ble_eq_true rfl) (Nat.le_of_ble_eq_true rfl) dX5_findFlaw_62 ⟨w6, g6, d6, v6, rfl, rfl⟩
        refine g_aload_n C 0 rfl dX5_findFlaw_51 rfl ?_
        refine g_get C 0 fd_X5_findFlaw_43 rfl rfl rfl dX5_findFlaw_52 rfl ?_
        refine g_if_ne C (tgt := 63) ⟨by omega, by omega⟩ dX5_findFlaw_55 (by decide) rfl (fun c_7 => ?_) (fun c_7 => ?_)
        · have hE : (fw t (Int.toNat n) 0 0 0 0 0 0 X Y) = (-6, m6 + 1, X9, ua Y9 m6 (num g6 v6)) := hF.symm.trans (fw_e (by omega) (by omega))
          refine g_aload_n C 0 rfl dX5_findFlaw_63 rfl ?_
          refine g_callV C (b := h) (mc := 0) (ms := 0) (rm := rm_K_r_end) (As := []) (wc := [(h, .inr (6, [vR xs, vR ys, vI m6, vI w6, vI g6, vI d6, vI v6])), (ys, cI E 8 Y9)]) (wr := [(xs, cI E 8 X9), (sb_, .inr (0, [vR b, vI 0, vI ml, vI n])), (b, cB E N t)]) (st := []) gX5_findFlaw_X5_endCorner (q9 := 0) (ci := 6) rfl rfl rfl (K_r_end l E h xs ys m6 w6 g6 d6 v6 Y9 hg9 hm9) hyd_X5_endCorner rfl [0, 2] [1, 3, 4] rfl rfl rfl rfl rfl (by decide) ⟨rfl, rfl⟩ ⟨Nat.le_of_ble_eq_true rfl, Nat.le_of_ble_eq_true rfl, Nat.le_of_ble_eq_true rfl, Nat.le_of_ble_eq_true rfl⟩ (Nat.le_of_ble_eq_true rfl) dX5_findFlaw_64 (rfl : _ = 0) (rfl : _ = 0) rfl ?_
          rintro _ _ ⟨rfl, rfl⟩
          refine g_is (ws' := [(xs, cI E 8 X9), (sb_, .inr (0, [vR b, vI 0, vI ml, vI n])), (b, cB E N t), (h, .inr (6, [vR xs, vR ys, vI (m6 + 1), vI 0, vI 0, vI 0, vI 0])), (ys, cI E 8 (ua Y9 m6 (num g6 v6)))]) (st' := []) rfl rfl ?_
          refine g_sub (ws' := [(h, .inr (6, [vR xs, vR ys, vI (m6 + 1), vI 0, vI 0, vI 0, vI 0])), (xs, cI E 8 X9), (ys, cI E 8 (ua Y9 m6 (num g6 v6))), (sb_, .inr (0, [vR b, vI 0, vI ml, vI n])), (b, cB E N t)]) [3, 0, 4, 1, 2] rfl rfl rfl ?_
          refine g_bipush C (by decide) dX5_findFlaw_67 rfl ?_
          refine g_top (v' := vI ((fw t (Int.toNat n) 0 0 0 0 0 0 X Y).1)) (congrArg (fun z_ : Int => vI z_) (show ((fw t (Int.toNat n) 0 0 0 0 0 0 X Y).1) = (-6) by rw [hE])) ?_
          have z_8 : ((fw t (Int.toNat n) 0 0 0 0 0 0 X Y).2.1) = (m6 + 1) := by rw [hE]
          have z_9 : cI E 8 ((fw t (Int.toNat n) 0 0 0 0 0 0 X Y).2.2.1) = cI E 8 X9 := cI_c (fun k_ k0_ k1_ => by rw [hE])
          have z_10 : cI E 8 ((fw t (Int.toNat n) 0 0 0 0 0 0 X Y).2.2.2) = cI E 8 (ua Y9 m6 (num g6 v6)) := cI_c (fun k_ k0_ k1_ => by rw [hE])
          have zz_11 := congr (congr (congrArg (fun (y9_0 : Int) (y9_1 : va_E) (y9_2 : va_E) => ([(h, .inr (6, [vR xs, vR ys, vI y9_0, vI 0, vI 0, vI 0, vI 0])), (xs, y9_1), (ys, y9_2), (sb_, .inr (0, [vR b, vI 0, vI ml, vI n])), (b, cB E N t)] : va_W)) z_8) z_9) z_10
          refine g_ws (ws' := [(h, .inr (6, [vR xs, vR ys, vI ((fw t (Int.toNat n) 0 0 0 0 0 0 X Y).2.1), vI 0, vI 0, vI 0, vI 0])), (xs, cI E 8 ((fw t (Int.toNat n) 0 0 0 0 0 0 X Y).2.2.1)), (ys, cI E 8 ((fw t (Int.toNat n) 0 0 0 0 0 0 X Y).2.2.2)), (sb_, .inr (0, [vR b, vI 0, vI ml, vI n])), (b, cB E N t)]) zz_11 ?_
          exact g_iret C hr rfl (Nat.le_of_ble_eq_true rfl) (Nat.le_of_ble_eq_true rfl) dX5_findFlaw_69 ⟨0, 0, 0, 0, rfl, rfl⟩
        have hE : (fw t (Int.toNat n) 0 0 0 0 0 0 X Y) = (i, m6, X9, Y9) := hF.symm.trans (fw_0 (by omega) (by omega))
        refine g_aload_n C 1 rfl dX5_findFlaw_58 rfl ?_
        refine g_callV C (b := sb_) (mc := 0) (ms := 0) (rm := rm_K_sb_len) (As := []) (wc := [(sb_, .inr (0, [vR b, vI 0, vI ml, vI n]))]) (wr := [(h, .inr (6, [vR xs, vR ys, vI m6, vI w6, vI g6, vI d6, vI v6])), (xs, cI E 8 X9), (ys, cI E 8 Y9), (b, cB E N t)]) (st := []) gX5_findFlaw_J4_length_8abf5 (q9 := 0) (ci := 0) rfl rfl rfl (K_sb_len l E sb_ b ml n ) hyd_J4_length_8abf5 rfl [3] [0, 1, 2, 4] rfl rfl rfl rfl rfl (by decide) ⟨rfl, rfl⟩ ⟨Nat.le_of_ble_eq_true rfl, Nat.le_of_ble_eq_true rfl, Nat.le_of_ble_eq_true rfl, Nat.le_of_ble_eq_true rfl⟩ (Nat.le_of_ble_eq_true rfl) dX5_findFlaw_59 (rfl : _ = 0) (rfl : _ = 0) rfl ?_
        rintro _ _ ⟨rfl, rfl⟩
        refine g_is (ws' := [(h, .inr (6, [vR xs, vR ys, vI m6, vI w6, vI g6, vI d6, vI v6])), (xs, cI E 8 X9), (ys, cI E 8 Y9), (b, cB E N t), (sb_, .inr (0, [vR b, vI 0, vI ml, vI n]))]) (st' := [vI n]) rfl rfl ?_
        refine g_sub (ws' := [(h, .inr (6, [vR xs, vR ys, vI m6, vI w6, vI g6, vI d6, vI v6])), (xs, cI E 8 X9), (ys, cI E 8 Y9), (sb_, .inr (0, [vR b, vI 0, vI ml, vI n])), (b, cB E N t)]) [0, 1, 2, 4, 3] rfl rfl rfl ?_
        refine g_top (v' := vI ((fw t (Int.toNat n) 0 0 0 0 0 0 X Y).1)) (congrArg (fun z_ : Int => vI z_) (show ((fw t (Int.toNat n) 0 0 0 0 0 0 X Y).1) = n by rw [hE]; omega)) ?_
        have z_12 : ((fw t (Int.toNat n) 0 0 0 0 0 0 X Y).2.1) = m6 := by rw [hE]
        have z_13 : cI E 8 ((fw t (Int.toNat n) 0 0 0 0 0 0 X Y).2.2.1) = cI E 8 X9 := cI_c (fun k_ k0_ k1_ => by rw [hE])
        have z_14 : cI E 8 ((fw t (Int.toNat n) 0 0 0 0 0 0 X Y).2.2.2) = cI E 8 Y9 := cI_c (fun k_ k0_ k1_ => by rw [hE])
        have zz_15 := congr (congr (congrArg (fun (y9_0 : Int) (y9_1 : va_E) (y9_2 : va_E) => ([(h, .inr (6, [vR xs, vR ys, vI y9_0, vI w6, vI g6, vI d6, vI v6])), (xs, y9_1), (ys, y9_2), (sb_, .inr (0, [vR b, vI 0, vI ml, vI n])), (b, cB E N t)] : va_W)) z_12) z_13) z_14
        refine g_ws (ws' := [(h, .inr (6, [vR xs, vR ys, vI ((fw t (Int.toNat n) 0 0 0 0 0 0 X Y).2.1), vI w6, vI g6, vI d6, vI v6])), (xs, cI E 8 ((fw t (Int.toNat n) 0 0 0 0 0 0 X Y).2.2.1)), (ys, cI E 8 ((fw t (Int.toNat n) 0 0 0 0 0 0 X Y).2.2.2)), (sb_, .inr (0, [vR b, vI 0, vI ml, vI n])), (b, cB E N t)]) zz_15 ?_
        exact g_iret C hr rfl (Nat.le_of_ble_eq_true rfl) (Nat.le_of_ble_eq_true rfl) dX5_findFlaw_62 ⟨w6, g6, d6, v6, rfl, rfl⟩
      obtain ⟨hm9, hw9, hg9, hdd, hv9, -, -⟩ := id hRB
      have hct := hb i (by omega) (by omega)
      by_cases hk : okR (t i) m6 w6 g6 d6 v6
      · refine g_aload_n C 0 rfl dX5_findFlaw_24 rfl ?_
        refine g_aload_n C 1 rfl dX5_findFlaw_25 rfl ?_
        refine g_iload_n C 2 rfl dX5_findFlaw_26 rfl ?_
        refine g_callV C (b := sb_) (mc := 0) (ms := 0) (rm := rm_K_charAt) (As := [vI i]) (wc := [(sb_, .inr (0, [vR b, vI 0, vI ml, vI n])), (b, cB E N t)]) (wr := [(h, .inr (6, [vR xs, vR ys, vI m6, vI w6, vI g6, vI d6, vI v6])), (xs, cI E 8 X9), (ys, cI E 8 Y9)]) (st := [vR h]) gX5_findFlaw_J4_charAt_5068e (q9 := 0) (ci := 0) rfl rfl rfl (K_charAt l E sb_ b ml n t N i ⟨by omega, by omega⟩ hnN hN hb) hyd_J4_charAt_5068e rfl [3, 4] [0, 1, 2] rfl rfl rfl rfl rfl (by decide) ⟨rfl, rfl⟩ ⟨Nat.le_of_ble_eq_true rfl, Nat.le_of_ble_eq_true rfl, Nat.le_of_ble_eq_true rfl, Nat.le_of_ble_eq_true rfl⟩ (Nat.le_of_ble_eq_true rfl) dX5_findFlaw_27 (rfl : _ = 0) (rfl : _ = 0) rfl ?_
        rintro _ _ ⟨rfl, rfl⟩
        refine g_is (ws' := [(h, .inr (6, [vR xs, vR ys, vI m6, vI w6, vI g6, vI d6, vI v6])), (xs, cI E 8 X9), (ys, cI E 8 Y9), (sb_, .inr (0, [vR b, vI 0, vI ml, vI n])), (b, cB E N t)]) (st' := [vI (t i), vR h]) rfl rfl ?_
        refine g_callV C (b := h) (mc := 0) (ms := 0) (rm := rm_K_r_takes1) (As := [vI (t i)]) (wc := [(h, .inr (6, [vR xs, vR ys, vI m6, vI w6, vI g6, vI d6, vI v6])), (xs, cI E 8 X9), (ys, cI E 8 Y9)]) (wr := [(sb_, .inr (0, [vR b, vI 0, vI ml, vI n])), (b, cB E N t)]) (st := []) gX5_findFlaw_X5_takes (q9 := 0) (ci := 6) rfl rfl rfl (K_r_takes1 l E h xs ys m6 w6 g6 d6 v6 X9 Y9 (t i) hk ⟨by omega, by omega⟩ hg9 ⟨by omega, by omega⟩ ⟨by omega, by omega⟩ hw9 hv9) hyd_X5_takes rfl [0, 1, 2] [3, 4] rfl rfl rfl rfl rfl (by decide) ⟨rfl, rfl⟩ ⟨Nat.le_of_ble_eq_true rfl, Nat.le_of_ble_eq_true rfl, Nat.le_of_ble_eq_true rfl, Nat.le_of_ble_eq_true rfl⟩ (Nat.le_of_ble_eq_true rfl) dX5_findFlaw_30 (rfl : _ = 0) (rfl : _ = 0) rfl ?_
        rintro _ _ ⟨rfl, rfl⟩
        refine g_is (ws' := [(sb_, .inr (0, [vR b, vI 0, vI ml, vI n])), (b, cB E N t), (h, .inr (6, [vR xs, vR ys, vI (r_m (t i) m6), vI (r_w (t i) w6), vI (r_g (t i) g6), vI (r_d (t i) d6), vI (r_v (t i) v6)])), (xs, cI E 8 (r_X (t i) m6 g6 v6 X9)), (ys, cI E 8 (r_Y (t i) m6 g6 v6 Y9))]) (st' := [vI 1]) rfl rfl ?_
        refine g_sub (ws' := [(h, .inr (6, [vR xs, vR ys, vI (r_m (t i) m6), vI (r_w (t i) w6), vI (r_g (t i) g6), vI (r_d (t i) d6), vI (r_v (t i) v6)])), (xs, cI E 8 (r_X (t i) m6 g6 v6 X9)), (ys, cI E 8 (r_Y (t i) m6 g6 v6 Y9)), (sb_, .inr (0, [vR b, vI 0, vI ml, vI n])), (b, cB E N t)]) [2, 3, 4, 0, 1] rfl rfl rfl ?_
        refine g_if_ne C (tgt := 38) ⟨by decide, by decide⟩ dX5_findFlaw_33 (by decide) rfl (fun c_16 => ?_) (fun c_16 => ?_)
        · refine g_iinc C (r := (i + 1)) (lv' := [(0, vR h), (1, vR sb_), (2, vI (i + 1))]) 2 [1, 2, 0] rfl rfl (by decide) rfl rfl dX5_findFlaw_38 rfl ?_
          refine g_goto C (pc' := 16) dX5_findFlaw_41 (by decide) ?_
          exact ih _ (by omega) (i + 1) (r_m (t i) m6) (r_w (t i) w6) (r_g (t i) g6) (r_d (t i) d6) (r_v (t i) v6) (r_X (t i) m6 g6 v6 X9) (r_Y (t i) m6 g6 v6 Y9) (by omega) (by omega) (RB_s hRB hk) (r_d_le h0 hd9) ((fw_s (by omega) hk).symm.trans hF) rfl
        exact absurd c_16 (by decide)
      · refine g_aload_n C 0 rfl dX5_findFlaw_24 rfl ?_
        refine g_aload_n C 1 rfl dX5_findFlaw_25 rfl ?_
        refine g_iload_n C 2 rfl dX5_findFlaw_26 rfl ?_
        refine g_callV C (b := sb_) (mc := 0) (ms := 0) (rm := rm_K_charAt) (As := [vI i]) (wc := [(sb_, .inr (0, [vR b, vI 0, vI ml, vI n])), (b, cB E N t)]) (wr := [(h, .inr (6, [vR xs, vR ys, vI m6, vI w6, vI g6, vI d6, vI v6])), (xs, cI E 8 X9), (ys, cI E 8 Y9)]) (st := [vR h]) gX5_findFlaw_J4_charAt_5068e (q9 := 0) (ci := 0) rfl rfl rfl (K_charAt l E sb_ b ml n t N i ⟨by omega, by omega⟩ hnN hN hb) hyd_J4_charAt_5068e rfl [3, 4] [0, 1, 2] rfl rfl rfl rfl rfl (by decide) ⟨rfl, rfl⟩ ⟨Nat.le_of_ble_eq_true rfl, Nat.le_of_ble_eq_true rfl, Nat.le_of_ble_eq_true rfl, Nat.le_of_ble_eq_true rfl⟩ (Nat.le_of_ble_eq_true rfl) dX5_findFlaw_27 (rfl : _ = 0) (rfl : _ = 0) rfl ?_
        rintro _ _ ⟨rfl, rfl⟩
        refine g_is (ws' := [(h, .inr (6, [vR xs, vR ys, vI m6, vI w6, vI g6, vI d6, vI v6])), (xs, cI E 8 X9), (ys, cI E 8 Y9), (sb_, .inr (0, [vR b, vI 0, vI ml, vI n])), (b, cB E N t)]) (st' := [vI (t i), vR h]) rfl rfl ?_
        refine g_callV C (b := h) (mc := 0) (ms := 0) (rm := rm_K_r_takes0) (As := [vI (t i)]) (wc := [(h, .inr (6, [vR xs, vR ys, vI m6, vI w6, vI g6, vI d6, vI v6])), (xs, cI E 8 X9), (ys, cI E 8 Y9)]) (wr := [(sb_, .inr (0, [vR b, vI 0, vI ml, vI n])), (b, cB E N t)]) (st := []) gX5_findFlaw_X5_takes (q9 := 0) (ci := 6) rfl rfl rfl (K_r_takes0 l E h xs ys m6 w6 g6 d6 v6 X9 Y9 (t i) hk ⟨by omega, by omega⟩ hg9 ⟨by omega, by omega⟩ ⟨by omega, by omega⟩ hw9 hv9) hyd_X5_takes rfl [0, 1, 2] [3, 4] rfl rfl rfl rfl rfl (by decide) ⟨rfl, rfl⟩ ⟨Nat.le_of_ble_eq_true rfl, Nat.le_of_ble_eq_true rfl, Nat.le_of_ble_eq_true rfl, Nat.le_of_ble_eq_true rfl⟩ (Nat.le_of_ble_eq_true rfl) dX5_findFlaw_30 (rfl : _ = 0) (rfl : _ = 0) rfl ?_
        rintro _ _ ⟨rfl, rfl⟩
        refine g_is (ws' := [(sb_, .inr (0, [vR b, vI 0, vI ml, vI n])), (b, cB E N t), (h, .inr (6, [vR xs, vR ys, vI m6, vI w6, vI g6, vI d6, vI v6])), (xs, cI E 8 X9), (ys, cI E 8 Y9)]) (st' := [vI 0]) rfl rfl ?_
        refine g_sub (ws' := [(h, .inr (6, [vR xs, vR ys, vI m6, vI w6, vI g6, vI d6, vI v6])), (xs, cI E 8 X9), (ys, cI E 8 Y9), (sb_, .inr (0, [vR b, vI 0, vI ml, vI n])), (b, cB E N t)]) [2, 3, 4, 0, 1] rfl rfl rfl ?_
        refine g_if_ne C (tgt := 38) ⟨by decide, by decide⟩ dX5_findFlaw_33 (by decide) rfl (fun c_17 => ?_) (fun c_17 => ?_)
        · exact absurd c_17 (by decide)
        have hE : (fw t (Int.toNat n) 0 0 0 0 0 0 X Y) = (i, m6, X9, Y9) := hF.symm.trans (fw_n (by omega) hk)
        refine g_iload_n C 2 rfl dX5_findFlaw_36 rfl ?_
        refine g_top (v' := vI ((fw t (Int.toNat n) 0 0 0 0 0 0 X Y).1)) (congrArg (fun z_ : Int => vI z_) (show ((fw t (Int.toNat n) 0 0 0 0 0 0 X Y).1) = i by rw [hE])) ?_
        have z_18 : ((fw t (Int.toNat n) 0 0 0 0 0 0 X Y).2.1) = m6 := by rw [hE]
        have z_19 : cI E 8 ((fw t (Int.toNat n) 0 0 0 0 0 0 X Y).2.2.1) = cI E 8 X9 := cI_c (fun k_ k0_ k1_ => by rw [hE])
        have z_20 : cI E 8 ((fw t (Int.toNat n) 0 0 0 0 0 0 X Y).2.2.2) = cI E 8 Y9 := cI_c (fun k_ k0_ k1_ => by rw [hE])
        have zz_21 := congr (congr (congrArg (fun (y9_0 : Int) (y9_1 : va_E) (y9_2 : va_E) => ([(h, .inr (6, [vR xs, vR ys, vI y9_0, vI w6, vI g6, vI d6, vI v6])), (xs, y9_1), (ys, y9_2), (sb_, .inr (0, [vR b, vI 0, vI ml, vI n])), (b, cB E N t)] : va_W)) z_18) z_19) z_20
        refine g_ws (ws' := [(h, .inr (6, [vR xs, vR ys, vI ((fw t (Int.toNat n) 0 0 0 0 0 0 X Y).2.1), vI w6, vI g6, vI d6, vI v6])), (xs, cI E 8 ((fw t (Int.toNat n) 0 0 0 0 0 0 X Y).2.2.1)), (ys, cI E 8 ((fw t (Int.toNat n) 0 0 0 0 0 0 X Y).2.2.2)), (sb_, .inr (0, [vR b, vI 0, vI ml, vI n])), (b, cB E N t)]) zz_21 ?_
        exact g_iret C hr rfl (Nat.le_of_ble_eq_true rfl) (Nat.le_of_ble_eq_true rfl) dX5_findFlaw_37 ⟨w6, g6, d6, v6, rfl, rfl⟩
  exact hL_16 _ 0 0 0 0 0 0 X Y (by omega) (by omega) (RB_0 X Y) (by omega) (by rw [show n - 0 = n by omega]) rfl

theorem in_X4_writeTo_X4 : ∀ w ∈ u_ws RX4 TX4 4, w ∈ wsX4_writeTo := by decide +kernel
theorem fd_X4_writeTo_28 : fdk wsX4_writeTo RX4 28 "ZoneRelay$Polygon" RX4 TX4 4 2 := ⟨in_X4_writeTo_X4, by decide +kernel, by decide, rfl⟩
theorem fd_X4_writeTo_9 : fdk wsX4_writeTo RX4 9 "ZoneRelay$Polygon" RX4 TX4 4 0 := ⟨in_X4_writeTo_X4, by decide +kernel, by decide, rfl⟩
theorem hyd_J4_append_bf812 : yJ4_append_bf812.cls ≠ "java/lang/invoke/MethodHandle" ∧ yJ4_append_bf812.cls ≠ "java/lang/invoke/VarHandle" ∧ (parseMethodDescriptor yJ4_append_bf812.desc).map (fun d => d.parameters.length) = some 1 := by decide +kernel
theorem fd_X4_writeTo_15 : fdk wsX4_writeTo RX4 15 "ZoneRelay$Polygon" RX4 TX4 4 1 := ⟨in_X4_writeTo_X4, by decide +kernel, by decide, rfl⟩
abbrev rm_K_writeTo : Room := { frames := 6, cells := 32, slots := 4544, locals := 148 }
set_option maxHeartbeats 8000000 in
set_option maxRecDepth 100000 in
theorem K_writeTo (l : Launch) (E : Ev) (h xs ys sb_ b : Nat) (n df ml c : Int) (X Y t : Int → Int) (N : Nat) (hn : 0 ≤ n ∧ n ≤ 8) (hX : cbA X) (hY : cbA Y) (hC : CP N) (hb : BX N t) (hc : 0 ≤ c ∧ c ≤ 1000) : Mc l yX4_writeTo wsX4_writeTo rm_K_writeTo E [vR h, vR sb_] [(h, .inr (5, [vR xs, vR ys, vI n, vI df])), (xs, cI E 8 X), (ys, cI E 8 Y), (sb_, .inr (0, [vR b, vI 0, vI ml, vI c])), (b, cB E N t)] 32 4544 (fun v9 w9 => ∃ (q9 : Nat) (M9 : Nat) (m9 : Int) (k9 : Int) (u9 : Int → Int), v9 = none ∧ w9 = [(h, .inr (5, [vR xs, vR ys, vI n, vI df])), (xs, cI E 8 X), (ys, cI E 8 Y), (sb_, .inr (0, [vR q9, vI 0, vI m9, vI k9])), (q9, cB E M9 u9)] ∧ CP M9 ∧ BX M9 u9 ∧ TX u9 (spX X Y (Int.toNat n)) ∧ k9 = ((spX X Y (Int.toNat n)).length : Int) ∧ k9 ≤ (M9 : Int) ∧ 0 ≤ k9 ∧ k9 ≤ 112) := by
  refine Mc.intro (cc := cX4_writeTo) (maxL := 3) (ret := none) (lv0 := [(0, vR h), (1, vR sb_)]) (by decide +kernel) rfl rfl (Nat.le_of_ble_eq_true rfl) ?_
  intro p9 e9 s9 m9 args9 below9 meth9 c9 A9 C hr hmn
  have C : Cx p9 s9 m9 args9 meth9 c9 E A9 3 cX4_writeTo wsX4_writeTo RX4 := C
  refine g_aload_n C 1 rfl dX4_writeTo_0 rfl ?_
  refine g_iconst C dX4_writeTo_1 rfl ?_
  refine g_callV C (b := sb_) (mc := 0) (ms := 0) (rm := rm_K_setLen) (As := [vI 0]) (wc := [(sb_, .inr (0, [vR b, vI 0, vI ml, vI c])), (b, cB E N t)]) (wr := [(h, .inr (5, [vR xs, vR ys, vI n, vI df])), (xs, cI E 8 X), (ys, cI E 8 Y)]) (st := []) gX4_writeTo_J4_setLength_d00df (q9 := 0) (ci := 0) rfl rfl rfl (K_setLen l E sb_ b ml c t N hc (CP_b hC)) hyd_J4_setLength_d00df rfl [3, 4] [0, 1, 2] rfl rfl rfl rfl rfl (by decide) ⟨rfl, rfl⟩ ⟨Nat.le_of_ble_eq_true rfl, Nat.le_of_ble_eq_true rfl, Nat.le_of_ble_eq_true rfl, Nat.le_of_ble_eq_true rfl⟩ (Nat.le_of_ble_eq_true rfl) dX4_writeTo_2 (rfl : _ = 0) (rfl : _ = 0) rfl ?_
  rintro _ _ ⟨m9_1, rfl, rfl⟩
  refine g_is (ws' := [(h, .inr (5, [vR xs, vR ys, vI n, vI df])), (xs, cI E 8 X), (ys, cI E 8 Y), (sb_, .inr (0, [vR b, vI 0, vI m9_1, vI 0])), (b, cB E N t)]) (st' := []) rfl rfl ?_
  refine g_iconst C dX4_writeTo_5 rfl ?_
  refine g_istore_n C (lv' := [(0, vR h), (1, vR sb_), (2, vI 0)]) [1, 2, 0] (by decide) rfl rfl dX4_writeTo_6 rfl ?_
  have hC0 := CP_b hC
  have wb0 := spX_b X Y 0
  have dx0 := dlen_r (X 0)
  have dy0 := dlen_r (Y 0)
  have dx1 := dlen_r (X 1)
  have dy1 := dlen_r (Y 1)
  have dx2 := dlen_r (X 2)
  have dy2 := dlen_r (Y 2)
  have dx3 := dlen_r (X 3)
  have dy3 := dlen_r (Y 3)
  have dx4 := dlen_r (X 4)
  have dy4 := dlen_r (Y 4)
  have dx5 := dlen_r (X 5)
  have dy5 := dlen_r (Y 5)
  have dx6 := dlen_r (X 6)
  have dy6 := dlen_r (Y 6)
  have dx7 := dlen_r (X 7)
  have dy7 := dlen_r (Y 7)
  have hL_7_0 : ∀ (zb0 : Nat) (zN0 : Nat) (zm0 : Int) (zc0 : Int) (zu0 : Int → Int) (zC0 : CP zN0) (zB0 : BX zN0 zu0) (zT0 : TX zu0 (spX X Y 0)) (zl0 : zc0 = ((spX X Y 0).length : Int)) (zn0 : zc0 ≤ (zN0 : Int)), G p9 l e9 rm_K_writeTo s9 m9 args9 below9 meth9 c9 (RQ E (fun v9 w9 => ∃ (q9 : Nat) (M9 : Nat) (m9 : Int) (k9 : Int) (u9 : Int → Int), v9 = none ∧ w9 = [(h, .inr (5, [vR xs, vR ys, vI n, vI df])), (xs, cI E 8 X), (ys, cI E 8 Y), (sb_, .inr (0, [vR q9, vI 0, vI m9, vI k9])), (q9, cB E M9 u9)] ∧ CP M9 ∧ BX M9 u9 ∧ TX u9 (spX X Y (Int.toNat n)) ∧ k9 = ((spX X Y (Int.toNat n)).length : Int) ∧ k9 ≤ (M9 : Int) ∧ 0 ≤ k9 ∧ k9 ≤ 112) A9 below9 args9 s9 32 4544) E A9 3 0 0 [(h, .inr (5, [vR xs, vR ys, vI n, vI df])), (xs, cI E 8 X), (ys, cI E 8 Y), (sb_, .inr (0, [vR zb0, vI 0, vI zm0, vI zc0])), (zb0, cB E zN0 zu0)] [(0, vR h), (1, vR sb_), (2, vI 0)] 7 [] := by
    intro zb0 zN0 zm0 zc0 zu0 zC0 zB0 zT0 zl0 zn0
    refine g_iload_n C 2 rfl dX4_writeTo_7 rfl ?_
    refine g_aload_n C 0 rfl dX4_writeTo_8 rfl ?_
    refine g_get C 0 fd_X4_writeTo_28 rfl rfl rfl dX4_writeTo_9 rfl ?_
    refine g_icmp_ge C (tgt := 61) ⟨by decide, by decide⟩ ⟨by omega, by omega⟩ dX4_writeTo_12 (by decide) rfl (fun c_2 => ?_) (fun c_2 => ?_)
    · have en : Int.toNat n = 0 := by omega
      exact g_vret C hr (Nat.le_of_ble_eq_true rfl) (Nat.le_of_ble_eq_true rfl) dX4_writeTo_61 ⟨zb0, zN0, zm0, zc0, zu0, rfl, rfl, (by exact zC0), (by exact zB0), (by rw [en]; exact zT0), (by rw [en]; exact zl0), (by omega), (by omega)⟩
    refine g_iload_n C 2 rfl dX4_writeTo_15 rfl ?_
    refine g_if_le C (tgt := 26) ⟨by decide, by decide⟩ dX4_writeTo_16 (by decide) rfl (fun c_3 => ?_) (fun c_3 => ?_)
    · refine g_aload_n C 1 rfl dX4_writeTo_26 rfl ?_
      refine g_aload_n C 0 rfl dX4_writeTo_27 rfl ?_
      refine g_get C 0 fd_X4_writeTo_9 rfl rfl rfl dX4_writeTo_28 rfl ?_
      refine g_iload_n C 2 rfl dX4_writeTo_31 rfl ?_
      refine g_iald C 1 rfl (by decide) (by decide) (by decide) rfl dX4_writeTo_32 rfl ?_
      refine g_callV C (b := sb_) (mc := 1) (ms := 142) (rm := rm_K_appI) (As := [vI (X 0)]) (wc := [(sb_, .inr (0, [vR zb0, vI 0, vI zm0, vI zc0])), (zb0, cB E zN0 zu0)]) (wr := [(h, .inr (5, [vR xs, vR ys, vI n, vI df])), (xs, cI E 8 X), (ys, cI E 8 Y)]) (st := []) gX4_writeTo_J4_append_bf812 (q9 := 0) (ci := 0) rfl rfl rfl (K_appI l E sb_ zb0 zm0 zc0 zu0 zN0 (X 0) ((spX X Y 0)) zC0 zB0 zT0 zl0 zn0 (by omega) (hX 0 (by decide) (by decide))) hyd_J4_append_bf812 rfl [3, 4] [0, 1, 2] rfl rfl rfl rfl rfl (by decide) ⟨rfl, rfl⟩ ⟨Nat.le_of_ble_eq_true rfl, Nat.le_of_ble_eq_true rfl, Nat.le_of_ble_eq_true rfl, Nat.le_of_ble_eq_true rfl⟩ (Nat.le_of_ble_eq_true rfl) dX4_writeTo_33 (rfl : _ = 1) (rfl : _ = 142) rfl ?_
      rintro _ _ ⟨q9_4, M9_5, u9_6, rfl, rfl, f_7, f_8, f_9, f_10⟩
      refine g_is (ws' := [(h, .inr (5, [vR xs, vR ys, vI n, vI df])), (xs, cI E 8 X), (ys, cI E 8 Y), (sb_, .inr (0, [vR q9_4, vI 0, vI zm0, vI (zc0 + (dlen (X 0)))])), (q9_4, cB E M9_5 u9_6)]) (st' := [vR sb_]) rfl rfl ?_
      have wt_11 : TX u9_6 ((spX X Y 0) ++ dgs (X 0)) := f_9
      have wl_12 : (zc0 + (dlen (X 0))) = (((spX X Y 0) ++ dgs (X 0)).length : Int) := len_d zl0
      refine g_pop C rfl dX4_writeTo_36 rfl ?_
      refine g_aload_n C 1 rfl dX4_writeTo_37 rfl ?_
      refine g_bipush C (by decide) dX4_writeTo_38 rfl ?_
      refine g_callV C (b := sb_) (mc := 1) (ms := 142) (rm := rm_K_app) (As := [vI 44]) (wc := [(sb_, .inr (0, [vR q9_4, vI 0, vI zm0, vI (zc0 + (dlen (X 0)))])), (q9_4, cB E M9_5 u9_6)]) (wr := [(h, .inr (5, [vR xs, vR ys, vI n, vI df])), (xs, cI E 8 X), (ys, cI E 8 Y)]) (st := []) gX4_writeTo_J4_append_cf468 (q9 := 0) (ci := 0) rfl rfl rfl (K_app l E sb_ q9_4 zm0 (zc0 + (dlen (X 0))) u9_6 M9_5 44 (((spX X Y 0) ++ dgs (X 0))) f_7 f_8 wt_11 wl_12 f_10 (by omega) ⟨by decide, by decide⟩) hyd_J4_append_cf468 rfl [3, 4] [0, 1, 2] rfl rfl rfl rfl rfl (by decide) ⟨rfl, rfl⟩ ⟨Nat.le_of_ble_eq_true rfl, Nat.le_of_ble_eq_true rfl, Nat.le_of_ble_eq_true rfl, Nat.le_of_ble_eq_true rfl⟩ (Nat.le_of_ble_eq_true rfl) dX4_writeTo_40 (rfl : _ = 2) (rfl : _ = 284) rfl ?_
      rintro _ _ ⟨q9_13, M9_14, u9_15, rfl, rfl, f_16, f_17, f_18, f_19⟩
      refine g_is (ws' := [(h, .inr (5, [vR xs, vR ys, vI n, vI df])), (xs, cI E 8 X), (ys, cI E 8 Y), (sb_, .inr (0, [vR q9_13, vI 0, vI zm0, vI ((zc0 + (dlen (X 0))) + 1)])), (q9_13, cB E M9_14 u9_15)]) (st' := [vR sb_]) rfl rfl ?_
      have wt_20 : TX u9_15 (((spX X Y 0) ++ dgs (X 0)) ++ [44]) := f_18
      have wl_21 : ((zc0 + (dlen (X 0))) + 1) = ((((spX X Y 0) ++ dgs (X 0)) ++ [44]).length : Int) := len_1 wl_12
      refine g_pop C rfl dX4_writeTo_43 rfl ?_
      refine g_aload_n C 1 rfl dX4_writeTo_44 rfl ?_
      refine g_aload_n C 0 rfl dX4_writeTo_45 rfl ?_
      refine g_get C 0 fd_X4_writeTo_15 rfl rfl rfl dX4_writeTo_46 rfl ?_
      refine g_iload_n C 2 rfl dX4_writeTo_49 rfl ?_
      refine g_iald C 2 rfl (by decide) (by decide) (by decide) rfl dX4_writeTo_50 rfl ?_
      refine g_callV C (b := sb_) (mc := 1) (ms := 142) (rm := rm_K_appI) (As := [vI (Y 0)]) (wc := [(sb_, .inr (0, [vR q9_13, vI 0, vI zm0, vI ((zc0 + (dlen (X 0))) + 1)])), (q9_13, cB E M9_14 u9_15)]) (wr := [(h, .inr (5, [vR xs, vR ys, vI n, vI df])), (xs, cI E 8 X), (ys, cI E 8 Y)]) (st := []) gX4_writeTo_J4_append_bf812 (q9 := 0) (ci := 0) rfl rfl rfl (K_appI l E sb_ q9_13 zm0 ((zc0 + (dlen (X 0))) + 1) u9_15 M9_14 (Y 0) ((((spX X Y 0) ++ dgs (X 0)) ++ [44])) f_16 f_17 wt_20 wl_21 f_19 (by omega) (hY 0 (by decide) (by decide))) hyd_J4_append_bf812 rfl [3, 4] [0, 1, 2] rfl rfl rfl rfl rfl (by decide) ⟨rfl, rfl⟩ ⟨Nat.le_of_ble_eq_true rfl, Nat.le_of_ble_eq_true rfl, Nat.le_of_ble_eq_true rfl, Nat.le_of_ble_eq_true rfl⟩ (Nat.le_of_ble_eq_true rfl) dX4_writeTo_51 (rfl : _ = 3) (rfl : _ = 426) rfl ?_
      rintro _ _ ⟨q9_22, M9_23, u9_24, rfl, rfl, f_25, f_26, f_27, f_28⟩
      refine g_is (ws' := [(h, .inr (5, [vR xs, vR ys, vI n, vI df])), (xs, cI E 8 X), (ys, cI E 8 Y), (sb_, .inr (0, [vR q9_22, vI 0, vI zm0, vI (((zc0 + (dlen (X 0))) + 1) + (dlen (Y 0)))])), (q9_22, cB E M9_23 u9_24)]) (st' := [vR sb_]) rfl rfl ?_
      have wt_29 : TX u9_24 (spX X Y 1) := f_27
      have wl_30 : (((zc0 + (dlen (X 0))) + 1) + (dlen (Y 0))) = ((spX X Y 1).length : Int) := len_d wl_21
      have wb1 := spX_b X Y 1
      refine g_pop C rfl dX4_writeTo_54 rfl ?_
      refine g_iinc C (r := 1) (lv' := [(0, vR h), (1, vR sb_), (2, vI 1)]) 2 [1, 2, 0] rfl (by decide) (by decide) rfl rfl dX4_writeTo_55 rfl ?_
      refine g_goto C (pc' := 7) dX4_writeTo_58 (by decide) ?_
      have hL_7_1 : ∀ (zb1 : Nat) (zN1 : Nat) (zm1 : Int) (zc1 : Int) (zu1 : Int → Int) (zC1 : CP zN1) (zB1 : BX zN1 zu1) (zT1 : TX zu1 (spX X Y 1)) (zl1 : zc1 = ((spX X Y 1).length : Int)) (zn1 : zc1 ≤ (zN1 : Int)), G p9 l e9 rm_K_writeTo s9 m9 args9 below9 meth9 c9 (RQ E (fun v9 w9 => ∃ (q9 : Nat) (M9 : Nat) (m9 : Int) (k9 : Int) (u9 : Int → Int), v9 = none ∧ w9 = [(h, .inr (5, [vR xs, vR ys, vI n, vI df])), (xs, cI E 8 X), (ys, cI E 8 Y), (sb_, .inr (0, [vR q9, vI 0, vI m9, vI k9])), (q9, cB E M9 u9)] ∧ CP M9 ∧ BX M9 u9 ∧ TX u9 (spX X Y (Int.toNat n)) ∧ k9 = ((spX X Y (Int.toNat n)).length : Int) ∧ k9 ≤ (M9 : Int) ∧ 0 ≤ k9 ∧ k9 ≤ 112) A9 below9 args9 s9 32 4544) E A9 3 3 426 [(h, .inr (5, [vR xs, vR ys, vI n, vI df])), (xs, cI E 8 X), (ys, cI E 8 Y), (sb_, .inr (0, [vR zb1, vI 0, vI zm1, vI zc1])), (zb1, cB E zN1 zu1)] [(0, vR h), (1, vR sb_), (2, vI 1)] 7 [] := by
        intro zb1 zN1 zm1 zc1 zu1 zC1 zB1 zT1 zl1 zn1
        refine g_iload_n C 2 rfl dX4_writeTo_7 rfl ?_
        refine g_aload_n C 0 rfl dX4_writeTo_8 rfl ?_
        refine g_get C 0 fd_X4_writeTo_28 rfl rfl rfl dX4_writeTo_9 rfl ?_
        refine g_icmp_ge C (tgt := 61) ⟨by decide, by decide⟩ ⟨by omega, by omega⟩ dX4_writeTo_12 (by decide) rfl (fun c_31 => ?_) (fun c_31 => ?_)
        · have en : Int.toNat n = 1 := by omega
          exact g_vret C hr (Nat.le_of_ble_eq_true rfl) (Nat.le_of_ble_eq_true rfl) dX4_writeTo_61 ⟨zb1, zN1, zm1, zc1, zu1, rfl, rfl, (by exact zC1), (by exact zB1), (by rw [en]; exact zT1), (by rw [en]; exact zl1), (by omega), (by omega)⟩
        refine g_iload_n C 2 rfl dX4_writeTo_15 rfl ?_
        refine g_if_le C (tgt := 26) ⟨by decide, by decide⟩ dX4_writeTo_16 (by decide) rfl (fun c_32 => ?_) (fun c_32 => ?_)
        · exact absurd c_32 (by decide)
        refine g_aload_n C 1 rfl dX4_writeTo_19 rfl ?_
        refine g_bipush C (by decide) dX4_writeTo_20 rfl ?_
        refine g_callV C (b := sb_) (mc := 1) (ms := 142) (rm := rm_K_app) (As := [vI 47]) (wc := [(sb_, .inr (0, [vR zb1, vI 0, vI zm1, vI zc1])), (zb1, cB E zN1 zu1)]) (wr := [(h, .inr (5, [vR xs, vR ys, vI n, vI df])), (xs, cI E 8 X), (ys, cI E 8 Y)]) (st := []) gX4_writeTo_J4_append_cf468 (q9 := 0) (ci := 0) rfl rfl rfl (K_app l E sb_ zb1 zm1 zc1 zu1 zN1 47 ((spX X Y 1)) zC1 zB1 zT1 zl1 zn1 (by omega) ⟨by decide, by decide⟩) hyd_J4_append_cf468 rfl [3, 4] [0, 1, 2] rfl rfl rfl rfl rfl (by decide) ⟨rfl, rfl⟩ ⟨Nat.le_of_ble_eq_true rfl, Nat.le_of_ble_eq_true rfl, Nat.le_of_ble_eq_true rfl, Nat.le_of_ble_eq_true rfl⟩ (Nat.le_of_ble_eq_true rfl) dX4_writeTo_22 (rfl : _ = 4) (rfl : _ = 568) rfl ?_
        rintro _ _ ⟨q9_33, M9_34, u9_35, rfl, rfl, f_36, f_37, f_38, f_39⟩
        refine g_is (ws' := [(h, .inr (5, [vR xs, vR ys, vI n, vI df])), (xs, cI E 8 X), (ys, cI E 8 Y), (sb_, .inr (0, [vR q9_33, vI 0, vI zm1, vI (zc1 + 1)])), (q9_33, cB E M9_34 u9_35)]) (st' := [vR sb_]) rfl rfl ?_
        have wt_40 : TX u9_35 ((spX X Y 1) ++ [47]) := f_38
        have wl_41 : (zc1 + 1) = (((spX X Y 1) ++ [47]).length : Int) := len_1 zl1
        refine g_pop C rfl dX4_writeTo_25 rfl ?_
        refine g_aload_n C 1 rfl dX4_writeTo_26 rfl ?_
        refine g_aload_n C 0 rfl dX4_writeTo_27 rfl ?_
        refine g_get C 0 fd_X4_writeTo_9 rfl rfl rfl dX4_writeTo_28 rfl ?_
        refine g_iload_n C 2 rfl dX4_writeTo_31 rfl ?_
        refine g_iald C 1 rfl (by decide) (by decide) (by decide) rfl dX4_writeTo_32 rfl ?_
        refine g_callV C (b := sb_) (mc := 1) (ms := 142) (rm := rm_K_appI) (As := [vI (X 1)]) (wc := [(sb_, .inr (0, [vR q9_33, vI 0, vI zm1, vI (zc1 + 1)])), (q9_33, cB E M9_34 u9_35)]) (wr := [(h, .inr (5, [vR xs, vR ys, vI n, vI df])), (xs, cI E 8 X), (ys, cI E 8 Y)]) (st := []) gX4_writeTo_J4_append_bf812 (q9 := 0) (ci := 0) rfl rfl rfl (K_appI l E sb_ q9_33 zm1 (zc1 + 1) u9_35 M9_34 (X 1) (((spX X Y 1) ++ [47])) f_36 f_37 wt_40 wl_41 f_39 (by omega) (hX 1 (by decide) (by decide))) hyd_J4_append_bf812 rfl [3, 4] [0, 1, 2] rfl rfl rfl rfl rfl (by decide) ⟨rfl, rfl⟩ ⟨Nat.le_of_ble_eq_true rfl, Nat.le_of_ble_eq_true rfl, Nat.le_of_ble_eq_true rfl, Nat.le_of_ble_eq_true rfl⟩ (Nat.le_of_ble_eq_true rfl) dX4_writeTo_33 (rfl : _ = 5) (rfl : _ = 710) rfl ?_
        rintro _ _ ⟨q9_42, M9_43, u9_44, rfl, rfl, f_45, f_46, f_47, f_48⟩
        refine g_is (ws' := [(h, .inr (5, [vR xs, vR ys, vI n, vI df])), (xs, cI E 8 X), (ys, cI E 8 Y), (sb_, .inr (0, [vR q9_42, vI 0, vI zm1, vI ((zc1 + 1) + (dlen (X 1)))])), (q9_42, cB E M9_43 u9_44)]) (st' := [vR sb_]) rfl rfl ?_
        have wt_49 : TX u9_44 (((spX X Y 1) ++ [47]) ++ dgs (X 1)) := f_47
        have wl_50 : ((zc1 + 1) + (dlen (X 1))) = ((((spX X Y 1) ++ [47]) ++ dgs (X 1)).length : Int) := len_d wl_41
        refine g_pop C rfl dX4_writeTo_36 rfl ?_
        refine g_aload_n C 1 rfl dX4_writeTo_37 rfl ?_
        refine g_bipush C (by decide) dX4_writeTo_38 rfl ?_
        refine g_callV C (b := sb_) (mc := 1) (ms := 142) (rm := rm_K_app) (As := [vI 44]) (wc := [(sb_, .inr (0, [vR q9_42, vI 0, vI zm1, vI ((zc1 + 1) + (dlen (X 1)))])), (q9_42, cB E M9_43 u9_44)]) (wr := [(h, .inr (5, [vR xs, vR ys, vI n, vI df])), (xs, cI E 8 X), (ys, cI E 8 Y)]) (st := []) gX4_writeTo_J4_append_cf468 (q9 := 0) (ci := 0) rfl rfl rfl (K_app l E sb_ q9_42 zm1 ((zc1 + 1) + (dlen (X 1))) u9_44 M9_43 44 ((((spX X Y 1) ++ [47]) ++ dgs (X 1))) f_45 f_46 wt_49 wl_50 f_48 (by omega) ⟨by decide, by decide⟩) hyd_J4_append_cf468 rfl [3, 4] [0, 1, 2] rfl rfl rfl rfl rfl (by decide) ⟨rfl, rfl⟩ ⟨Nat.le_of_ble_eq_true rfl, Nat.le_of_ble_eq_true rfl, Nat.le_of_ble_eq_true rfl, Nat.le_of_ble_eq_true rfl⟩ (Nat.le_of_ble_eq_true rfl) dX4_writeTo_40 (rfl : _ = 6) (rfl : _ = 852) rfl ?_
        rintro _ _ ⟨q9_51, M9_52, u9_53, rfl, rfl, f_54, f_55, f_56, f_57⟩
        refine g_is (ws' := [(h, .inr (5, [vR xs, vR ys, vI n, vI df])), (xs, cI E 8 X), (ys, cI E 8 Y), (sb_, .inr (0, [vR q9_51, vI 0, vI zm1, vI (((zc1 + 1) + (dlen (X 1))) + 1)])), (q9_51, cB E M9_52 u9_53)]) (st' := [vR sb_]) rfl rfl ?_
        have wt_58 : TX u9_53 ((((spX X Y 1) ++ [47]) ++ dgs (X 1)) ++ [44]) := f_56
        have wl_59 : (((zc1 + 1) + (dlen (X 1))) + 1) = (((((spX X Y 1) ++ [47]) ++ dgs (X 1)) ++ [44]).length : Int) := len_1 wl_50
        refine g_pop C rfl dX4_writeTo_43 rfl ?_
        refine g_aload_n C 1 rfl dX4_writeTo_44 rfl ?_
        refine g_aload_n C 0 rfl dX4_writeTo_45 rfl ?_
        refine g_get C 0 fd_X4_writeTo_15 rfl rfl rfl dX4_writeTo_46 rfl ?_
        refine g_iload_n C 2 rfl dX4_writeTo_49 rfl ?_
        refine g_iald C 2 rfl (by decide) (by decide) (by decide) rfl dX4_writeTo_50 rfl ?_
        refine g_callV C (b := sb_) (mc := 1) (ms := 142) (rm := rm_K_appI) (As := [vI (Y 1)]) (wc := [(sb_, .inr (0, [vR q9_51, vI 0, vI zm1, vI (((zc1 + 1) + (dlen (X 1))) + 1)])), (q9_51, cB E M9_52 u9_53)]) (wr := [(h, .inr (5, [vR xs, vR ys, vI n, vI df])), (xs, cI E 8 X), (ys, cI E 8 Y)]) (st := []) gX4_writeTo_J4_append_bf812 (q9 := 0) (ci := 0) rfl rfl rfl (K_appI l E sb_ q9_51 zm1 (((zc1 + 1) + (dlen (X 1))) + 1) u9_53 M9_52 (Y 1) (((((spX X Y 1) ++ [47]) ++ dgs (X 1)) ++ [44])) f_54 f_55 wt_58 wl_59 f_57 (by omega) (hY 1 (by decide) (by decide))) hyd_J4_append_bf812 rfl [3, 4] [0, 1, 2] rfl rfl rfl rfl rfl (by decide) ⟨rfl, rfl⟩ ⟨Nat.le_of_ble_eq_true rfl, Nat.le_of_ble_eq_true rfl, Nat.le_of_ble_eq_true rfl, Nat.le_of_ble_eq_true rfl⟩ (Nat.le_of_ble_eq_true rfl) dX4_writeTo_51 (rfl : _ = 7) (rfl : _ = 994) rfl ?_
        rintro _ _ ⟨q9_60, M9_61, u9_62, rfl, rfl, f_63, f_64, f_65, f_66⟩
        refine g_is (ws' := [(h, .inr (5, [vR xs, vR ys, vI n, vI df])), (xs, cI E 8 X), (ys, cI E 8 Y), (sb_, .inr (0, [vR q9_60, vI 0, vI zm1, vI ((((zc1 + 1) + (dlen (X 1))) + 1) + (dlen (Y 1)))])), (q9_60, cB E M9_61 u9_62)]) (st' := [vR sb_]) rfl rfl ?_
        have wt_67 : TX u9_62 (spX X Y 2) := f_65
        have wl_68 : ((((zc1 + 1) + (dlen (X 1))) + 1) + (dlen (Y 1))) = ((spX X Y 2).length : Int) := len_d wl_59
        have wb2 := spX_b X Y 2
        refine g_pop C rfl dX4_writeTo_54 rfl ?_
        refine g_iinc C (r := 2) (lv' := [(0, vR h), (1, vR sb_), (2, vI 2)]) 2 [1, 2, 0] rfl (by decide) (by decide) rfl rfl dX4_writeTo_55 rfl ?_
        refine g_goto C (pc' := 7) dX4_writeTo_58 (by decide) ?_
        have hL_7_2 : ∀ (zb2 : Nat) (zN2 : Nat) (zm2 : Int) (zc2 : Int) (zu2 : Int → Int) (zC2 : CP zN2) (zB2 : BX zN2 zu2) (zT2 : TX zu2 (spX X Y 2)) (zl2 : zc2 = ((spX X Y 2).length : Int)) (zn2 : zc2 ≤ (zN2 : Int)), G p9 l e9 rm_K_writeTo s9 m9 args9 below9 meth9 c9 (RQ E (fun v9 w9 => ∃ (q9 : Nat) (M9 : Nat) (m9 : Int) (k9 : Int) (u9 : Int → Int), v9 = none ∧ w9 = [(h, .inr (5, [vR xs, vR ys, vI n, vI df])), (xs, cI E 8 X), (ys, cI E 8 Y), (sb_, .inr (0, [vR q9, vI 0, vI m9, vI k9])), (q9, cB E M9 u9)] ∧ CP M9 ∧ BX M9 u9 ∧ TX u9 (spX X Y (Int.toNat n)) ∧ k9 = ((spX X Y (Int.toNat n)).length : Int) ∧ k9 ≤ (M9 : Int) ∧ 0 ≤ k9 ∧ k9 ≤ 112) A9 below9 args9 s9 32 4544) E A9 3 7 994 [(h, .inr (5, [vR xs, vR ys, vI n, vI df])), (xs, cI E 8 X), (ys, cI E 8 Y), (sb_, .inr (0, [vR zb2, vI 0, vI zm2, vI zc2])), (zb2, cB E zN2 zu2)] [(0, vR h), (1, vR sb_), (2, vI 2)] 7 [] := by
          intro zb2 zN2 zm2 zc2 zu2 zC2 zB2 zT2 zl2 zn2
          refine g_iload_n C 2 rfl dX4_writeTo_7 rfl ?_
          refine g_aload_n C 0 rfl dX4_writeTo_8 rfl ?_
          refine g_get C 0 fd_X4_writeTo_28 rfl rfl rfl dX4_writeTo_9 rfl ?_
          refine g_icmp_ge C (tgt := 61) ⟨by decide, by decide⟩ ⟨by omega, by omega⟩ dX4_writeTo_12 (by decide) rfl (fun c_69 => ?_) (fun c_69 => ?_)
          · have en : Int.toNat n = 2 := by omega
            exact g_vret C hr (Nat.le_of_ble_eq_true rfl) (Nat.le_of_ble_eq_true rfl) dX4_writeTo_61 ⟨zb2, zN2, zm2, zc2, zu2, rfl, rfl, (by exact zC2), (by exact zB2), (by rw [en]; exact zT2), (by rw [en]; exact zl2), (by omega), (by omega)⟩
          refine g_iload_n C 2 rfl dX4_writeTo_15 rfl ?_
          refine g_if_le C (tgt := 26) ⟨by decide, by decide⟩ dX4_writeTo_16 (by decide) rfl (fun c_70 => ?_) (fun c_70 => ?_)
          · exact absurd c_70 (by decide)
          refine g_aload_n C 1 rfl dX4_writeTo_19 rfl ?_
          refine g_bipush C (by decide) dX4_writeTo_20 rfl ?_
          refine g_callV C (b := sb_) (mc := 1) (ms := 142) (rm := rm_K_app) (As := [vI 47]) (wc := [(sb_, .inr (0, [vR zb2, vI 0, vI zm2, vI zc2])), (zb2, cB E zN2 zu2)]) (wr := [(h, .inr (5, [vR xs, vR ys, vI n, vI df])), (xs, cI E 8 X), (ys, cI E 8 Y)]) (st := []) gX4_writeTo_J4_append_cf468 (q9 := 0) (ci := 0) rfl rfl rfl (K_app l E sb_ zb2 zm2 zc2 zu2 zN2 47 ((spX X Y 2)) zC2 zB2 zT2 zl2 zn2 (by omega) ⟨by decide, by decide⟩) hyd_J4_append_cf468 rfl [3, 4] [0, 1, 2] rfl rfl rfl rfl rfl (by decide) ⟨rfl, rfl⟩ ⟨Nat.le_of_ble_eq_true rfl, Nat.le_of_ble_eq_true rfl, Nat.le_of_ble_eq_true rfl, Nat.le_of_ble_eq_true rfl⟩ (Nat.le_of_ble_eq_true rfl) dX4_writeTo_22 (rfl : _ = 8) (rfl : _ = 1136) rfl ?_
          rintro _ _ ⟨q9_71, M9_72, u9_73, rfl, rfl, f_74, f_75, f_76, f_77⟩
          refine g_is (ws' := [(h, .inr (5, [vR xs, vR ys, vI n, vI df])), (xs, cI E 8 X), (ys, cI E 8 Y), (sb_, .inr (0, [vR q9_71, vI 0, vI zm2, vI (zc2 + 1)])), (q9_71, cB E M9_72 u9_73)]) (st' := [vR sb_]) rfl rfl ?_
          have wt_78 : TX u9_73 ((spX X Y 2) ++ [47]) := f_76
          have wl_79 : (zc2 + 1) = (((spX X Y 2) ++ [47]).length : Int) := len_1 zl2
          refine g_pop C rfl dX4_writeTo_25 rfl ?_
          refine g_aload_n C 1 rfl dX4_writeTo_26 rfl ?_
          refine g_aload_n C 0 rfl dX4_writeTo_27 rfl ?_
          refine g_get C 0 fd_X4_writeTo_9 rfl rfl rfl dX4_writeTo_28 rfl ?_
          refine g_iload_n C 2 rfl dX4_writeTo_31 rfl ?_
          refine g_iald C 1 rfl (by decide) (by decide) (by decide) rfl dX4_writeTo_32 rfl ?_
          refine g_callV C (b := sb_) (mc := 1) (ms := 142) (rm := rm_K_appI) (As := [vI (X 2)]) (wc := [(sb_, .inr (0, [vR q9_71, vI 0, vI zm2, vI (zc2 + 1)])), (q9_71, cB E M9_72 u9_73)]) (wr := [(h, .inr (5, [vR xs, vR ys, vI n, vI df])), (xs, cI E 8 X), (ys, cI E 8 Y)]) (st := []) gX4_writeTo_J4_append_bf812 (q9 := 0) (ci := 0) rfl rfl rfl (K_appI l E sb_ q9_71 zm2 (zc2 + 1) u9_73 M9_72 (X 2) (((spX X Y 2) ++ [47])) f_74 f_75 wt_78 wl_79 f_77 (by omega) (hX 2 (by decide) (by decide))) hyd_J4_append_bf812 rfl [3, 4] [0, 1, 2] rfl rfl rfl rfl rfl (by decide) ⟨rfl, rfl⟩ ⟨Nat.le_of_ble_eq_true rfl, Nat.le_of_ble_eq_true rfl, Nat.le_of_ble_eq_true rfl, Nat.le_of_ble_eq_true rfl⟩ (Nat.le_of_ble_eq_true rfl) dX4_writeTo_33 (rfl : _ = 9) (rfl : _ = 1278) rfl ?_
          rintro _ _ ⟨q9_80, M9_81, u9_82, rfl, rfl, f_83, f_84, f_85, f_86⟩
          refine g_is (ws' := [(h, .inr (5, [vR xs, vR ys, vI n, vI df])), (xs, cI E 8 X), (ys, cI E 8 Y), (sb_, .inr (0, [vR q9_80, vI 0, vI zm2, vI ((zc2 + 1) + (dlen (X 2)))])), (q9_80, cB E M9_81 u9_82)]) (st' := [vR sb_]) rfl rfl ?_
          have wt_87 : TX u9_82 (((spX X Y 2) ++ [47]) ++ dgs (X 2)) := f_85
          have wl_88 : ((zc2 + 1) + (dlen (X 2))) = ((((spX X Y 2) ++ [47]) ++ dgs (X 2)).length : Int) := len_d wl_79
          refine g_pop C rfl dX4_writeTo_36 rfl ?_
          refine g_aload_n C 1 rfl dX4_writeTo_37 rfl ?_
          refine g_bipush C (by decide) dX4_writeTo_38 rfl ?_
          refine g_callV C (b := sb_) (mc := 1) (ms := 142) (rm := rm_K_app) (As := [vI 44]) (wc := [(sb_, .inr (0, [vR q9_80, vI 0, vI zm2, vI ((zc2 + 1) + (dlen (X 2)))])), (q9_80, cB E M9_81 u9_82)]) (wr := [(h, .inr (5, [vR xs, vR ys, vI n, vI df])), (xs, cI E 8 X), (ys, cI E 8 Y)]) (st := []) gX4_writeTo_J4_append_cf468 (q9 := 0) (ci := 0) rfl rfl rfl (K_app l E sb_ q9_80 zm2 ((zc2 + 1) + (dlen (X 2))) u9_82 M9_81 44 ((((spX X Y 2) ++ [47]) ++ dgs (X 2))) f_83 f_84 wt_87 wl_88 f_86 (by omega) ⟨by decide, by decide⟩) hyd_J4_append_cf468 rfl [3, 4] [0, 1, 2] rfl rfl rfl rfl rfl (by decide) ⟨rfl, rfl⟩ ⟨Nat.le_of_ble_eq_true rfl, Nat.le_of_ble_eq_true rfl, Nat.le_of_ble_eq_true rfl, Nat.le_of_ble_eq_true rfl⟩ (Nat.le_of_ble_eq_true rfl) dX4_writeTo_40 (rfl : _ = 10) (rfl : _ = 1420) rfl ?_
          rintro _ _ ⟨q9_89, M9_90, u9_91, rfl, rfl, f_92, f_93, f_94, f_95⟩
          refine g_is (ws' := [(h, .inr (5, [vR xs, vR ys, vI n, vI df])), (xs, cI E 8 X), (ys, cI E 8 Y), (sb_, .inr (0, [vR q9_89, vI 0, vI zm2, vI (((zc2 + 1) + (dlen (X 2))) + 1)])), (q9_89, cB E M9_90 u9_91)]) (st' := [vR sb_]) rfl rfl ?_
          have wt_96 : TX u9_91 ((((spX X Y 2) ++ [47]) ++ dgs (X 2)) ++ [44]) := f_94
          have wl_97 : (((zc2 + 1) + (dlen (X 2))) + 1) = (((((spX X Y 2) ++ [47]) ++ dgs (X 2)) ++ [44]).length : Int) := len_1 wl_88
          refine g_pop C rfl dX4_writeTo_43 rfl ?_
          refine g_aload_n C 1 rfl dX4_writeTo_44 rfl ?_
          refine g_aload_n C 0 rfl dX4_writeTo_45 rfl ?_
          refine g_get C 0 fd_X4_writeTo_15 rfl rfl rfl dX4_writeTo_46 rfl ?_
          refine g_iload_n C 2 rfl dX4_writeTo_49 rfl ?_
          refine g_iald C 2 rfl (by decide) (by decide) (by decide) rfl dX4_writeTo_50 rfl ?_
          refine g_callV C (b := sb_) (mc := 1) (ms := 142) (rm := rm_K_appI) (As := [vI (Y 2)]) (wc := [(sb_, .inr (0, [vR q9_89, vI 0, vI zm2, vI (((zc2 + 1) + (dlen (X 2))) + 1)])), (q9_89, cB E M9_90 u9_91)]) (wr := [(h, .inr (5, [vR xs, vR ys, vI n, vI df])), (xs, cI E 8 X), (ys, cI E 8 Y)]) (st := []) gX4_writeTo_J4_append_bf812 (q9 := 0) (ci := 0) rfl rfl rfl (K_appI l E sb_ q9_89 zm2 (((zc2 + 1) + (dlen (X 2))) + 1) u9_91 M9_90 (Y 2) (((((spX X Y 2) ++ [47]) ++ dgs (X 2)) ++ [44])) f_92 f_93 wt_96 wl_97 f_95 (by omega) (hY 2 (by decide) (by decide))) hyd_J4_append_bf812 rfl [3, 4] [0, 1, 2] rfl rfl rfl rfl rfl (by decide) ⟨rfl, rfl⟩ ⟨Nat.le_of_ble_eq_true rfl, Nat.le_of_ble_eq_true rfl, Nat.le_of_ble_eq_true rfl, Nat.le_of_ble_eq_true rfl⟩ (Nat.le_of_ble_eq_true rfl) dX4_writeTo_51 (rfl : _ = 11) (rfl : _ = 1562) rfl ?_
          rintro _ _ ⟨q9_98, M9_99, u9_100, rfl, rfl, f_101, f_102, f_103, f_104⟩
          refine g_is (ws' := [(h, .inr (5, [vR xs, vR ys, vI n, vI df])), (xs, cI E 8 X), (ys, cI E 8 Y), (sb_, .inr (0, [vR q9_98, vI 0, vI zm2, vI ((((zc2 + 1) + (dlen (X 2))) + 1) + (dlen (Y 2)))])), (q9_98, cB E M9_99 u9_100)]) (st' := [vR sb_]) rfl rfl ?_
          have wt_105 : TX u9_100 (spX X Y 3) := f_103
          have wl_106 : ((((zc2 + 1) + (dlen (X 2))) + 1) + (dlen (Y 2))) = ((spX X Y 3).length : Int) := len_d wl_97
          have wb3 := spX_b X Y 3
          refine g_pop C rfl dX4_writeTo_54 rfl ?_
          refine g_iinc C (r := 3) (lv' := [(0, vR h), (1, vR sb_), (2, vI 3)]) 2 [1, 2, 0] rfl (by decide) (by decide) rfl rfl dX4_writeTo_55 rfl ?_
          refine g_goto C (pc' := 7) dX4_writeTo_58 (by decide) ?_
          have hL_7_3 : ∀ (zb3 : Nat) (zN3 : Nat) (zm3 : Int) (zc3 : Int) (zu3 : Int → Int) (zC3 : CP zN3) (zB3 : BX zN3 zu3) (zT3 : TX zu3 (spX X Y 3)) (zl3 : zc3 = ((spX X Y 3).length : Int)) (zn3 : zc3 ≤ (zN3 : Int)), G p9 l e9 rm_K_writeTo s9 m9 args9 below9 meth9 c9 (RQ E (fun v9 w9 => ∃ (q9 : Nat) (M9 : Nat) (m9 : Int) (k9 : Int) (u9 : Int → Int), v9 = none ∧ w9 = [(h, .inr (5, [vR xs, vR ys, vI n, vI df])), (xs, cI E 8 X), (ys, cI E 8 Y), (sb_, .inr (0, [vR q9, vI 0, vI m9, vI k9])), (q9, cB E M9 u9)] ∧ CP M9 ∧ BX M9 u9 ∧ TX u9 (spX X Y (Int.toNat n)) ∧ k9 = ((spX X Y (Int.toNat n)).length : Int) ∧ k9 ≤ (M9 : Int) ∧ 0 ≤ k9 ∧ k9 ≤ 112) A9 below9 args9 s9 32 4544) E A9 3 11 1562 [(h, .inr (5, [vR xs, vR ys, vI n, vI df])), (xs, cI E 8 X), (ys, cI E 8 Y), (sb_, .inr (0, [vR zb3, vI 0, vI zm3, vI zc3])), (zb3, cB E zN3 zu3)] [(0, vR h), (1, vR sb_), (2, vI 3)] 7 [] := by
            intro zb3 zN3 zm3 zc3 zu3 zC3 zB3 zT3 zl3 zn3
            refine g_iload_n C 2 rfl dX4_writeTo_7 rfl ?_
            refine g_aload_n C 0 rfl dX4_writeTo_8 rfl ?_
            refine g_get C 0 fd_X4_writeTo_28 rfl rfl rfl dX4_writeTo_9 rfl ?_
            refine g_icmp_ge C (tgt := 61) ⟨by decide, by decide⟩ ⟨by omega, by omega⟩ dX4_writeTo_12 (by decide) rfl (fun c_107 => ?_) (fun c_107 => ?_)
            · have en : Int.toNat n = 3 := by omega
              exact g_vret C hr (Nat.le_of_ble_eq_true rfl) (Nat.le_of_ble_eq_true rfl) dX4_writeTo_61 ⟨zb3, zN3, zm3, zc3, zu3, rfl, rfl, (by exact zC3), (by exact zB3), (by rw [en]; exact zT3), (by rw [en]; exact zl3), (by omega), (by omega)⟩
            refine g_iload_n C 2 rfl dX4_writeTo_15 rfl ?_
            refine g_if_le C (tgt := 26) ⟨by decide, by decide⟩ dX4_writeTo_16 (by decide) rfl (fun c_108 => ?_) (fun c_108 => ?_)
            · exact absurd c_108 (by decide)
            refine g_aload_n C 1 rfl dX4_writeTo_19 rfl ?_
            refine g_bipush C (by decide) dX4_writeTo_20 rfl ?_
            refine g_callV C (b := sb_) (mc := 1) (ms := 142) (rm := rm_K_app) (As := [vI 47]) (wc := [(sb_, .inr (0, [vR zb3, vI 0, vI zm3, vI zc3])), (zb3, cB E zN3 zu3)]) (wr := [(h, .inr (5, [vR xs, vR ys, vI n, vI df])), (xs, cI E 8 X), (ys, cI E 8 Y)]) (st := []) gX4_writeTo_J4_append_cf468 (q9 := 0) (ci := 0) rfl rfl rfl (K_app l E sb_ zb3 zm3 zc3 zu3 zN3 47 ((spX X Y 3)) zC3 zB3 zT3 zl3 zn3 (by omega) ⟨by decide, by decide⟩) hyd_J4_append_cf468 rfl [3, 4] [0, 1, 2] rfl rfl rfl rfl rfl (by decide) ⟨rfl, rfl⟩ ⟨Nat.le_of_ble_eq_true rfl, Nat.le_of_ble_eq_true rfl, Nat.le_of_ble_eq_true rfl, Nat.le_of_ble_eq_true rfl⟩ (Nat.le_of_ble_eq_true rfl) dX4_writeTo_22 (rfl : _ = 12) (rfl : _ = 1704) rfl ?_
            rintro _ _ ⟨q9_109, M9_110, u9_111, rfl, rfl, f_112, f_113, f_114, f_115⟩
            refine g_is (ws' := [(h, .inr (5, [vR xs, vR ys, vI n, vI df])), (xs, cI E 8 X), (ys, cI E 8 Y), (sb_, .inr (0, [vR q9_109, vI 0, vI zm3, vI (zc3 + 1)])), (q9_109, cB E M9_110 u9_111)]) (st' := [vR sb_]) rfl rfl ?_
            have wt_116 : TX u9_111 ((spX X Y 3) ++ [47]) := f_114
            have wl_117 : (zc3 + 1) = (((spX X Y 3) ++ [47]).length : Int) := len_1 zl3
            refine g_pop C rfl dX4_writeTo_25 rfl ?_
            refine g_aload_n C 1 rfl dX4_writeTo_26 rfl ?_
            refine g_aload_n C 0 rfl dX4_writeTo_27 rfl ?_
            refine g_get C 0 fd_X4_writeTo_9 rfl rfl rfl dX4_writeTo_28 rfl ?_
            refine g_iload_n C 2 rfl dX4_writeTo_31 rfl ?_
            refine g_iald C 1 rfl (by decide) (by decide) (by decide) rfl dX4_writeTo_32 rfl ?_
            refine g_callV C (b := sb_) (mc := 1) (ms := 142) (rm := rm_K_appI) (As := [vI (X 3)]) (wc := [(sb_, .inr (0, [vR q9_109, vI 0, vI zm3, vI (zc3 + 1)])), (q9_109, cB E M9_110 u9_111)]) (wr := [(h, .inr (5, [vR xs, vR ys, vI n, vI df])), (xs, cI E 8 X), (ys, cI E 8 Y)]) (st := []) gX4_writeTo_J4_append_bf812 (q9 := 0) (ci := 0) rfl rfl rfl (K_appI l E sb_ q9_109 zm3 (zc3 + 1) u9_111 M9_110 (X 3) (((spX X Y 3) ++ [47])) f_112 f_113 wt_116 wl_117 f_115 (by omega) (hX 3 (by decide) (by decide))) hyd_J4_append_bf812 rfl [3, 4] [0, 1, 2] rfl rfl rfl rfl rfl (by decide) ⟨rfl, rfl⟩ ⟨Nat.le_of_ble_eq_true rfl, Nat.le_of_ble_eq_true rfl, Nat.le_of_ble_eq_true rfl, Nat.le_of_ble_eq_true rfl⟩ (Nat.le_of_ble_eq_true rfl) dX4_writeTo_33 (rfl : _ = 13) (rfl : _ = 1846) rfl ?_
            rintro _ _ ⟨q9_118, M9_119, u9_120, rfl, rfl, f_121, f_122, f_123, f_124⟩
            refine g_is (ws' := [(h, .inr (5, [vR xs, vR ys, vI n, vI df])), (xs, cI E 8 X), (ys, cI E 8 Y), (sb_, .inr (0, [vR q9_118, vI 0, vI zm3, vI ((zc3 + 1) + (dlen (X 3)))])), (q9_118, cB E M9_119 u9_120)]) (st' := [vR sb_]) rfl rfl ?_
            have wt_125 : TX u9_120 (((spX X Y 3) ++ [47]) ++ dgs (X 3)) := f_123
            have wl_126 : ((zc3 + 1) + (dlen (X 3))) = ((((spX X Y 3) ++ [47]) ++ dgs (X 3)).length : Int) := len_d wl_117
            refine g_pop C rfl dX4_writeTo_36 rfl ?_
            refine g_aload_n C 1 rfl dX4_writeTo_37 rfl ?_
            refine g_bipush C (by decide) dX4_writeTo_38 rfl ?_
            refine g_callV C (b := sb_) (mc := 1) (ms := 142) (rm := rm_K_app) (As := [vI 44]) (wc := [(sb_, .inr (0, [vR q9_118, vI 0, vI zm3, vI ((zc3 + 1) + (dlen (X 3)))])), (q9_118, cB E M9_119 u9_120)]) (wr := [(h, .inr (5, [vR xs, vR ys, vI n, vI df])), (xs, cI E 8 X), (ys, cI E 8 Y)]) (st := []) gX4_writeTo_J4_append_cf468 (q9 := 0) (ci := 0) rfl rfl rfl (K_app l E sb_ q9_118 zm3 ((zc3 + 1) + (dlen (X 3))) u9_120 M9_119 44 ((((spX X Y 3) ++ [47]) ++ dgs (X 3))) f_121 f_122 wt_125 wl_126 f_124 (by omega) ⟨by decide, by decide⟩) hyd_J4_append_cf468 rfl [3, 4] [0, 1, 2] rfl rfl rfl rfl rfl (by decide) ⟨rfl, rfl⟩ ⟨Nat.le_of_ble_eq_true rfl, Nat.le_of_ble_eq_true rfl, Nat.le_of_ble_eq_true rfl, Nat.le_of_ble_eq_true rfl⟩ (Nat.le_of_ble_eq_true rfl) dX4_writeTo_40 (rfl : _ = 14) (rfl : _ = 1988) rfl ?_
            rintro _ _ ⟨q9_127, M9_128, u9_129, rfl, rfl, f_130, f_131, f_132, f_133⟩
            refine g_is (ws' := [(h, .inr (5, [vR xs, vR ys, vI n, vI df])), (xs, cI E 8 X), (ys, cI E 8 Y), (sb_, .inr (0, [vR q9_127, vI 0, vI zm3, vI (((zc3 + 1) + (dlen (X 3))) + 1)])), (q9_127, cB E M9_128 u9_129)]) (st' := [vR sb_]) rfl rfl ?_
            have wt_134 : TX u9_129 ((((spX X Y 3) ++ [47]) ++ dgs (X 3)) ++ [44]) := f_132
            have wl_135 : (((zc3 + 1) + (dlen (X 3))) + 1) = (((((spX X Y 3) ++ [47]) ++ dgs (X 3)) ++ [44]).length : Int) := len_1 wl_126
            refine g_pop C rfl dX4_writeTo_43 rfl ?_
            refine g_aload_n C 1 rfl dX4_writeTo_44 rfl ?_
            refine g_aload_n C 0 rfl dX4_writeTo_45 rfl ?_
            refine g_get C 0 fd_X4_writeTo_15 rfl rfl rfl dX4_writeTo_46 rfl ?_
            refine g_iload_n C 2 rfl dX4_writeTo_49 rfl ?_
            refine g_iald C 2 rfl (by decide) (by decide) (by decide) rfl dX4_writeTo_50 rfl ?_
            refine g_callV C (b := sb_) (mc := 1) (ms := 142) (rm := rm_K_appI) (As := [vI (Y 3)]) (wc := [(sb_, .inr (0, [vR q9_127, vI 0, vI zm3, vI (((zc3 + 1) + (dlen (X 3))) + 1)])), (q9_127, cB E M9_128 u9_129)]) (wr := [(h, .inr (5, [vR xs, vR ys, vI n, vI df])), (xs, cI E 8 X), (ys, cI E 8 Y)]) (st := []) gX4_writeTo_J4_append_bf812 (q9 := 0) (ci := 0) rfl rfl rfl (K_appI l E sb_ q9_127 zm3 (((zc3 + 1) + (dlen (X 3))) + 1) u9_129 M9_128 (Y 3) (((((spX X Y 3) ++ [47]) ++ dgs (X 3)) ++ [44])) f_130 f_131 wt_134 wl_135 f_133 (by omega) (hY 3 (by decide) (by decide))) hyd_J4_append_bf812 rfl [3, 4] [0, 1, 2] rfl rfl rfl rfl rfl (by decide) ⟨rfl, rfl⟩ ⟨Nat.le_of_ble_eq_true rfl, Nat.le_of_ble_eq_true rfl, Nat.le_of_ble_eq_true rfl, Nat.le_of_ble_eq_true rfl⟩ (Nat.le_of_ble_eq_true rfl) dX4_writeTo_51 (rfl : _ = 15) (rfl : _ = 2130) rfl ?_
            rintro _ _ ⟨q9_136, M9_137, u9_138, rfl, rfl, f_139, f_140, f_141, f_142⟩
            refine g_is (ws' := [(h, .inr (5, [vR xs, vR ys, vI n, vI df])), (xs, cI E 8 X), (ys, cI E 8 Y), (sb_, .inr (0, [vR q9_136, vI 0, vI zm3, vI ((((zc3 + 1) + (dlen (X 3))) + 1) + (dlen (Y 3)))])), (q9_136, cB E M9_137 u9_138)]) (st' := [vR sb_]) rfl rfl ?_
            have wt_143 : TX u9_138 (spX X Y 4) := f_141
            have wl_144 : ((((zc3 + 1) + (dlen (X 3))) + 1) + (dlen (Y 3))) = ((spX X Y 4).length : Int) := len_d wl_135
            have wb4 := spX_b X Y 4
            refine g_pop C rfl dX4_writeTo_54 rfl ?_
            refine g_iinc C (r := 4) (lv' := [(0, vR h), (1, vR sb_), (2, vI 4)]) 2 [1, 2, 0] rfl (by decide) (by decide) rfl rfl dX4_writeTo_55 rfl ?_
            refine g_goto C (pc' := 7) dX4_writeTo_58 (by decide) ?_
            have hL_7_4 : ∀ (zb4 : Nat) (zN4 : Nat) (zm4 : Int) (zc4 : Int) (zu4 : Int → Int) (zC4 : CP zN4) (zB4 : BX zN4 zu4) (zT4 : TX zu4 (spX X Y 4)) (zl4 : zc4 = ((spX X Y 4).length : Int)) (zn4 : zc4 ≤ (zN4 : Int)), G p9 l e9 rm_K_writeTo s9 m9 args9 below9 meth9 c9 (RQ E (fun v9 w9 => ∃ (q9 : Nat) (M9 : Nat) (m9 : Int) (k9 : Int) (u9 : Int → Int), v9 = none ∧ w9 = [(h, .inr (5, [vR xs, vR ys, vI n, vI df])), (xs, cI E 8 X), (ys, cI E 8 Y), (sb_, .inr (0, [vR q9, vI 0, vI m9, vI k9])), (q9, cB E M9 u9)] ∧ CP M9 ∧ BX M9 u9 ∧ TX u9 (spX X Y (Int.toNat n)) ∧ k9 = ((spX X Y (Int.toNat n)).length : Int) ∧ k9 ≤ (M9 : Int) ∧ 0 ≤ k9 ∧ k9 ≤ 112) A9 below9 args9 s9 32 4544) E A9 3 15 2130 [(h, .inr (5, [vR xs, vR ys, vI n, vI df])), (xs, cI E 8 X), (ys, cI E 8 Y), (sb_, .inr (0, [vR zb4, vI 0, vI zm4, vI zc4])), (zb4, cB E zN4 zu4)] [(0, vR h), (1, vR sb_), (2, vI 4)] 7 [] := by
              intro zb4 zN4 zm4 zc4 zu4 zC4 zB4 zT4 zl4 zn4
              refine g_iload_n C 2 rfl dX4_writeTo_7 rfl ?_
              refine g_aload_n C 0 rfl dX4_writeTo_8 rfl ?_
              refine g_get C 0 fd_X4_writeTo_28 rfl rfl rfl dX4_writeTo_9 rfl ?_
              refine g_icmp_ge C (tgt := 61) ⟨by decide, by decide⟩ ⟨by omega, by omega⟩ dX4_writeTo_12 (by decide) rfl (fun c_145 => ?_) (fun c_145 => ?_)
              · have en : Int.toNat n = 4 := by omega
                exact g_vret C hr (Nat.le_of_ble_eq_true rfl) (Nat.le_of_ble_eq_true rfl) dX4_writeTo_61 ⟨zb4, zN4, zm4, zc4, zu4, rfl, rfl, (by exact zC4), (by exact zB4), (by rw [en]; exact zT4), (by rw [en]; exact zl4), (by omega), (by omega)⟩
              refine g_iload_n C 2 rfl dX4_writeTo_15 rfl ?_
              refine g_if_le C (tgt := 26) ⟨by decide, by decide⟩ dX4_writeTo_16 (by decide) rfl (fun c_146 => ?_) (fun c_146 => ?_)
              · exact absurd c_146 (by decide)
              refine g_aload_n C 1 rfl dX4_writeTo_19 rfl ?_
              refine g_bipush C (by decide) dX4_writeTo_20 rfl ?_
              refine g_callV C (b := sb_) (mc := 1) (ms := 142) (rm := rm_K_app) (As := [vI 47]) (wc := [(sb_, .inr (0, [vR zb4, vI 0, vI zm4, vI zc4])), (zb4, cB E zN4 zu4)]) (wr := [(h, .inr (5, [vR xs, vR ys, vI n, vI df])), (xs, cI E 8 X), (ys, cI E 8 Y)]) (st := []) gX4_writeTo_J4_append_cf468 (q9 := 0) (ci := 0) rfl rfl rfl (K_app l E sb_ zb4 zm4 zc4 zu4 zN4 47 ((spX X Y 4)) zC4 zB4 zT4 zl4 zn4 (by omega) ⟨by decide, by decide⟩) hyd_J4_append_cf468 rfl [3, 4] [0, 1, 2] rfl rfl rfl rfl rfl (by decide) ⟨rfl, rfl⟩ ⟨Nat.le_of_ble_eq_true rfl, Nat.le_of_ble_eq_true rfl, Nat.le_of_ble_eq_true rfl, Nat.le_of_ble_eq_true rfl⟩ (Nat.le_of_ble_eq_true rfl) dX4_writeTo_22 (rfl : _ = 16) (rfl : _ = 2272) rfl ?_
              rintro _ _ ⟨q9_147, M9_148, u9_149, rfl, rfl, f_150, f_151, f_152, f_153⟩
              refine g_is (ws' := [(h, .inr (5, [vR xs, vR ys, vI n, vI df])), (xs, cI E 8 X), (ys, cI E 8 Y), (sb_, .inr (0, [vR q9_147, vI 0, vI zm4, vI (zc4 + 1)])), (q9_147, cB E M9_148 u9_149)]) (st' := [vR sb_]) rfl rfl ?_
              have wt_154 : TX u9_149 ((spX X Y 4) ++ [47]) := f_152
              have wl_155 : (zc4 + 1) = (((spX X Y 4) ++ [47]).length : Int) := len_1 zl4
              refine g_pop C rfl dX4_writeTo_25 rfl ?_
              refine g_aload_n C 1 rfl dX4_writeTo_26 rfl ?_
              refine g_aload_n C 0 rfl dX4_writeTo_27 rfl ?_
              refine g_get C 0 fd_X4_writeTo_9 rfl rfl rfl dX4_writeTo_28 rfl ?_
              refine g_iload_n C 2 rfl dX4_writeTo_31 rfl ?_
              refine g_iald C 1 rfl (by decide) (by decide) (by decide) rfl dX4_writeTo_32 rfl ?_
              refine g_callV C (b := sb_) (mc := 1) (ms := 142) (rm := rm_K_appI) (As := [vI (X 4)]) (wc := [(sb_, .inr (0, [vR q9_147, vI 0, vI zm4, vI (zc4 + 1)])), (q9_147, cB E M9_148 u9_149)]) (wr := [(h, .inr (5, [vR xs, vR ys, vI n, vI df])), (xs, cI E 8 X), (ys, cI E 8 Y)]) (st := []) gX4_writeTo_J4_append_bf812 (q9 := 0) (ci := 0) rfl rfl rfl (K_appI l E sb_ q9_147 zm4 (zc4 + 1) u9_149 M9_148 (X 4) (((spX X Y 4) ++ [47])) f_150 f_151 wt_154 wl_155 f_153 (by omega) (hX 4 (by decide) (by decide))) hyd_J4_append_bf812 rfl [3, 4] [0, 1, 2] rfl rfl rfl rfl rfl (by decide) ⟨rfl, rfl⟩ ⟨Nat.le_of_ble_eq_true rfl, Nat.le_of_ble_eq_true rfl, Nat.le_of_ble_eq_true rfl, Nat.le_of_ble_eq_true rfl⟩ (Nat.le_of_ble_eq_true rfl) dX4_writeTo_33 (rfl : _ = 17) (rfl : _ = 2414) rfl ?_
              rintro _ _ ⟨q9_156, M9_157, u9_158, rfl, rfl, f_159, f_160, f_161, f_162⟩
              refine g_is (ws' := [(h, .inr (5, [vR xs, vR ys, vI n, vI df])), (xs, cI E 8 X), (ys, cI E 8 Y), (sb_, .inr (0, [vR q9_156, vI 0, vI zm4, vI ((zc4 + 1) + (dlen (X 4)))])), (q9_156, cB E M9_157 u9_158)]) (st' := [vR sb_]) rfl rfl ?_
              have wt_163 : TX u9_158 (((spX X Y 4) ++ [47]) ++ dgs (X 4)) := f_161
              have wl_164 : ((zc4 + 1) + (dlen (X 4))) = ((((spX X Y 4) ++ [47]) ++ dgs (X 4)).length : Int) := len_d wl_155
              refine g_pop C rfl dX4_writeTo_36 rfl ?_
              refine g_aload_n C 1 rfl dX4_writeTo_37 rfl ?_
              refine g_bipush C (by decide) dX4_writeTo_38 rfl ?_
              refine g_callV C (b := sb_) (mc := 1) (ms := 142) (rm := rm_K_app) (As := [vI 44]) (wc := [(sb_, .inr (0, [vR q9_156, vI 0, vI zm4, vI ((zc4 + 1) + (dlen (X 4)))])), (q9_156, cB E M9_157 u9_158)]) (wr := [(h, .inr (5, [vR xs, vR ys, vI n, vI df])), (xs, cI E 8 X), (ys, cI E 8 Y)]) (st := []) gX4_writeTo_J4_append_cf468 (q9 := 0) (ci := 0) rfl rfl rfl (K_app l E sb_ q9_156 zm4 ((zc4 + 1) + (dlen (X 4))) u9_158 M9_157 44 ((((spX X Y 4) ++ [47]) ++ dgs (X 4))) f_159 f_160 wt_163 wl_164 f_162 (by omega) ⟨by decide, by decide⟩) hyd_J4_append_cf468 rfl [3, 4] [0, 1, 2] rfl rfl rfl rfl rfl (by decide) ⟨rfl, rfl⟩ ⟨Nat.le_of_ble_eq_true rfl, Nat.le_of_ble_eq_true rfl, Nat.le_of_ble_eq_true rfl, Nat.le_of_ble_eq_true rfl⟩ (Nat.le_of_ble_eq_true rfl) dX4_writeTo_40 (rfl : _ = 18) (rfl : _ = 2556) rfl ?_
              rintro _ _ ⟨q9_165, M9_166, u9_167, rfl, rfl, f_168, f_169, f_170, f_171⟩
              refine g_is (ws' := [(h, .inr (5, [vR xs, vR ys, vI n, vI df])), (xs, cI E 8 X), (ys, cI E 8 Y), (sb_, .inr (0, [vR q9_165, vI 0, vI zm4, vI (((zc4 + 1) + (dlen (X 4))) + 1)])), (q9_165, cB E M9_166 u9_167)]) (st' := [vR sb_]) rfl rfl ?_
              have wt_172 : TX u9_167 ((((spX X Y 4) ++ [47]) ++ dgs (X 4)) ++ [44]) := f_170
              have wl_173 : (((zc4 + 1) + (dlen (X 4))) + 1) = (((((spX X Y 4) ++ [47]) ++ dgs (X 4)) ++ [44]).length : Int) := len_1 wl_164
              refine g_pop C rfl dX4_writeTo_43 rfl ?_
              refine g_aload_n C 1 rfl dX4_writeTo_44 rfl ?_
              refine g_aload_n C 0 rfl dX4_writeTo_45 rfl ?_
              refine g_get C 0 fd_X4_writeTo_15 rfl rfl rfl dX4_writeTo_46 rfl ?_
              refine g_iload_n C 2 rfl dX4_writeTo_49 rfl ?_
              refine g_iald C 2 rfl (by decide) (by decide) (by decide) rfl dX4_writeTo_50 rfl ?_
              refine g_callV C (b := sb_) (mc := 1) (ms := 142) (rm := rm_K_appI) (As := [vI (Y 4)]) (wc := [(sb_, .inr (0, [vR q9_165, vI 0, vI zm4, vI (((zc4 + 1) + (dlen (X 4))) + 1)])), (q9_165, cB E M9_166 u9_167)]) (wr := [(h, .inr (5, [vR xs, vR ys, vI n, vI df])), (xs, cI E 8 X), (ys, cI E 8 Y)]) (st := []) gX4_writeTo_J4_append_bf812 (q9 := 0) (ci := 0) rfl rfl rfl (K_appI l E sb_ q9_165 zm4 (((zc4 + 1) + (dlen (X 4))) + 1) u9_167 M9_166 (Y 4) (((((spX X Y 4) ++ [47]) ++ dgs (X 4)) ++ [44])) f_168 f_169 wt_172 wl_173 f_171 (by omega) (hY 4 (by decide) (by decide))) hyd_J4_append_bf812 rfl [3, 4] [0, 1, 2] rfl rfl rfl rfl rfl (by decide) ⟨rfl, rfl⟩ ⟨Nat.le_of_ble_eq_true rfl, Nat.le_of_ble_eq_true rfl, Nat.le_of_ble_eq_true rfl, Nat.le_of_ble_eq_true rfl⟩ (Nat.le_of_ble_eq_true rfl) dX4_writeTo_51 (rfl : _ = 19) (rfl : _ = 2698) rfl ?_
              rintro _ _ ⟨q9_174, M9_175, u9_176, rfl, rfl, f_177, f_178, f_179, f_180⟩
              refine g_is (ws' := [(h, .inr (5, [vR xs, vR ys, vI n, vI df])), (xs, cI E 8 X), (ys, cI E 8 Y), (sb_, .inr (0, [vR q9_174, vI 0, vI zm4, vI ((((zc4 + 1) + (dlen (X 4))) + 1) + (dlen (Y 4)))])), (q9_174, cB E M9_175 u9_176)]) (st' := [vR sb_]) rfl rfl ?_
              have wt_181 : TX u9_176 (spX X Y 5) := f_179
              have wl_182 : ((((zc4 + 1) + (dlen (X 4))) + 1) + (dlen (Y 4))) = ((spX X Y 5).length : Int) := len_d wl_173
              have wb5 := spX_b X Y 5
              refine g_pop C rfl dX4_writeTo_54 rfl ?_
              refine g_iinc C (r := 5) (lv' := [(0, vR h), (1, vR sb_), (2, vI 5)]) 2 [1, 2, 0] rfl (by decide) (by decide) rfl rfl dX4_writeTo_55 rfl ?_
              refine g_goto C (pc' := 7) dX4_writeTo_58 (by decide) ?_
              have hL_7_5 : ∀ (zb5 : Nat) (zN5 : Nat) (zm5 : Int) (zc5 : Int) (zu5 : Int → Int) (zC5 : CP zN5) (zB5 : BX zN5 zu5) (zT5 : TX zu5 (spX X Y 5)) (zl5 : zc5 = ((spX X Y 5).length : Int)) (zn5 : zc5 ≤ (zN5 : Int)), G p9 l e9 rm_K_writeTo s9 m9 args9 below9 meth9 c9 (RQ E (fun v9 w9 => ∃ (q9 : Nat) (M9 : Nat) (m9 : Int) (k9 : Int) (u9 : Int → Int), v9 = none ∧ w9 = [(h, .inr (5, [vR xs, vR ys, vI n, vI df])), (xs, cI E 8 X), (ys, cI E 8 Y), (sb_, .inr (0, [vR q9, vI 0, vI m9, vI k9])), (q9, cB E M9 u9)] ∧ CP M9 ∧ BX M9 u9 ∧ TX u9 (spX X Y (Int.toNat n)) ∧ k9 = ((spX X Y (Int.toNat n)).length : Int) ∧ k9 ≤ (M9 : Int) ∧ 0 ≤ k9 ∧ k9 ≤ 112) A9 below9 args9 s9 32 4544) E A9 3 19 2698 [(h, .inr (5, [vR xs, vR ys, vI n, vI df])), (xs, cI E 8 X), (ys, cI E 8 Y), (sb_, .inr (0, [vR zb5, vI 0, vI zm5, vI zc5])), (zb5, cB E zN5 zu5)] [(0, vR h), (1, vR sb_), (2, vI 5)] 7 [] := by
                intro zb5 zN5 zm5 zc5 zu5 zC5 zB5 zT5 zl5 zn5
                refine g_iload_n C 2 rfl dX4_writeTo_7 rfl ?_
                refine g_aload_n C 0 rfl dX4_writeTo_8 rfl ?_
                refine g_get C 0 fd_X4_writeTo_28 rfl rfl rfl dX4_writeTo_9 rfl ?_
                refine g_icmp_ge C (tgt := 61) ⟨by decide, by decide⟩ ⟨by omega, by omega⟩ dX4_writeTo_12 (by decide) rfl (fun c_183 => ?_) (fun c_183 => ?_)
                · have en : Int.toNat n = 5 := by omega
                  exact g_vret C hr (Nat.le_of_ble_eq_true rfl) (Nat.le_of_ble_eq_true rfl) dX4_writeTo_61 ⟨zb5, zN5, zm5, zc5, zu5, rfl, rfl, (by exact zC5), (by exact zB5), (by rw [en]; exact zT5), (by rw [en]; exact zl5), (by omega), (by omega)⟩
                refine g_iload_n C 2 rfl dX4_writeTo_15 rfl ?_
                refine g_if_le C (tgt := 26) ⟨by decide, by decide⟩ dX4_writeTo_16 (by decide) rfl (fun c_184 => ?_) (fun c_184 => ?_)
                · exact absurd c_184 (by decide)
                refine g_aload_n C 1 rfl dX4_writeTo_19 rfl ?_
                refine g_bipush C (by decide) dX4_writeTo_20 rfl ?_
                refine g_callV C (b := sb_) (mc := 1) (ms := 142) (rm := rm_K_app) (As := [vI 47]) (wc := [(sb_, .inr (0, [vR zb5, vI 0, vI zm5, vI zc5])), (zb5, cB E zN5 zu5)]) (wr := [(h, .inr (5, [vR xs, vR ys, vI n, vI df])), (xs, cI E 8 X), (ys, cI E 8 Y)]) (st := []) gX4_writeTo_J4_append_cf468 (q9 := 0) (ci := 0) rfl rfl rfl (K_app l E sb_ zb5 zm5 zc5 zu5 zN5 47 ((spX X Y 5)) zC5 zB5 zT5 zl5 zn5 (by omega) ⟨by decide, by decide⟩) hyd_J4_append_cf468 rfl [3, 4] [0, 1, 2] rfl rfl rfl rfl rfl (by decide) ⟨rfl, rfl⟩ ⟨Nat.le_of_ble_eq_true rfl, Nat.le_of_ble_eq_true rfl, Nat.le_of_ble_eq_true rfl, Nat.le_of_ble_eq_true rfl⟩ (Nat.le_of_ble_eq_true rfl) dX4_writeTo_22 (rfl : _ = 20) (rfl : _ = 2840) rfl ?_
                rintro _ _ ⟨q9_185, M9_186, u9_187, rfl, rfl, f_188, f_189, f_190, f_191⟩
                refine g_is (ws' := [(h, .inr (5, [vR xs, vR ys, vI n, vI df])), (xs, cI E 8 X), (ys, cI E 8 Y), (sb_, .inr (0, [vR q9_185, vI 0, vI zm5, vI (zc5 + 1)])), (q9_185, cB E M9_186 u9_187)]) (st' := [vR sb_]) rfl rfl ?_
                have wt_192 : TX u9_187 ((spX X Y 5) ++ [47]) := f_190
                have wl_193 : (zc5 + 1) = (((spX X Y 5) ++ [47]).length : Int) := len_1 zl5
                refine g_pop C rfl dX4_writeTo_25 rfl ?_
                refine g_aload_n C 1 rfl dX4_writeTo_26 rfl ?_
                refine g_aload_n C 0 rfl dX4_writeTo_27 rfl ?_
                refine g_get C 0 fd_X4_writeTo_9 rfl rfl rfl dX4_writeTo_28 rfl ?_
                refine g_iload_n C 2 rfl dX4_writeTo_31 rfl ?_
                refine g_iald C 1 rfl (by decide) (by decide) (by decide) rfl dX4_writeTo_32 rfl ?_
                refine g_callV C (b := sb_) (mc := 1) (ms := 142) (rm := rm_K_appI) (As := [vI (X 5)]) (wc := [(sb_, .inr (0, [vR q9_185, vI 0, vI zm5, vI (zc5 + 1)])), (q9_185, cB E M9_186 u9_187)]) (wr := [(h, .inr (5, [vR xs, vR ys, vI n, vI df])), (xs, cI E 8 X), (ys, cI E 8 Y)]) (st := []) gX4_writeTo_J4_append_bf812 (q9 := 0) (ci := 0) rfl rfl rfl (K_appI l E sb_ q9_185 zm5 (zc5 + 1) u9_187 M9_186 (X 5) (((spX X Y 5) ++ [47])) f_188 f_189 wt_192 wl_193 f_191 (by omega) (hX 5 (by decide) (by decide))) hyd_J4_append_bf812 rfl [3, 4] [0, 1, 2] rfl rfl rfl rfl rfl (by decide) ⟨rfl, rfl⟩ ⟨Nat.le_of_ble_eq_true rfl, Nat.le_of_ble_eq_true rfl, Nat.le_of_ble_eq_true rfl, Nat.le_of_ble_eq_true rfl⟩ (Nat.le_of_ble_eq_true rfl) dX4_writeTo_33 (rfl : _ = 21) (rfl : _ = 2982) rfl ?_
                rintro _ _ ⟨q9_194, M9_195, u9_196, rfl, rfl, f_197, f_198, f_199, f_200⟩
                refine g_is (ws' := [(h, .inr (5, [vR xs, vR ys, vI n, vI df])), (xs, cI E 8 X), (ys, cI E 8 Y), (sb_, .inr (0, [vR q9_194, vI 0, vI zm5, vI ((zc5 + 1) + (dlen (X 5)))])), (q9_194, cB E M9_195 u9_196)]) (st' := [vR sb_]) rfl rfl ?_
                have wt_201 : TX u9_196 (((spX X Y 5) ++ [47]) ++ dgs (X 5)) := f_199
                have wl_202 : ((zc5 + 1) + (dlen (X 5))) = ((((spX X Y 5) ++ [47]) ++ dgs (X 5)).length : Int) := len_d wl_193
                refine g_pop C rfl dX4_writeTo_36 rfl ?_
                refine g_aload_n C 1 rfl dX4_writeTo_37 rfl ?_
                refine g_bipush C (by decide) dX4_writeTo_38 rfl ?_
                refine g_callV C (b := sb_) (mc := 1) (ms := 142) (rm := rm_K_app) (As := [vI 44]) (wc := [(sb_, .inr (0, [vR q9_194, vI 0, vI zm5, vI ((zc5 + 1) + (dlen (X 5)))])), (q9_194, cB E M9_195 u9_196)]) (wr := [(h, .inr (5, [vR xs, vR ys, vI n, vI df])), (xs, cI E 8 X), (ys, cI E 8 Y)]) (st := []) gX4_writeTo_J4_append_cf468 (q9 := 0) (ci := 0) rfl rfl rfl (K_app l E sb_ q9_194 zm5 ((zc5 + 1) + (dlen (X 5))) u9_196 M9_195 44 ((((spX X Y 5) ++ [47]) ++ dgs (X 5))) f_197 f_198 wt_201 wl_202 f_200 (by omega) ⟨by decide, by decide⟩) hyd_J4_append_cf468 rfl [3, 4] [0, 1, 2] rfl rfl rfl rfl rfl (by decide) ⟨rfl, rfl⟩ ⟨Nat.le_of_ble_eq_true rfl, Nat.le_of_ble_eq_true rfl, Nat.le_of_ble_eq_true rfl, Nat.le_of_ble_eq_true rfl⟩ (Nat.le_of_ble_eq_true rfl) dX4_writeTo_40 (rfl : _ = 22) (rfl : _ = 3124) rfl ?_
                rintro _ _ ⟨q9_203, M9_204, u9_205, rfl, rfl, f_206, f_207, f_208, f_209⟩
                refine g_is (ws' := [(h, .inr (5, [vR xs, vR ys, vI n, vI df])), (xs, cI E 8 X), (ys, cI E 8 Y), (sb_, .inr (0, [vR q9_203, vI 0, vI zm5, vI (((zc5 + 1) + (dlen (X 5))) + 1)])), (q9_203, cB E M9_204 u9_205)]) (st' := [vR sb_]) rfl rfl ?_
                have wt_210 : TX u9_205 ((((spX X Y 5) ++ [47]) ++ dgs (X 5)) ++ [44]) := f_208
                have wl_211 : (((zc5 + 1) + (dlen (X 5))) + 1) = (((((spX X Y 5) ++ [47]) ++ dgs (X 5)) ++ [44]).length : Int) := len_1 wl_202
                refine g_pop C rfl dX4_writeTo_43 rfl ?_
                refine g_aload_n C 1 rfl dX4_writeTo_44 rfl ?_
                refine g_aload_n C 0 rfl dX4_writeTo_45 rfl ?_
                refine g_get C 0 fd_X4_writeTo_15 rfl rfl rfl dX4_writeTo_46 rfl ?_
                refine g_iload_n C 2 rfl dX4_writeTo_49 rfl ?_
                refine g_iald C 2 rfl (by decide) (by decide) (by decide) rfl dX4_writeTo_50 rfl ?_
                refine g_callV C (b := sb_) (mc := 1) (ms := 142) (rm := rm_K_appI) (As := [vI (Y 5)]) (wc := [(sb_, .inr (0, [vR q9_203, vI 0, vI zm5, vI (((zc5 + 1) + (dlen (X 5))) + 1)])), (q9_203, cB E M9_204 u9_205)]) (wr := [(h, .inr (5, [vR xs, vR ys, vI n, vI df])), (xs, cI E 8 X), (ys, cI E 8 Y)]) (st := []) gX4_writeTo_J4_append_bf812 (q9 := 0) (ci := 0) rfl rfl rfl (K_appI l E sb_ q9_203 zm5 (((zc5 + 1) + (dlen (X 5))) + 1) u9_205 M9_204 (Y 5) (((((spX X Y 5) ++ [47]) ++ dgs (X 5)) ++ [44])) f_206 f_207 wt_210 wl_211 f_209 (by omega) (hY 5 (by decide) (by decide))) hyd_J4_append_bf812 rfl [3, 4] [0, 1, 2] rfl rfl rfl rfl rfl (by decide) ⟨rfl, rfl⟩ ⟨Nat.le_of_ble_eq_true rfl, Nat.le_of_ble_eq_true rfl, Nat.le_of_ble_eq_true rfl, Nat.le_of_ble_eq_true rfl⟩ (Nat.le_of_ble_eq_true rfl) dX4_writeTo_51 (rfl : _ = 23) (rfl : _ = 3266) rfl ?_
                rintro _ _ ⟨q9_212, M9_213, u9_214, rfl, rfl, f_215, f_216, f_217, f_218⟩
                refine g_is (ws' := [(h, .inr (5, [vR xs, vR ys, vI n, vI df])), (xs, cI E 8 X), (ys, cI E 8 Y), (sb_, .inr (0, [vR q9_212, vI 0, vI zm5, vI ((((zc5 + 1) + (dlen (X 5))) + 1) + (dlen (Y 5)))])), (q9_212, cB E M9_213 u9_214)]) (st' := [vR sb_]) rfl rfl ?_
                have wt_219 : TX u9_214 (spX X Y 6) := f_217
                have wl_220 : ((((zc5 + 1) + (dlen (X 5))) + 1) + (dlen (Y 5))) = ((spX X Y 6).length : Int) := len_d wl_211
                have wb6 := spX_b X Y 6
                refine g_pop C rfl dX4_writeTo_54 rfl ?_
                refine g_iinc C (r := 6) (lv' := [(0, vR h), (1, vR sb_), (2, vI 6)]) 2 [1, 2, 0] rfl (by decide) (by decide) rfl rfl dX4_writeTo_55 rfl ?_
                refine g_goto C (pc' := 7) dX4_writeTo_58 (by decide) ?_
                have hL_7_6 : ∀ (zb6 : Nat) (zN6 : Nat) (zm6 : Int) (zc6 : Int) (zu6 : Int → Int) (zC6 : CP zN6) (zB6 : BX zN6 zu6) (zT6 : TX zu6 (spX X Y 6)) (zl6 : zc6 = ((spX X Y 6).length : Int)) (zn6 : zc6 ≤ (zN6 : Int)), G p9 l e9 rm_K_writeTo s9 m9 args9 below9 meth9 c9 (RQ E (fun v9 w9 => ∃ (q9 : Nat) (M9 : Nat) (m9 : Int) (k9 : Int) (u9 : Int → Int), v9 = none ∧ w9 = [(h, .inr (5, [vR xs, vR ys, vI n, vI df])), (xs, cI E 8 X), (ys, cI E 8 Y), (sb_, .inr (0, [vR q9, vI 0, vI m9, vI k9])), (q9, cB E M9 u9)] ∧ CP M9 ∧ BX M9 u9 ∧ TX u9 (spX X Y (Int.toNat n)) ∧ k9 = ((spX X Y (Int.toNat n)).length : Int) ∧ k9 ≤ (M9 : Int) ∧ 0 ≤ k9 ∧ k9 ≤ 112) A9 below9 args9 s9 32 4544) E A9 3 23 3266 [(h, .inr (5, [vR xs, vR ys, vI n, vI df])), (xs, cI E 8 X), (ys, cI E 8 Y), (sb_, .inr (0, [vR zb6, vI 0, vI zm6, vI zc6])), (zb6, cB E zN6 zu6)] [(0, vR h), (1, vR sb_), (2, vI 6)] 7 [] := by
                  intro zb6 zN6 zm6 zc6 zu6 zC6 zB6 zT6 zl6 zn6
                  refine g_iload_n C 2 rfl dX4_writeTo_7 rfl ?_
                  refine g_aload_n C 0 rfl dX4_writeTo_8 rfl ?_
                  refine g_get C 0 fd_X4_writeTo_28 rfl rfl rfl dX4_writeTo_9 rfl ?_
                  refine g_icmp_ge C (tgt := 61) ⟨by decide, by decide⟩ ⟨by omega, by omega⟩ dX4_writeTo_12 (by decide) rfl (fun c_221 => ?_) (fun c_221 => ?_)
                  · have en : Int.toNat n = 6 := by omega
                    exact g_vret C hr (Nat.le_of_ble_eq_true rfl) (Nat.le_of_ble_eq_true rfl) dX4_writeTo_61 ⟨zb6, zN6, zm6, zc6, zu6, rfl, rfl, (by exact zC6), (by exact zB6), (by rw [en]; exact zT6), (by rw [en]; exact zl6), (by omega), (by omega)⟩
                  refine g_iload_n C 2 rfl dX4_writeTo_15 rfl ?_
                  refine g_if_le C (tgt := 26) ⟨by decide, by decide⟩ dX4_writeTo_16 (by decide) rfl (fun c_222 => ?_) (fun c_222 => ?_)
                  · exact absurd c_222 (by decide)
                  refine g_aload_n C 1 rfl dX4_writeTo_19 rfl ?_
                  refine g_bipush C (by decide) dX4_writeTo_20 rfl ?_
                  refine g_callV C (b := sb_) (mc := 1) (ms := 142) (rm := rm_K_app) (As := [vI 47]) (wc := [(sb_, .inr (0, [vR zb6, vI 0, vI zm6, vI zc6])), (zb6, cB E zN6 zu6)]) (wr := [(h, .inr (5, [vR xs, vR ys, vI n, vI df])), (xs, cI E 8 X), (ys, cI E 8 Y)]) (st := []) gX4_writeTo_J4_append_cf468 (q9 := 0) (ci := 0) rfl rfl rfl (K_app l E sb_ zb6 zm6 zc6 zu6 zN6 47 ((spX X Y 6)) zC6 zB6 zT6 zl6 zn6 (by omega) ⟨by decide, by decide⟩) hyd_J4_append_cf468 rfl [3, 4] [0, 1, 2] rfl rfl rfl rfl rfl (by decide) ⟨rfl, rfl⟩ ⟨Nat.le_of_ble_eq_true rfl, Nat.le_of_ble_eq_true rfl, Nat.le_of_ble_eq_true rfl, Nat.le_of_ble_eq_true rfl⟩ (Nat.le_of_ble_eq_true rfl) dX4_writeTo_22 (rfl : _ = 24) (rfl : _ = 3408) rfl ?_
                  rintro _ _ ⟨q9_223, M9_224, u9_225, rfl, rfl, f_226, f_227, f_228, f_229⟩
                  refine g_is (ws' := [(h, .inr (5, [vR xs, vR ys, vI n, vI df])), (xs, cI E 8 X), (ys, cI E 8 Y), (sb_, .inr (0, [vR q9_223, vI 0, vI zm6, vI (zc6 + 1)])), (q9_223, cB E M9_224 u9_225)]) (st' := [vR sb_]) rfl rfl ?_
                  have wt_230 : TX u9_225 ((spX X Y 6) ++ [47]) := f_228
                  have wl_231 : (zc6 + 1) = (((spX X Y 6) ++ [47]).length : Int) := len_1 zl6
                  refine g_pop C rfl dX4_writeTo_25 rfl ?_
                  refine g_aload_n C 1 rfl dX4_writeTo_26 rfl ?_
                  refine g_aload_n C 0 rfl dX4_writeTo_27 rfl ?_
                  refine g_get C 0 fd_X4_writeTo_9 rfl rfl rfl dX4_writeTo_28 rfl ?_
                  refine g_iload_n C 2 rfl dX4_writeTo_31 rfl ?_
                  refine g_iald C 1 rfl (by decide) (by decide) (by decide) rfl dX4_writeTo_32 rfl ?_
                  refine g_callV C (b := sb_) (mc := 1) (ms := 142) (rm := rm_K_appI) (As := [vI (X 6)]) (wc := [(sb_, .inr (0, [vR q9_223, vI 0, vI zm6, vI (zc6 + 1)])), (q9_223, cB E M9_224 u9_225)]) (wr := [(h, .inr (5, [vR xs, vR ys, vI n, vI df])), (xs, cI E 8 X), (ys, cI E 8 Y)]) (st := []) gX4_writeTo_J4_append_bf812 (q9 := 0) (ci := 0) rfl rfl rfl (K_appI l E sb_ q9_223 zm6 (zc6 + 1) u9_225 M9_224 (X 6) (((spX X Y 6) ++ [47])) f_226 f_227 wt_230 wl_231 f_229 (by omega) (hX 6 (by decide) (by decide))) hyd_J4_append_bf812 rfl [3, 4] [0, 1, 2] rfl rfl rfl rfl rfl (by decide) ⟨rfl, rfl⟩ ⟨Nat.le_of_ble_eq_true rfl, Nat.le_of_ble_eq_true rfl, Nat.le_of_ble_eq_true rfl, Nat.le_of_ble_eq_true rfl⟩ (Nat.le_of_ble_eq_true rfl) dX4_writeTo_33 (rfl : _ = 25) (rfl : _ = 3550) rfl ?_
                  rintro _ _ ⟨q9_232, M9_233, u9_234, rfl, rfl, f_235, f_236, f_237, f_238⟩
                  refine g_is (ws' := [(h, .inr (5, [vR xs, vR ys, vI n, vI df])), (xs, cI E 8 X), (ys, cI E 8 Y), (sb_, .inr (0, [vR q9_232, vI 0, vI zm6, vI ((zc6 + 1) + (dlen (X 6)))])), (q9_232, cB E M9_233 u9_234)]) (st' := [vR sb_]) rfl rfl ?_
                  have wt_239 : TX u9_234 (((spX X Y 6) ++ [47]) ++ dgs (X 6)) := f_237
                  have wl_240 : ((zc6 + 1) + (dlen (X 6))) = ((((spX X Y 6) ++ [47]) ++ dgs (X 6)).length : Int) := len_d wl_231
                  refine g_pop C rfl dX4_writeTo_36 rfl ?_
                  refine g_aload_n C 1 rfl dX4_writeTo_37 rfl ?_
                  refine g_bipush C (by decide) dX4_writeTo_38 rfl ?_
                  refine g_callV C (b := sb_) (mc := 1) (ms := 142) (rm := rm_K_app) (As := [vI 44]) (wc := [(sb_, .inr (0, [vR q9_232, vI 0, vI zm6, vI ((zc6 + 1) + (dlen (X 6)))])), (q9_232, cB E M9_233 u9_234)]) (wr := [(h, .inr (5, [vR xs, vR ys, vI n, vI df])), (xs, cI E 8 X), (ys, cI E 8 Y)]) (st := []) gX4_writeTo_J4_append_cf468 (q9 := 0) (ci := 0) rfl rfl rfl (K_app l E sb_ q9_232 zm6 ((zc6 + 1) + (dlen (X 6))) u9_234 M9_233 44 ((((spX X Y 6) ++ [47]) ++ dgs (X 6))) f_235 f_236 wt_239 wl_240 f_238 (by omega) ⟨by decide, by decide⟩) hyd_J4_append_cf468 rfl [3, 4] [0, 1, 2] rfl rfl rfl rfl rfl (by decide) ⟨rfl, rfl⟩ ⟨Nat.le_of_ble_eq_true rfl, Nat.le_of_ble_eq_true rfl, Nat.le_of_ble_eq_true rfl, Nat.le_of_ble_eq_true rfl⟩ (Nat.le_of_ble_eq_true rfl) dX4_writeTo_40 (rfl : _ = 26) (rfl : _ = 3692) rfl ?_
                  rintro _ _ ⟨q9_241, M9_242, u9_243, rfl, rfl, f_244, f_245, f_246, f_247⟩
                  refine g_is (ws' := [(h, .inr (5, [vR xs, vR ys, vI n, vI df])), (xs, cI E 8 X), (ys, cI E 8 Y), (sb_, .inr (0, [vR q9_241, vI 0, vI zm6, vI (((zc6 + 1) + (dlen (X 6))) + 1)])), (q9_241, cB E M9_242 u9_243)]) (st' := [vR sb_]) rfl rfl ?_
                  have wt_248 : TX u9_243 ((((spX X Y 6) ++ [47]) ++ dgs (X 6)) ++ [44]) := f_246
                  have wl_249 : (((zc6 + 1) + (dlen (X 6))) + 1) = (((((spX X Y 6) ++ [47]) ++ dgs (X 6)) ++ [44]).length : Int) := len_1 wl_240
                  refine g_pop C rfl dX4_writeTo_43 rfl ?_
                  refine g_aload_n C 1 rfl dX4_writeTo_44 rfl ?_
                  refine g_aload_n C 0 rfl dX4_writeTo_45 rfl ?_
                  refine g_get C 0 fd_X4_writeTo_15 rfl rfl rfl dX4_writeTo_46 rfl ?_
                  refine g_iload_n C 2 rfl dX4_writeTo_49 rfl ?_
                  refine g_iald C 2 rfl (by decide) (by decide) (by decide) rfl dX4_writeTo_50 rfl ?_
                  refine g_callV C (b := sb_) (mc := 1) (ms := 142) (rm := rm_K_appI) (As := [vI (Y 6)]) (wc := [(sb_, .inr (0, [vR q9_241, vI 0, vI zm6, vI (((zc6 + 1) + (dlen (X 6))) + 1)])), (q9_241, cB E M9_242 u9_243)]) (wr := [(h, .inr (5, [vR xs, vR ys, vI n, vI df])), (xs, cI E 8 X), (ys, cI E 8 Y)]) (st := []) gX4_writeTo_J4_append_bf812 (q9 := 0) (ci := 0) rfl rfl rfl (K_appI l E sb_ q9_241 zm6 (((zc6 + 1) + (dlen (X 6))) + 1) u9_243 M9_242 (Y 6) (((((spX X Y 6) ++ [47]) ++ dgs (X 6)) ++ [44])) f_244 f_245 wt_248 wl_249 f_247 (by omega) (hY 6 (by decide) (by decide))) hyd_J4_append_bf812 rfl [3, 4] [0, 1, 2] rfl rfl rfl rfl rfl (by decide) ⟨rfl, rfl⟩ ⟨Nat.le_of_ble_eq_true rfl, Nat.le_of_ble_eq_true rfl, Nat.le_of_ble_eq_true rfl, Nat.le_of_ble_eq_true rfl⟩ (Nat.le_of_ble_eq_true rfl) dX4_writeTo_51 (rfl : _ = 27) (rfl : _ = 3834) rfl ?_
                  rintro _ _ ⟨q9_250, M9_251, u9_252, rfl, rfl, f_253, f_254, f_255, f_256⟩
                  refine g_is (ws' := [(h, .inr (5, [vR xs, vR ys, vI n, vI df])), (xs, cI E 8 X), (ys, cI E 8 Y), (sb_, .inr (0, [vR q9_250, vI 0, vI zm6, vI ((((zc6 + 1) + (dlen (X 6))) + 1) + (dlen (Y 6)))])), (q9_250, cB E M9_251 u9_252)]) (st' := [vR sb_]) rfl rfl ?_
                  have wt_257 : TX u9_252 (spX X Y 7) := f_255
                  have wl_258 : ((((zc6 + 1) + (dlen (X 6))) + 1) + (dlen (Y 6))) = ((spX X Y 7).length : Int) := len_d wl_249
                  have wb7 := spX_b X Y 7
                  refine g_pop C rfl dX4_writeTo_54 rfl ?_
                  refine g_iinc C (r := 7) (lv' := [(0, vR h), (1, vR sb_), (2, vI 7)]) 2 [1, 2, 0] rfl (by decide) (by decide) rfl rfl dX4_writeTo_55 rfl ?_
                  refine g_goto C (pc' := 7) dX4_writeTo_58 (by decide) ?_
                  have hL_7_7 : ∀ (zb7 : Nat) (zN7 : Nat) (zm7 : Int) (zc7 : Int) (zu7 : Int → Int) (zC7 : CP zN7) (zB7 : BX zN7 zu7) (zT7 : TX zu7 (spX X Y 7)) (zl7 : zc7 = ((spX X Y 7).length : Int)) (zn7 : zc7 ≤ (zN7 : Int)), G p9 l e9 rm_K_writeTo s9 m9 args9 below9 meth9 c9 (RQ E (fun v9 w9 => ∃ (q9 : Nat) (M9 : Nat) (m9 : Int) (k9 : Int) (u9 : Int → Int), v9 = none ∧ w9 = [(h, .inr (5, [vR xs, vR ys, vI n, vI df])), (xs, cI E 8 X), (ys, cI E 8 Y), (sb_, .inr (0, [vR q9, vI 0, vI m9, vI k9])), (q9, cB E M9 u9)] ∧ CP M9 ∧ BX M9 u9 ∧ TX u9 (spX X Y (Int.toNat n)) ∧ k9 = ((spX X Y (Int.toNat n)).length : Int) ∧ k9 ≤ (M9 : Int) ∧ 0 ≤ k9 ∧ k9 ≤ 112) A9 below9 args9 s9 32 4544) E A9 3 27 3834 [(h, .inr (5, [vR xs, vR ys, vI n, vI df])), (xs, cI E 8 X), (ys, cI E 8 Y), (sb_, .inr (0, [vR zb7, vI 0, vI zm7, vI zc7])), (zb7, cB E zN7 zu7)] [(0, vR h), (1, vR sb_), (2, vI 7)] 7 [] := by
                    intro zb7 zN7 zm7 zc7 zu7 zC7 zB7 zT7 zl7 zn7
                    refine g_iload_n C 2 rfl dX4_writeTo_7 rfl ?_
                    refine g_aload_n C 0 rfl dX4_writeTo_8 rfl ?_
                    refine g_get C 0 fd_X4_writeTo_28 rfl rfl rfl dX4_writeTo_9 rfl ?_
                    refine g_icmp_ge C (tgt := 61) ⟨by decide, by decide⟩ ⟨by omega, by omega⟩ dX4_writeTo_12 (by decide) rfl (fun c_259 => ?_) (fun c_259 => ?_)
                    · have en : Int.toNat n = 7 := by omega
                      exact g_vret C hr (Nat.le_of_ble_eq_true rfl) (Nat.le_of_ble_eq_true rfl) dX4_writeTo_61 ⟨zb7, zN7, zm7, zc7, zu7, rfl, rfl, (by exact zC7), (by exact zB7), (by rw [en]; exact zT7), (by rw [en]; exact zl7), (by omega), (by omega)⟩
                    refine g_iload_n C 2 rfl dX4_writeTo_15 rfl ?_
                    refine g_if_le C (tgt := 26) ⟨by decide, by decide⟩ dX4_writeTo_16 (by decide) rfl (fun c_260 => ?_) (fun c_260 => ?_)
                    · exact absurd c_260 (by decide)
                    refine g_aload_n C 1 rfl dX4_writeTo_19 rfl ?_
                    refine g_bipush C (by decide) dX4_writeTo_20 rfl ?_
                    refine g_callV C (b := sb_) (mc := 1) (ms := 142) (rm := rm_K_app) (As := [vI 47]) (wc := [(sb_, .inr (0, [vR zb7, vI 0, vI zm7, vI zc7])), (zb7, cB E zN7 zu7)]) (wr := [(h, .inr (5, [vR xs, vR ys, vI n, vI df])), (xs, cI E 8 X), (ys, cI E 8 Y)]) (st := []) gX4_writeTo_J4_append_cf468 (q9 := 0) (ci := 0) rfl rfl rfl (K_app l E sb_ zb7 zm7 zc7 zu7 zN7 47 ((spX X Y 7)) zC7 zB7 zT7 zl7 zn7 (by omega) ⟨by decide, by decide⟩) hyd_J4_append_cf468 rfl [3, 4] [0, 1, 2] rfl rfl rfl rfl rfl (by decide) ⟨rfl, rfl⟩ ⟨Nat.le_of_ble_eq_true rfl, Nat.le_of_ble_eq_true rfl, Nat.le_of_ble_eq_true rfl, Nat.le_of_ble_eq_true rfl⟩ (Nat.le_of_ble_eq_true rfl) dX4_writeTo_22 (rfl : _ = 28) (rfl : _ = 3976) rfl ?_
                    rintro _ _ ⟨q9_261, M9_262, u9_263, rfl, rfl, f_264, f_265, f_266, f_267⟩
                    refine g_is (ws' := [(h, .inr (5, [vR xs, vR ys, vI n, vI df])), (xs, cI E 8 X), (ys, cI E 8 Y), (sb_, .inr (0, [vR q9_261, vI 0, vI zm7, vI (zc7 + 1)])), (q9_261, cB E M9_262 u9_263)]) (st' := [vR sb_]) rfl rfl ?_
                    have wt_268 : TX u9_263 ((spX X Y 7) ++ [47]) := f_266
                    have wl_269 : (zc7 + 1) = (((spX X Y 7) ++ [47]).length : Int) := len_1 zl7
                    refine g_pop C rfl dX4_writeTo_25 rfl ?_
                    refine g_aload_n C 1 rfl dX4_writeTo_26 rfl ?_
                    refine g_aload_n C 0 rfl dX4_writeTo_27 rfl ?_
                    refine g_get C 0 fd_X4_writeTo_9 rfl rfl rfl dX4_writeTo_28 rfl ?_
                    refine g_iload_n C 2 rfl dX4_writeTo_31 rfl ?_
                    refine g_iald C 1 rfl (by decide) (by decide) (by decide) rfl dX4_writeTo_32 rfl ?_
                    refine g_callV C (b := sb_) (mc := 1) (ms := 142) (rm := rm_K_appI) (As := [vI (X 7)]) (wc := [(sb_, .inr (0, [vR q9_261, vI 0, vI zm7, vI (zc7 + 1)])), (q9_261, cB E M9_262 u9_263)]) (wr := [(h, .inr (5, [vR xs, vR ys, vI n, vI df])), (xs, cI E 8 X), (ys, cI E 8 Y)]) (st := []) gX4_writeTo_J4_append_bf812 (q9 := 0) (ci := 0) rfl rfl rfl (K_appI l E sb_ q9_261 zm7 (zc7 + 1) u9_263 M9_262 (X 7) (((spX X Y 7) ++ [47])) f_264 f_265 wt_268 wl_269 f_267 (by omega) (hX 7 (by decide) (by decide))) hyd_J4_append_bf812 rfl [3, 4] [0, 1, 2] rfl rfl rfl rfl rfl (by decide) ⟨rfl, rfl⟩ ⟨Nat.le_of_ble_eq_true rfl, Nat.le_of_ble_eq_true rfl, Nat.le_of_ble_eq_true rfl, Nat.le_of_ble_eq_true rfl⟩ (Nat.le_of_ble_eq_true rfl) dX4_writeTo_33 (rfl : _ = 29) (rfl : _ = 4118) rfl ?_
                    rintro _ _ ⟨q9_270, M9_271, u9_272, rfl, rfl, f_273, f_274, f_275, f_276⟩
                    refine g_is (ws' := [(h, .inr (5, [vR xs, vR ys, vI n, vI df])), (xs, cI E 8 X), (ys, cI E 8 Y), (sb_, .inr (0, [vR q9_270, vI 0, vI zm7, vI ((zc7 + 1) + (dlen (X 7)))])), (q9_270, cB E M9_271 u9_272)]) (st' := [vR sb_]) rfl rfl ?_
                    have wt_277 : TX u9_272 (((spX X Y 7) ++ [47]) ++ dgs (X 7)) := f_275
                    have wl_278 : ((zc7 + 1) + (dlen (X 7))) = ((((spX X Y 7) ++ [47]) ++ dgs (X 7)).length : Int) := len_d wl_269
                    refine g_pop C rfl dX4_writeTo_36 rfl ?_
                    refine g_aload_n C 1 rfl dX4_writeTo_37 rfl ?_
                    refine g_bipush C (by decide) dX4_writeTo_38 rfl ?_
                    refine g_callV C (b := sb_) (mc := 1) (ms := 142) (rm := rm_K_app) (As := [vI 44]) (wc := [(sb_, .inr (0, [vR q9_270, vI 0, vI zm7, vI ((zc7 + 1) + (dlen (X 7)))])), (q9_270, cB E M9_271 u9_272)]) (wr := [(h, .inr (5, [vR xs, vR ys, vI n, vI df])), (xs, cI E 8 X), (ys, cI E 8 Y)]) (st := []) gX4_writeTo_J4_append_cf468 (q9 := 0) (ci := 0) rfl rfl rfl (K_app l E sb_ q9_270 zm7 ((zc7 + 1) + (dlen (X 7))) u9_272 M9_271 44 ((((spX X Y 7) ++ [47]) ++ dgs (X 7))) f_273 f_274 wt_277 wl_278 f_276 (by omega) ⟨by decide, by decide⟩) hyd_J4_append_cf468 rfl [3, 4] [0, 1, 2] rfl rfl rfl rfl rfl (by decide) ⟨rfl, rfl⟩ ⟨Nat.le_of_ble_eq_true rfl, Nat.le_of_ble_eq_true rfl, Nat.le_of_ble_eq_true rfl, Nat.le_of_ble_eq_true rfl⟩ (Nat.le_of_ble_eq_true rfl) dX4_writeTo_40 (rfl : _ = 30) (rfl : _ = 4260) rfl ?_
                    rintro _ _ ⟨q9_279, M9_280, u9_281, rfl, rfl, f_282, f_283, f_284, f_285⟩
                    refine g_is (ws' := [(h, .inr (5, [vR xs, vR ys, vI n, vI df])), (xs, cI E 8 X), (ys, cI E 8 Y), (sb_, .inr (0, [vR q9_279, vI 0, vI zm7, vI (((zc7 + 1) + (dlen (X 7))) + 1)])), (q9_279, cB E M9_280 u9_281)]) (st' := [vR sb_]) rfl rfl ?_
                    have wt_286 : TX u9_281 ((((spX X Y 7) ++ [47]) ++ dgs (X 7)) ++ [44]) := f_284
                    have wl_287 : (((zc7 + 1) + (dlen (X 7))) + 1) = (((((spX X Y 7) ++ [47]) ++ dgs (X 7)) ++ [44]).length : Int) := len_1 wl_278
                    refine g_pop C rfl dX4_writeTo_43 rfl ?_
                    refine g_aload_n C 1 rfl dX4_writeTo_44 rfl ?_
                    refine g_aload_n C 0 rfl dX4_writeTo_45 rfl ?_
                    refine g_get C 0 fd_X4_writeTo_15 rfl rfl rfl dX4_writeTo_46 rfl ?_
                    refine g_iload_n C 2 rfl dX4_writeTo_49 rfl ?_
                    refine g_iald C 2 rfl (by decide) (by decide) (by decide) rfl dX4_writeTo_50 rfl ?_
                    refine g_callV C (b := sb_) (mc := 1) (ms := 142) (rm := rm_K_appI) (As := [vI (Y 7)]) (wc := [(sb_, .inr (0, [vR q9_279, vI 0, vI zm7, vI (((zc7 + 1) + (dlen (X 7))) + 1)])), (q9_279, cB E M9_280 u9_281)]) (wr := [(h, .inr (5, [vR xs, vR ys, vI n, vI df])), (xs, cI E 8 X), (ys, cI E 8 Y)]) (st := []) gX4_writeTo_J4_append_bf812 (q9 := 0) (ci := 0) rfl rfl rfl (K_appI l E sb_ q9_279 zm7 (((zc7 + 1) + (dlen (X 7))) + 1) u9_281 M9_280 (Y 7) (((((spX X Y 7) ++ [47]) ++ dgs (X 7)) ++ [44])) f_282 f_283 wt_286 wl_287 f_285 (by omega) (hY 7 (by decide) (by decide))) hyd_J4_append_bf812 rfl [3, 4] [0, 1, 2] rfl rfl rfl rfl rfl (by decide) ⟨rfl, rfl⟩ ⟨Nat.le_of_ble_eq_true rfl, Nat.le_of_ble_eq_true rfl, Nat.le_of_ble_eq_true rfl, Nat.le_of_ble_eq_true rfl⟩ (Nat.le_of_ble_eq_true rfl) dX4_writeTo_51 (rfl : _ = 31) (rfl : _ = 4402) rfl ?_
                    rintro _ _ ⟨q9_288, M9_289, u9_290, rfl, rfl, f_291, f_292, f_293, f_294⟩
                    refine g_is (ws' := [(h, .inr (5, [vR xs, vR ys, vI n, vI df])), (xs, cI E 8 X), (ys, cI E 8 Y), (sb_, .inr (0, [vR q9_288, vI 0, vI zm7, vI ((((zc7 + 1) + (dlen (X 7))) + 1) + (dlen (Y 7)))])), (q9_288, cB E M9_289 u9_290)]) (st' := [vR sb_]) rfl rfl ?_
                    have wt_295 : TX u9_290 (spX X Y 8) := f_293
                    have wl_296 : ((((zc7 + 1) + (dlen (X 7))) + 1) + (dlen (Y 7))) = ((spX X Y 8).length : Int) := len_d wl_287
                    have wb8 := spX_b X Y 8
                    refine g_pop C rfl dX4_writeTo_54 rfl ?_
                    refine g_iinc C (r := 8) (lv' := [(0, vR h), (1, vR sb_), (2, vI 8)]) 2 [1, 2, 0] rfl (by decide) (by decide) rfl rfl dX4_writeTo_55 rfl ?_
                    refine g_goto C (pc' := 7) dX4_writeTo_58 (by decide) ?_
                    have hL_7_8 : ∀ (zb8 : Nat) (zN8 : Nat) (zm8 : Int) (zc8 : Int) (zu8 : Int → Int) (zC8 : CP zN8) (zB8 : BX zN8 zu8) (zT8 : TX zu8 (spX X Y 8)) (zl8 : zc8 = ((spX X Y 8).length : Int)) (zn8 : zc8 ≤ (zN8 : Int)), G p9 l e9 rm_K_writeTo s9 m9 args9 below9 meth9 c9 (RQ E (fun v9 w9 => ∃ (q9 : Nat) (M9 : Nat) (m9 : Int) (k9 : Int) (u9 : Int → Int), v9 = none ∧ w9 = [(h, .inr (5, [vR xs, vR ys, vI n, vI df])), (xs, cI E 8 X), (ys, cI E 8 Y), (sb_, .inr (0, [vR q9, vI 0, vI m9, vI k9])), (q9, cB E M9 u9)] ∧ CP M9 ∧ BX M9 u9 ∧ TX u9 (spX X Y (Int.toNat n)) ∧ k9 = ((spX X Y (Int.toNat n)).length : Int) ∧ k9 ≤ (M9 : Int) ∧ 0 ≤ k9 ∧ k9 ≤ 112) A9 below9 args9 s9 32 4544) E A9 3 31 4402 [(h, .inr (5, [vR xs, vR ys, vI n, vI df])), (xs, cI E 8 X), (ys, cI E 8 Y), (sb_, .inr (0, [vR zb8, vI 0, vI zm8, vI zc8])), (zb8, cB E zN8 zu8)] [(0, vR h), (1, vR sb_), (2, vI 8)] 7 [] := by
                      intro zb8 zN8 zm8 zc8 zu8 zC8 zB8 zT8 zl8 zn8
                      refine g_iload_n C 2 rfl dX4_writeTo_7 rfl ?_
                      refine g_aload_n C 0 rfl dX4_writeTo_8 rfl ?_
                      refine g_get C 0 fd_X4_writeTo_28 rfl rfl rfl dX4_writeTo_9 rfl ?_
                      refine g_icmp_ge C (tgt := 61) ⟨by decide, by decide⟩ ⟨by omega, by omega⟩ dX4_writeTo_12 (by decide) rfl (fun c_297 => ?_) (fun c_297 => ?_)
                      · have en : Int.toNat n = 8 := by omega
                        exact g_vret C hr (Nat.le_of_ble_eq_true rfl) (Nat.le_of_ble_eq_true rfl) dX4_writeTo_61 ⟨zb8, zN8, zm8, zc8, zu8, rfl, rfl, (by exact zC8), (by exact zB8), (by rw [en]; exact zT8), (by rw [en]; exact zl8), (by omega), (by omega)⟩
                      exfalso; omega
                    exact hL_7_8 q9_288 M9_289 zm7 ((((zc7 + 1) + (dlen (X 7))) + 1) + (dlen (Y 7))) u9_290 f_291 f_292 wt_295 wl_296 f_294
                  exact hL_7_7 q9_250 M9_251 zm6 ((((zc6 + 1) + (dlen (X 6))) + 1) + (dlen (Y 6))) u9_252 f_253 f_254 wt_257 wl_258 f_256
                exact hL_7_6 q9_212 M9_213 zm5 ((((zc5 + 1) + (dlen (X 5))) + 1) + (dlen (Y 5))) u9_214 f_215 f_216 wt_219 wl_220 f_218
              exact hL_7_5 q9_174 M9_175 zm4 ((((zc4 + 1) + (dlen (X 4))) + 1) + (dlen (Y 4))) u9_176 f_177 f_178 wt_181 wl_182 f_180
            exact hL_7_4 q9_136 M9_137 zm3 ((((zc3 + 1) + (dlen (X 3))) + 1) + (dlen (Y 3))) u9_138 f_139 f_140 wt_143 wl_144 f_142
          exact hL_7_3 q9_98 M9_99 zm2 ((((zc2 + 1) + (dlen (X 2))) + 1) + (dlen (Y 2))) u9_100 f_101 f_102 wt_105 wl_106 f_104
        exact hL_7_2 q9_60 M9_61 zm1 ((((zc1 + 1) + (dlen (X 1))) + 1) + (dlen (Y 1))) u9_62 f_63 f_64 wt_67 wl_68 f_66
      exact hL_7_1 q9_22 M9_23 zm0 (((zc0 + (dlen (X 0))) + 1) + (dlen (Y 0))) u9_24 f_25 f_26 wt_29 wl_30 f_28
    exact absurd c_3 (by decide)
  exact hL_7_0 b N m9_1 0 t hC hb (TX_0 t) rfl (by omega)
