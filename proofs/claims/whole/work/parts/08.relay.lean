abbrev rm_K_isInSet : Room := { frames := 0, cells := 0, slots := 0, locals := 0 }
set_option maxHeartbeats 8000000 in
set_option maxRecDepth 100000 in
theorem K_isInSet (l : Launch) (E : Ev) (z s : Int) (hz : 0 ≤ z ∧ z ≤ 2) (hs : 0 ≤ s ∧ s ≤ 7) : Mc l yX10_isInSet wsX10_isInSet rm_K_isInSet E [vI z, vI s] [] 0 0 (fun v9 w9 => v9 = some (vI (bP (bt s z = 1))) ∧ w9 = []) := by
  refine Mc.intro (cc := cX10_isInSet) (maxL := 2) (ret := (some .boolean)) (lv0 := [(0, vI z), (1, vI s)]) (by decide +kernel) rfl rfl (Nat.le_of_ble_eq_true rfl) ?_
  intro p9 e9 s9 m9 args9 below9 meth9 c9 A9 C hr hmn
  have C : Cx p9 s9 m9 args9 meth9 c9 E A9 2 cX10_isInSet wsX10_isInSet RX10 := C
  refine g_iload_n C 1 rfl dX10_isInSet_0 rfl ?_
  refine g_iload_n C 0 rfl dX10_isInSet_1 rfl ?_
  refine g_ishr C (z := I32 (shrI s z)) (shr_I hs hz) dX10_isInSet_2 rfl ?_
  refine g_iconst C dX10_isInSet_3 rfl ?_
  refine g_iand C (z := I32 (bt s z)) (and1_I (shrI_r hs hz)) dX10_isInSet_4 rfl ?_
  have hb : 0 ≤ bt s z ∧ bt s z ≤ 1 := by unfold bt; omega
  refine g_iconst C dX10_isInSet_5 rfl ?_
  refine g_icmp_ne C (tgt := 13) ⟨by omega, by omega⟩ ⟨by decide, by decide⟩ dX10_isInSet_6 (by decide) rfl (fun c_1 => ?_) (fun c_1 => ?_)
  · refine g_iconst C dX10_isInSet_13 rfl ?_
    refine g_top (v' := vI (bP (bt s z = 1))) (congrArg (fun z_ : Int => vI z_) (show (bP (bt s z = 1)) = 0 by first | exact bP_t (by first | assumption | omega) | exact bP_f (by first | assumption | omega))) ?_
    exact g_iret C hr (nrZ _) (Nat.le_of_ble_eq_true rfl) (Nat.le_of_ble_eq_true rfl) dX10_isInSet_14 ⟨rfl, rfl⟩
  refine g_iconst C dX10_isInSet_9 rfl ?_
  refine g_goto C (pc' := 14) dX10_isInSet_10 (by decide) ?_
  refine g_top (v' := vI (bP (bt s z = 1))) (congrArg (fun z_ : Int => vI z_) (show (bP (bt s z = 1)) = 1 by first | exact bP_t (by first | assumption | omega) | exact bP_f (by first | assumption | omega))) ?_
  exact g_iret C hr (nrZ _) (Nat.le_of_ble_eq_true rfl) (Nat.le_of_ble_eq_true rfl) dX10_isInSet_14 ⟨rfl, rfl⟩

abbrev rm_K_asNumber : Room := { frames := 0, cells := 0, slots := 0, locals := 0 }
set_option maxHeartbeats 8000000 in
set_option maxRecDepth 100000 in
theorem K_asNumber (l : Launch) (E : Ev) (x : Int) (hx : x = 0 ∨ x = 1) : Mc l yX10_asNumber wsX10_asNumber rm_K_asNumber E [vI x] [] 0 0 (fun v9 w9 => v9 = some (vI x) ∧ w9 = []) := by
  refine Mc.intro (cc := cX10_asNumber) (maxL := 1) (ret := (some .int)) (lv0 := [(0, vI x)]) (by decide +kernel) rfl rfl (Nat.le_of_ble_eq_true rfl) ?_
  intro p9 e9 s9 m9 args9 below9 meth9 c9 A9 C hr hmn
  have C : Cx p9 s9 m9 args9 meth9 c9 E A9 1 cX10_asNumber wsX10_asNumber RX10 := C
  refine g_iload_n C 0 rfl dX10_asNumber_0 rfl ?_
  refine g_if_eq C (tgt := 8) ⟨by omega, by omega⟩ dX10_asNumber_1 (by decide) rfl (fun c_1 => ?_) (fun c_1 => ?_)
  · refine g_iconst C dX10_asNumber_8 rfl ?_
    refine g_top (v' := vI x) (congrArg (fun z_ : Int => vI z_) (show x = 0 by omega)) ?_
    exact g_iret C hr rfl (Nat.le_of_ble_eq_true rfl) (Nat.le_of_ble_eq_true rfl) dX10_asNumber_9 ⟨rfl, rfl⟩
  refine g_iconst C dX10_asNumber_4 rfl ?_
  refine g_goto C (pc' := 9) dX10_asNumber_5 (by decide) ?_
  refine g_top (v' := vI x) (congrArg (fun z_ : Int => vI z_) (show x = 1 by omega)) ?_
  exact g_iret C hr rfl (Nat.le_of_ble_eq_true rfl) (Nat.le_of_ble_eq_true rfl) dX10_asNumber_9 ⟨rfl, rfl⟩

theorem in_X6_estimateFrom_X6 : ∀ w ∈ u_ws RX6 TX6 18, w ∈ wsX6_estimateFrom := by decide +kernel
theorem fd_X6_estimateFrom_47 : fdk wsX6_estimateFrom RX6 47 "ZoneRelay$Relay" RX6 TX6 18 5 := ⟨in_X6_estimateFrom_X6, by decide +kernel, by decide, rfl⟩
theorem fd_X6_estimateFrom_130 : fdk wsX6_estimateFrom RX6 130 "ZoneRelay$Relay" RX6 TX6 18 17 := ⟨in_X6_estimateFrom_X6, by decide +kernel, by decide, rfl⟩
theorem in_X6_estimateFrom_X3 : ∀ w ∈ u_ws RX3 TX3 4, w ∈ wsX6_estimateFrom := by decide +kernel
theorem fd_X6_estimateFrom_171 : fdk wsX6_estimateFrom RX6 171 "ZoneRelay$Phasors" RX3 TX3 4 0 := ⟨in_X6_estimateFrom_X3, by decide +kernel, by decide, rfl⟩
theorem fd_X6_estimateFrom_174 : fdk wsX6_estimateFrom RX6 174 "ZoneRelay$Phasors" RX3 TX3 4 1 := ⟨in_X6_estimateFrom_X3, by decide +kernel, by decide, rfl⟩
theorem hyd_X8_take : yX8_take.cls ≠ "java/lang/invoke/MethodHandle" ∧ yX8_take.cls ≠ "java/lang/invoke/VarHandle" ∧ (parseMethodDescriptor yX8_take.desc).map (fun d => d.parameters.length) = some 3 := by decide +kernel
theorem fd_X6_estimateFrom_51 : fdk wsX6_estimateFrom RX6 51 "ZoneRelay$Relay" RX6 TX6 18 6 := ⟨in_X6_estimateFrom_X6, by decide +kernel, by decide, rfl⟩
theorem fd_X6_estimateFrom_181 : fdk wsX6_estimateFrom RX6 181 "ZoneRelay$Phasors" RX3 TX3 4 2 := ⟨in_X6_estimateFrom_X3, by decide +kernel, by decide, rfl⟩
theorem fd_X6_estimateFrom_184 : fdk wsX6_estimateFrom RX6 184 "ZoneRelay$Phasors" RX3 TX3 4 3 := ⟨in_X6_estimateFrom_X3, by decide +kernel, by decide, rfl⟩
theorem fd_X6_estimateFrom_57 : fdk wsX6_estimateFrom RX6 57 "ZoneRelay$Relay" RX6 TX6 18 7 := ⟨in_X6_estimateFrom_X6, by decide +kernel, by decide, rfl⟩
theorem hyd_X8_estimateA : yX8_estimateA.cls ≠ "java/lang/invoke/MethodHandle" ∧ yX8_estimateA.cls ≠ "java/lang/invoke/VarHandle" ∧ (parseMethodDescriptor yX8_estimateA.desc).map (fun d => d.parameters.length) = some 0 := by decide +kernel
theorem hyd_X8_estimateB : yX8_estimateB.cls ≠ "java/lang/invoke/MethodHandle" ∧ yX8_estimateB.cls ≠ "java/lang/invoke/VarHandle" ∧ (parseMethodDescriptor yX8_estimateB.desc).map (fun d => d.parameters.length) = some 0 := by decide +kernel
abbrev rm_K_estimate : Room := { frames := 2, cells := 0, slots := 0, locals := 51 }
set_option maxHeartbeats 8000000 in
set_option maxRecDepth 100000 in
theorem K_estimate (l : Launch) (E : Ev) (R : Nat → Nat) (ma mb ag bt_ sw il tr tm : Int) (g : Nat) (V U : Int → Int) (va vb ia ib e0 e1 e2 e3 : Int) (ht : 0 ≤ tm ∧ tm < 2000000000) (bva : cb va) (bvb : cb vb) (bia : cb ia) (bib : cb ib) (hv : ∀ k : Int, 0 ≤ k → k < 24 → -40000 ≤ V k ∧ V k ≤ 40000) (hc : ∀ k : Int, 0 ≤ k → k < 24 → -40000 ≤ U k ∧ U k ≤ 40000) : Mc l yX6_estimateFrom wsX6_estimateFrom rm_K_estimate E [vR (R 0), vR g] [((R 0), .inr (7, [vR (R 1), vR (R 17), vR (R 18), vR (R 22), vR (R 25), vR (R 29), vR (R 31), vR (R 33), vR (R 34), vR (R 35), vI ma, vI mb, vI ag, vI bt_, vI sw, vI il, vI tr, vI tm])), ((R 29), .inr (9, [vR (R 30), vL (wsum V cosT 24), vL (wsum V sinT 24)])), ((R 30), cI E 24 V), ((R 31), .inr (9, [vR (R 32), vL (wsum U cosT 24), vL (wsum U sinT 24)])), ((R 32), cI E 24 U), ((R 33), .inr (4, [vI e0, vI e1, vI e2, vI e3])), (g, .inr (4, [vI va, vI vb, vI ia, vI ib]))] 0 0 (fun v9 w9 => v9 = none ∧ w9 = [((R 0), .inr (7, [vR (R 1), vR (R 17), vR (R 18), vR (R 22), vR (R 25), vR (R 29), vR (R 31), vR (R 33), vR (R 34), vR (R 35), vI ma, vI mb, vI ag, vI bt_, vI sw, vI il, vI tr, vI tm])), ((R 29), .inr (9, [vR (R 30), vL (wsum (ua V (Int.tmod tm 24) (smpF tm va vb)) cosT 24), vL (wsum (ua V (Int.tmod tm 24) (smpF tm va vb)) sinT 24)])), ((R 30), cI E 24 (ua V (Int.tmod tm 24) (smpF tm va vb))), ((R 31), .inr (9, [vR (R 32), vL (wsum (ua U (Int.tmod tm 24) (smpF tm ia ib)) cosT 24), vL (wsum (ua U (Int.tmod tm 24) (smpF tm ia ib)) sinT 24)])), ((R 32), cI E 24 (ua U (Int.tmod tm 24) (smpF tm ia ib))), ((R 33), .inr (4, [vI (eA (ua V (Int.tmod tm 24) (smpF tm va vb))), vI (eB (ua V (Int.tmod tm 24) (smpF tm va vb))), vI (eA (ua U (Int.tmod tm 24) (smpF tm ia ib))), vI (eB (ua U (Int.tmod tm 24) (smpF tm ia ib)))])), (g, .inr (4, [vI va, vI vb, vI ia, vI ib]))]) := by
  refine Mc.intro (cc := cX6_estimateFrom) (maxL := 2) (ret := none) (lv0 := [(0, vR (R 0)), (1, vR g)]) (by decide +kernel) rfl rfl (Nat.le_of_ble_eq_true rfl) ?_
  intro p9 e9 s9 m9 args9 below9 meth9 c9 A9 C hr hmn
  have C : Cx p9 s9 m9 args9 meth9 c9 E A9 2 cX6_estimateFrom wsX6_estimateFrom RX6 := C
  have htr := tmod_r (a := tm) (b := 24) (by omega) (by decide)
  have hv2 := win_b hv htr.1 (smpF_b (tm := tm) bva bvb)
  have hc2 := win_b hc htr.1 (smpF_b (tm := tm) bia bib)
  refine g_aload_n C 0 rfl dX6_estimateFrom_0 rfl ?_
  refine g_get C 0 fd_X6_estimateFrom_47 rfl rfl rfl dX6_estimateFrom_1 rfl ?_
  refine g_aload_n C 0 rfl dX6_estimateFrom_4 rfl ?_
  refine g_get C 0 fd_X6_estimateFrom_130 rfl rfl rfl dX6_estimateFrom_5 rfl ?_
  refine g_aload_n C 1 rfl dX6_estimateFrom_8 rfl ?_
  refine g_get C 6 fd_X6_estimateFrom_171 rfl rfl rfl dX6_estimateFrom_9 rfl ?_
  refine g_aload_n C 1 rfl dX6_estimateFrom_12 rfl ?_
  refine g_get C 6 fd_X6_estimateFrom_174 rfl rfl rfl dX6_estimateFrom_13 rfl ?_
  refine g_callV C (b := (R 29)) (As := [vI tm, vI va, vI vb]) (wc := [((R 29), .inr (9, [vR (R 30), vL (wsum V cosT 24), vL (wsum V sinT 24)])), ((R 30), cI E 24 V)]) (wr := [((R 0), .inr (7, [vR (R 1), vR (R 17), vR (R 18), vR (R 22), vR (R 25), vR (R 29), vR (R 31), vR (R 33), vR (R 34), vR (R 35), vI ma, vI mb, vI ag, vI bt_, vI sw, vI il, vI tr, vI tm])), ((R 31), .inr (9, [vR (R 32), vL (wsum U cosT 24), vL (wsum U sinT 24)])), ((R 32), cI E 24 U), ((R 33), .inr (4, [vI e0, vI e1, vI e2, vI e3])), (g, .inr (4, [vI va, vI vb, vI ia, vI ib]))]) (st := []) gX6_estimateFrom_X8_take (q9 := 0) (ci := 9) rfl rfl rfl (K_win_take l E (R 29) (R 30) V tm va vb ht (by assumption) (by assumption) hv) hyd_X8_take rfl [1, 2] [0, 3, 4, 5, 6] rfl rfl rfl rfl rfl (by decide) ⟨rfl, rfl⟩ ⟨Nat.le_of_ble_eq_true rfl, Nat.le_of_ble_eq_true rfl, Nat.le_of_ble_eq_true rfl, Nat.le_of_ble_eq_true rfl⟩ (Nat.le_of_ble_eq_true rfl) dX6_estimateFrom_16 (rfl : _ = 0) (rfl : _ = 0) rfl ?_
  rintro _ _ ⟨rfl, rfl⟩
  refine g_is (ws' := [((R 0), .inr (7, [vR (R 1), vR (R 17), vR (R 18), vR (R 22), vR (R 25), vR (R 29), vR (R 31), vR (R 33), vR (R 34), vR (R 35), vI ma, vI mb, vI ag, vI bt_, vI sw, vI il, vI tr, vI tm])), ((R 31), .inr (9, [vR (R 32), vL (wsum U cosT 24), vL (wsum U sinT 24)])), ((R 32), cI E 24 U), ((R 33), .inr (4, [vI e0, vI e1, vI e2, vI e3])), (g, .inr (4, [vI va, vI vb, vI ia, vI ib])), ((R 29), .inr (9, [vR (R 30), vL (wsum (ua V (Int.tmod tm 24) (smpF tm va vb)) cosT 24), vL (wsum (ua V (Int.tmod tm 24) (smpF tm va vb)) sinT 24)])), ((R 30), cI E 24 (ua V (Int.tmod tm 24) (smpF tm va vb)))]) (st' := []) rfl rfl ?_
  refine g_sub (ws' := [((R 0), .inr (7, [vR (R 1), vR (R 17), vR (R 18), vR (R 22), vR (R 25), vR (R 29), vR (R 31), vR (R 33), vR (R 34), vR (R 35), vI ma, vI mb, vI ag, vI bt_, vI sw, vI il, vI tr, vI tm])), ((R 29), .inr (9, [vR (R 30), vL (wsum (ua V (Int.tmod tm 24) (smpF tm va vb)) cosT 24), vL (wsum (ua V (Int.tmod tm 24) (smpF tm va vb)) sinT 24)])), ((R 30), cI E 24 (ua V (Int.tmod tm 24) (smpF tm va vb))), ((R 31), .inr (9, [vR (R 32), vL (wsum U cosT 24), vL (wsum U sinT 24)])), ((R 32), cI E 24 U), ((R 33), .inr (4, [vI e0, vI e1, vI e2, vI e3])), (g, .inr (4, [vI va, vI vb, vI ia, vI ib]))]) [0, 5, 6, 1, 2, 3, 4] rfl rfl rfl ?_
  refine g_aload_n C 0 rfl dX6_estimateFrom_19 rfl ?_
  refine g_get C 0 fd_X6_estimateFrom_51 rfl rfl rfl dX6_estimateFrom_20 rfl ?_
  refine g_aload_n C 0 rfl dX6_estimateFrom_23 rfl ?_
  refine g_get C 0 fd_X6_estimateFrom_130 rfl rfl rfl dX6_estimateFrom_24 rfl ?_
  refine g_aload_n C 1 rfl dX6_estimateFrom_27 rfl ?_
  refine g_get C 6 fd_X6_estimateFrom_181 rfl rfl rfl dX6_estimateFrom_28 rfl ?_
  refine g_aload_n C 1 rfl dX6_estimateFrom_31 rfl ?_
  refine g_get C 6 fd_X6_estimateFrom_184 rfl rfl rfl dX6_estimateFrom_32 rfl ?_
  refine g_callV C (b := (R 31)) (As := [vI tm, vI ia, vI ib]) (wc := [((R 31), .inr (9, [vR (R 32), vL (wsum U cosT 24), vL (wsum U sinT 24)])), ((R 32), cI E 24 U)]) (wr := [((R 0), .inr (7, [vR (R 1), vR (R 17), vR (R 18), vR (R 22), vR (R 25), vR (R 29), vR (R 31), vR (R 33), vR (R 34), vR (R 35), vI ma, vI mb, vI ag, vI bt_, vI sw, vI il, vI tr, vI tm])), ((R 29), .inr (9, [vR (R 30), vL (wsum (ua V (Int.tmod tm 24) (smpF tm va vb)) cosT 24), vL (wsum (ua V (Int.tmod tm 24) (smpF tm va vb)) sinT 24)])), ((R 30), cI E 24 (ua V (Int.tmod tm 24) (smpF tm va vb))), ((R 33), .inr (4, [vI e0, vI e1, vI e2, vI e3])), (g, .inr (4, [vI va, vI vb, vI ia, vI ib]))]) (st := []) gX6_estimateFrom_X8_take (q9 := 0) (ci := 9) rfl rfl rfl (K_win_take l E (R 31) (R 32) U tm ia ib ht (by assumption) (by assumption) hc) hyd_X8_take rfl [3, 4] [0, 1, 2, 5, 6] rfl rfl rfl rfl rfl (by decide) ⟨rfl, rfl⟩ ⟨Nat.le_of_ble_eq_true rfl, Nat.le_of_ble_eq_true rfl, Nat.le_of_ble_eq_true rfl, Nat.le_of_ble_eq_true rfl⟩ (Nat.le_of_ble_eq_true rfl) dX6_estimateFrom_35 (rfl : _ = 0) (rfl : _ = 0) rfl ?_
  rintro _ _ ⟨rfl, rfl⟩
  refine g_is (ws' := [((R 0), .inr (7, [vR (R 1), vR (R 17), vR (R 18), vR (R 22), vR (R 25), vR (R 29), vR (R 31), vR (R 33), vR (R 34), vR (R 35), vI ma, vI mb, vI ag, vI bt_, vI sw, vI il, vI tr, vI tm])), ((R 29), .inr (9, [vR (R 30), vL (wsum (ua V (Int.tmod tm 24) (smpF tm va vb)) cosT 24), vL (wsum (ua V (Int.tmod tm 24) (smpF tm va vb)) sinT 24)])), ((R 30), cI E 24 (ua V (Int.tmod tm 24) (smpF tm va vb))), ((R 33), .inr (4, [vI e0, vI e1, vI e2, vI e3])), (g, .inr (4, [vI va, vI vb, vI ia, vI ib])), ((R 31), .inr (9, [vR (R 32), vL (wsum (ua U (Int.tmod tm 24) (smpF tm ia ib)) cosT 24), vL (wsum (ua U (Int.tmod tm 24) (smpF tm ia ib)) sinT 24)])), ((R 32), cI E 24 (ua U (Int.tmod tm 24) (smpF tm ia ib)))]) (st' := []) rfl rfl ?_
  refine g_sub (ws' := [((R 0), .inr (7, [vR (R 1), vR (R 17), vR (R 18), vR (R 22), vR (R 25), vR (R 29), vR (R 31), vR (R 33), vR (R 34), vR (R 35), vI ma, vI mb, vI ag, vI bt_, vI sw, vI il, vI tr, vI tm])), ((R 29), .inr (9, [vR (R 30), vL (wsum (ua V (Int.tmod tm 24) (smpF tm va vb)) cosT 24), vL (wsum (ua V (Int.tmod tm 24) (smpF tm va vb)) sinT 24)])), ((R 30), cI E 24 (ua V (Int.tmod tm 24) (smpF tm va vb))), ((R 31), .inr (9, [vR (R 32), vL (wsum (ua U (Int.tmod tm 24) (smpF tm ia ib)) cosT 24), vL (wsum (ua U (Int.tmod tm 24) (smpF tm ia ib)) sinT 24)])), ((R 32), cI E 24 (ua U (Int.tmod tm 24) (smpF tm ia ib))), ((R 33), .inr (4, [vI e0, vI e1, vI e2, vI e3])), (g, .inr (4, [vI va, vI vb, vI ia, vI ib]))]) [0, 1, 2, 5, 6, 3, 4] rfl rfl rfl ?_
  refine g_aload_n C 0 rfl dX6_estimateFrom_38 rfl ?_
  refine g_get C 0 fd_X6_estimateFrom_57 rfl rfl rfl dX6_estimateFrom_39 rfl ?_
  refine g_aload_n C 0 rfl dX6_estimateFrom_42 rfl ?_
  refine g_get C 0 fd_X6_estimateFrom_47 rfl rfl rfl dX6_estimateFrom_43 rfl ?_
  refine g_callV C (b := (R 29)) (As := []) (wc := [((R 29), .inr (9, [vR (R 30), vL (wsum (ua V (Int.tmod tm 24) (smpF tm va vb)) cosT 24), vL (wsum (ua V (Int.tmod tm 24) (smpF tm va vb)) sinT 24)]))]) (wr := [((R 0), .inr (7, [vR (R 1), vR (R 17), vR (R 18), vR (R 22), vR (R 25), vR (R 29), vR (R 31), vR (R 33), vR (R 34), vR (R 35), vI ma, vI mb, vI ag, vI bt_, vI sw, vI il, vI tr, vI tm])), ((R 30), cI E 24 (ua V (Int.tmod tm 24) (smpF tm va vb))), ((R 31), .inr (9, [vR (R 32), vL (wsum (ua U (Int.tmod tm 24) (smpF tm ia ib)) cosT 24), vL (wsum (ua U (Int.tmod tm 24) (smpF tm ia ib)) sinT 24)])), ((R 32), cI E 24 (ua U (Int.tmod tm 24) (smpF tm ia ib))), ((R 33), .inr (4, [vI e0, vI e1, vI e2, vI e3])), (g, .inr (4, [vI va, vI vb, vI ia, vI ib]))]) (st := [vR (R 33)]) gX6_estimateFrom_X8_estimateA (q9 := 0) (ci := 9) rfl rfl rfl (K_win_A l E (R 29) (R 30) (ua V (Int.tmod tm 24) (smpF tm va vb)) (by first | assumption | omega)) hyd_X8_estimateA rfl [1] [0, 2, 3, 4, 5, 6] rfl rfl rfl rfl rfl (by decide) ⟨rfl, rfl⟩ ⟨Nat.le_of_ble_eq_true rfl, Nat.le_of_ble_eq_true rfl, Nat.le_of_ble_eq_true rfl, Nat.le_of_ble_eq_true rfl⟩ (Nat.le_of_ble_eq_true rfl) dX6_estimateFrom_46 (rfl : _ = 0) (rfl : _ = 0) rfl ?_
  rintro _ _ ⟨rfl, rfl⟩
  refine g_is (ws' := [((R 0), .inr (7, [vR (R 1), vR (R 17), vR (R 18), vR (R 22), vR (R 25), vR (R 29), vR (R 31), vR (R 33), vR (R 34), vR (R 35), vI ma, vI mb, vI ag, vI bt_, vI sw, vI il, vI tr, vI tm])), ((R 30), cI E 24 (ua V (Int.tmod tm 24) (smpF tm va vb))), ((R 31), .inr (9, [vR (R 32), vL (wsum (ua U (Int.tmod tm 24) (smpF tm ia ib)) cosT 24), vL (wsum (ua U (Int.tmod tm 24) (smpF tm ia ib)) sinT 24)])), ((R 32), cI E 24 (ua U (Int.tmod tm 24) (smpF tm ia ib))), ((R 33), .inr (4, [vI e0, vI e1, vI e2, vI e3])), (g, .inr (4, [vI va, vI vb, vI ia, vI ib])), ((R 29), .inr (9, [vR (R 30), vL (wsum (ua V (Int.tmod tm 24) (smpF tm va vb)) cosT 24), vL (wsum (ua V (Int.tmod tm 24) (smpF tm va vb)) sinT 24)]))]) (st' := [vI (eA (ua V (Int.tmod tm 24) (smpF tm va vb))), vR (R 33)]) rfl rfl ?_
  refine g_sub (ws' := [((R 0), .inr (7, [vR (R 1), vR (R 17), vR (R 18), vR (R 22), vR (R 25), vR (R 29), vR (R 31), vR (R 33), vR (R 34), vR (R 35), vI ma, vI mb, vI ag, vI bt_, vI sw, vI il, vI tr, vI tm])), ((R 29), .inr (9, [vR (R 30), vL (wsum (ua V (Int.tmod tm 24) (smpF tm va vb)) cosT 24), vL (wsum (ua V (Int.tmod tm 24) (smpF tm va vb)) sinT 24)])), ((R 30), cI E 24 (ua V (Int.tmod tm 24) (smpF tm va vb))), ((R 31), .inr (9, [vR (R 32), vL (wsum (ua U (Int.tmod tm 24) (smpF tm ia ib)) cosT 24), vL (wsum (ua U (Int.tmod tm 24) (smpF tm ia ib)) sinT 24)])), ((R 32), cI E 24 (ua U (Int.tmod tm 24) (smpF tm ia ib))), ((R 33), .inr (4, [vI e0, vI e1, vI e2, vI e3])), (g, .inr (4, [vI va, vI vb, vI ia, vI ib]))]) [0, 6, 1, 2, 3, 4, 5] rfl rfl rfl ?_
  refine g_aload_n C 0 rfl dX6_estimateFrom_49 rfl ?_
  refine g_get C 0 fd_X6_estimateFrom_47 rfl rfl rfl dX6_estimateFrom_50 rfl ?_
  refine g_callV C (b := (R 29)) (As := []) (wc := [((R 29), .inr (9, [vR (R 30), vL (wsum (ua V (Int.tmod tm 24) (smpF tm va vb)) cosT 24), vL (wsum (ua V (Int.tmod tm 24) (smpF tm va vb)) sinT 24)]))]) (wr := [((R 0), .inr (7, [vR (R 1), vR (R 17), vR (R 18), vR (R 22), vR (R 25), vR (R 29), vR (R 31), vR (R 33), vR (R 34), vR (R 35), vI ma, vI mb, vI ag, vI bt_, vI sw, vI il, vI tr, vI tm])), ((R 30), cI E 24 (ua V (Int.tmod tm 24) (smpF tm va vb))), ((R 31), .inr (9, [vR (R 32), vL (wsum (ua U (Int.tmod tm 24) (smpF tm ia ib)) cosT 24), vL (wsum (ua U (Int.tmod tm 24) (smpF tm ia ib)) sinT 24)])), ((R 32), cI E 24 (ua U (Int.tmod tm 24) (smpF tm ia ib))), ((R 33), .inr (4, [vI e0, vI e1, vI e2, vI e3])), (g, .inr (4, [vI va, vI vb, vI ia, vI ib]))]) (st := [vI (eA (ua V (Int.tmod tm 24) (smpF tm va vb))), vR (R 33)]) gX6_estimateFrom_X8_estimateB (q9 := 0) (ci := 9) rfl rfl rfl (K_win_B l E (R 29) (R 30) (ua V (Int.tmod tm 24) (smpF tm va vb)) (by first | assumption | omega)) hyd_X8_estimateB rfl [1] [0, 2, 3, 4, 5, 6] rfl rfl rfl rfl rfl (by decide) ⟨rfl, rfl⟩ ⟨Nat.le_of_ble_eq_true rfl, Nat.le_of_ble_eq_true rfl, Nat.le_of_ble_eq_true rfl, Nat.le_of_ble_eq_true rfl⟩ (Nat.le_of_ble_eq_true rfl) dX6_estimateFrom_53 (rfl : _ = 0) (rfl : _ = 0) rfl ?_
  rintro _ _ ⟨rfl, rfl⟩
  refine g_is (ws' := [((R 0), .inr (7, [vR (R 1), vR (R 17), vR (R 18), vR (R 22), vR (R 25), vR (R 29), vR (R 31), vR (R 33), vR (R 34), vR (R 35), vI ma, vI mb, vI ag, vI bt_, vI sw, vI il, vI tr, vI tm])), ((R 30), cI E 24 (ua V (Int.tmod tm 24) (smpF tm va vb))), ((R 31), .inr (9, [vR (R 32), vL (wsum (ua U (Int.tmod tm 24) (smpF tm ia ib)) cosT 24), vL (wsum (ua U (Int.tmod tm 24) (smpF tm ia ib)) sinT 24)])), ((R 32), cI E 24 (ua U (Int.tmod tm 24) (smpF tm ia ib))), ((R 33), .inr (4, [vI e0, vI e1, vI e2, vI e3])), (g, .inr (4, [vI va, vI vb, vI ia, vI ib])), ((R 29), .inr (9, [vR (R 30), vL (wsum (ua V (Int.tmod tm 24) (smpF tm va vb)) cosT 24), vL (wsum (ua V (Int.tmod tm 24) (smpF tm va vb)) sinT 24)]))]) (st' := [vI (eB (ua V (Int.tmod tm 24) (smpF tm va vb))), vI (eA (ua V (Int.tmod tm 24) (smpF tm va vb))), vR (R 33)]) rfl rfl ?_
  refine g_sub (ws' := [((R 0), .inr (7, [vR (R 1), vR (R 17), vR (R 18), vR (R 22), vR (R 25), vR (R 29), vR (R 31), vR (R 33), vR (R 34), vR (R 35), vI ma, vI mb, vI ag, vI bt_, vI sw, vI il, vI tr, vI tm])), ((R 29), .inr (9, [vR (R 30), vL (wsum (ua V (Int.tmod tm 24) (smpF tm va vb)) cosT 24), vL (wsum (ua V (Int.tmod tm 24) (smpF tm va vb)) sinT 24)])), ((R 30), cI E 24 (ua V (Int.tmod tm 24) (smpF tm va vb))), ((R 31), .inr (9, [vR (R 32), vL (wsum (ua U (Int.tmod tm 24) (smpF tm ia ib)) cosT 24), vL (wsum (ua U (Int.tmod tm 24) (smpF tm ia ib)) sinT 24)])), ((R 32), cI E 24 (ua U (Int.tmod tm 24) (smpF tm ia ib))), ((R 33), .inr (4, [vI e0, vI e1, vI e2, vI e3])), (g, .inr (4, [vI va, vI vb, vI ia, vI ib]))]) [0, 6, 1, 2, 3, 4, 5] rfl rfl rfl ?_
  refine g_aload_n C 0 rfl dX6_estimateFrom_56 rfl ?_
  refine g_get C 0 fd_X6_estimateFrom_51 rfl rfl rfl dX6_estimateFrom_57 rfl ?_
  refine g_callV C (b := (R 31)) (As := []) (wc := [((R 31), .inr (9, [vR (R 32), vL (wsum (ua U (Int.tmod tm 24) (smpF tm ia ib)) cosT 24), vL (wsum (ua U (Int.tmod tm 24) (smpF tm ia ib)) sinT 24)]))]) (wr := [((R 0), .inr (7, [vR (R 1), vR (R 17), vR (R 18), vR (R 22), vR (R 25), vR (R 29), vR (R 31), vR (R 33), vR (R 34), vR (R 35), vI ma, vI mb, vI ag, vI bt_, vI sw, vI il, vI tr, vI tm])), ((R 29), .inr (9, [vR (R 30), vL (wsum (ua V (Int.tmod tm 24) (smpF tm va vb)) cosT 24), vL (wsum (ua V (Int.tmod tm 24) (smpF tm va vb)) sinT 24)])), ((R 30), cI E 24 (ua V (Int.tmod tm 24) (smpF tm va vb))), ((R 32), cI E 24 (ua U (Int.tmod tm 24) (smpF tm ia ib))), ((R 33), .inr (4, [vI e0, vI e1, vI e2, vI e3])), (g, .inr (4, [vI va, vI vb, vI ia, vI ib]))]) (st := [vI (eB (ua V (Int.tmod tm 24) (smpF tm va vb))), vI (eA (ua V (Int.tmod tm 24) (smpF tm va vb))), vR (R 33)]) gX6_estimateFrom_X8_estimateA (q9 := 0) (ci := 9) rfl rfl rfl (K_win_A l E (R 31) (R 32) (ua U (Int.tmod tm 24) (smpF tm ia ib)) (by first | assumption | omega)) hyd_X8_estimateA rfl [3] [0, 1, 2, 4, 5, 6] rfl rfl rfl rfl rfl (by decide) ⟨rfl, rfl⟩ ⟨Nat.le_of_ble_eq_true rfl, Nat.le_of_ble_eq_true rfl, Nat.le_of_ble_eq_true rfl, Nat.le_of_ble_eq_true rfl⟩ (Nat.le_of_ble_eq_true rfl) dX6_estimateFrom_60 (rfl : _ = 0) (rfl : _ = 0) rfl ?_
  rintro _ _ ⟨rfl, rfl⟩
  refine g_is (ws' := [((R 0), .inr (7, [vR (R 1), vR (R 17), vR (R 18), vR (R 22), vR (R 25), vR (R 29), vR (R 31), vR (R 33), vR (R 34), vR (R 35), vI ma, vI mb, vI ag, vI bt_, vI sw, vI il, vI tr, vI tm])), ((R 29), .inr (9, [vR (R 30), vL (wsum (ua V (Int.tmod tm 24) (smpF tm va vb)) cosT 24), vL (wsum (ua V (Int.tmod tm 24) (smpF tm va vb)) sinT 24)])), ((R 30), cI E 24 (ua V (Int.tmod tm 24) (smpF tm va vb))), ((R 32), cI E 24 (ua U (Int.tmod tm 24) (smpF tm ia ib))), ((R 33), .inr (4, [vI e0, vI e1, vI e2, vI e3])), (g, .inr (4, [vI va, vI vb, vI ia, vI ib])), ((R 31), .inr (9, [vR (R 32), vL (wsum (ua U (Int.tmod tm 24) (smpF tm ia ib)) cosT 24), vL (wsum (ua U (Int.tmod tm 24) (smpF tm ia ib)) sinT 24)]))]) (st' := [vI (eA (ua U (Int.tmod tm 24) (smpF tm ia ib))), vI (eB (ua V (Int.tmod tm 24) (smpF tm va vb))), vI (eA (ua V (Int.tmod tm 24) (smpF tm va vb))), vR (R 33)]) rfl rfl ?_
  refine g_sub (ws' := [((R 0), .inr (7, [vR (R 1), vR (R 17), vR (R 18), vR (R 22), vR (R 25), vR (R 29), vR (R 31), vR (R 33), vR (R 34), vR (R 35), vI ma, vI mb, vI ag, vI bt_, vI sw, vI il, vI tr, vI tm])), ((R 29), .inr (9, [vR (R 30), vL (wsum (ua V (Int.tmod tm 24) (smpF tm va vb)) cosT 24), vL (wsum (ua V (Int.tmod tm 24) (smpF tm va vb)) sinT 24)])), ((R 30), cI E 24 (ua V (Int.tmod tm 24) (smpF tm va vb))), ((R 31), .inr (9, [vR (R 32), vL (wsum (ua U (Int.tmod tm 24) (smpF tm ia ib)) cosT 24), vL (wsum (ua U (Int.tmod tm 24) (smpF tm ia ib)) sinT 24)])), ((R 32), cI E 24 (ua U (Int.tmod tm 24) (smpF tm ia ib))), ((R 33), .inr (4, [vI e0, vI e1, vI e2, vI e3])), (g, .inr (4, [vI va, vI vb, vI ia, vI ib]))]) [0, 1, 2, 6, 3, 4, 5] rfl rfl rfl ?_
  refine g_aload_n C 0 rfl dX6_estimateFrom_63 rfl ?_
  refine g_get C 0 fd_X6_estimateFrom_51 rfl rfl rfl dX6_estimateFrom_64 rfl ?_
  refine g_callV C (b := (R 31)) (As := []) (wc := [((R 31), .inr (9, [vR (R 32), vL (wsum (ua U (Int.tmod tm 24) (smpF tm ia ib)) cosT 24), vL (wsum (ua U (Int.tmod tm 24) (smpF tm ia ib)) sinT 24)]))]) (wr := [((R 0), .inr (7, [vR (R 1), vR (R 17), vR (R 18), vR (R 22), vR (R 25), vR (R 29), vR (R 31), vR (R 33), vR (R 34), vR (R 35), vI ma, vI mb, vI ag, vI bt_, vI sw, vI il, vI tr, vI tm])), ((R 29), .inr (9, [vR (R 30), vL (wsum (ua V (Int.tmod tm 24) (smpF tm va vb)) cosT 24), vL (wsum (ua V (Int.tmod tm 24) (smpF tm va vb)) sinT 24)])), ((R 30), cI E 24 (ua V (Int.tmod tm 24) (smpF tm va vb))), ((R 32), cI E 24 (ua U (Int.tmod tm 24) (smpF tm ia ib))), ((R 33), .inr (4, [vI e0, vI e1, vI e2, vI e3])), (g, .inr (4, [vI va, vI vb, vI ia, vI ib]))]) (st := [vI (eA (ua U (Int.tmod tm 24) (smpF tm ia ib))), vI (eB (ua V (Int.tmod tm 24) (smpF tm va vb))), vI (eA (ua V (Int.tmod tm 24) (smpF tm va vb))), vR (R 33)]) gX6_estimateFrom_X8_estimateB (q9 := 0) (ci := 9) rfl rfl rfl (K_win_B l E (R 31) (R 32) (ua U (Int.tmod tm 24) (smpF tm ia ib)) (by first | assumption | omega)) hyd_X8_estimateB rfl [3] [0, 1, 2, 4, 5, 6] rfl rfl rfl rfl rfl (by decide) ⟨rfl, rfl⟩ ⟨Nat.le_of_ble_eq_true rfl, Nat.le_of_ble_eq_true rfl, Nat.le_of_ble_eq_true rfl, Nat.le_of_ble_eq_true rfl⟩ (Nat.le_of_ble_eq_true rfl) dX6_estimateFrom_67 (rfl : _ = 0) (rfl : _ = 0) rfl ?_
  rintro _ _ ⟨rfl, rfl⟩
  refine g_is (ws' := [((R 0), .inr (7, [vR (R 1), vR (R 17), vR (R 18), vR (R 22), vR (R 25), vR (R 29), vR (R 31), vR (R 33), vR (R 34), vR (R 35), vI ma, vI mb, vI ag, vI bt_, vI sw, vI il, vI tr, vI tm])), ((R 29), .inr (9, [vR (R 30), vL (wsum (ua V (Int.tmod tm 24) (smpF tm va vb)) cosT 24), vL (wsum (ua V (Int.tmod tm 24) (smpF tm va vb)) sinT 24)])), ((R 30), cI E 24 (ua V (Int.tmod tm 24) (smpF tm va vb))), ((R 32), cI E 24 (ua U (Int.tmod tm 24) (smpF tm ia ib))), ((R 33), .inr (4, [vI e0, vI e1, vI e2, vI e3])), (g, .inr (4, [vI va, vI vb, vI ia, vI ib])), ((R 31), .inr (9, [vR (R 32), vL (wsum (ua U (Int.tmod tm 24) (smpF tm ia ib)) cosT 24), vL (wsum (ua U (Int.tmod tm 24) (smpF tm ia ib)) sinT 24)]))]) (st' := [vI (eB (ua U (Int.tmod tm 24) (smpF tm ia ib))), vI (eA (ua U (Int.tmod tm 24) (smpF tm ia ib))), vI (eB (ua V (Int.tmod tm 24) (smpF tm va vb))), vI (eA (ua V (Int.tmod tm 24) (smpF tm va vb))), vR (R 33)]) rfl rfl ?_
  refine g_sub (ws' := [((R 0), .inr (7, [vR (R 1), vR (R 17), vR (R 18), vR (R 22), vR (R 25), vR (R 29), vR (R 31), vR (R 33), vR (R 34), vR (R 35), vI ma, vI mb, vI ag, vI bt_, vI sw, vI il, vI tr, vI tm])), ((R 29), .inr (9, [vR (R 30), vL (wsum (ua V (Int.tmod tm 24) (smpF tm va vb)) cosT 24), vL (wsum (ua V (Int.tmod tm 24) (smpF tm va vb)) sinT 24)])), ((R 30), cI E 24 (ua V (Int.tmod tm 24) (smpF tm va vb))), ((R 31), .inr (9, [vR (R 32), vL (wsum (ua U (Int.tmod tm 24) (smpF tm ia ib)) cosT 24), vL (wsum (ua U (Int.tmod tm 24) (smpF tm ia ib)) sinT 24)])), ((R 32), cI E 24 (ua U (Int.tmod tm 24) (smpF tm ia ib))), ((R 33), .inr (4, [vI e0, vI e1, vI e2, vI e3])), (g, .inr (4, [vI va, vI vb, vI ia, vI ib]))]) [0, 1, 2, 6, 3, 4, 5] rfl rfl rfl ?_
  refine g_callV C (b := (R 33)) (As := [vI (eA (ua V (Int.tmod tm 24) (smpF tm va vb))), vI (eB (ua V (Int.tmod tm 24) (smpF tm va vb))), vI (eA (ua U (Int.tmod tm 24) (smpF tm ia ib))), vI (eB (ua U (Int.tmod tm 24) (smpF tm ia ib)))]) (wc := [((R 33), .inr (4, [vI e0, vI e1, vI e2, vI e3]))]) (wr := [((R 0), .inr (7, [vR (R 1), vR (R 17), vR (R 18), vR (R 22), vR (R 25), vR (R 29), vR (R 31), vR (R 33), vR (R 34), vR (R 35), vI ma, vI mb, vI ag, vI bt_, vI sw, vI il, vI tr, vI tm])), ((R 29), .inr (9, [vR (R 30), vL (wsum (ua V (Int.tmod tm 24) (smpF tm va vb)) cosT 24), vL (wsum (ua V (Int.tmod tm 24) (smpF tm va vb)) sinT 24)])), ((R 30), cI E 24 (ua V (Int.tmod tm 24) (smpF tm va vb))), ((R 31), .inr (9, [vR (R 32), vL (wsum (ua U (Int.tmod tm 24) (smpF tm ia ib)) cosT 24), vL (wsum (ua U (Int.tmod tm 24) (smpF tm ia ib)) sinT 24)])), ((R 32), cI E 24 (ua U (Int.tmod tm 24) (smpF tm ia ib))), (g, .inr (4, [vI va, vI vb, vI ia, vI ib]))]) (st := []) gX6_estimateFrom_X3_put (q9 := 0) (ci := 4) rfl rfl rfl (K_ph_put l E (R 33) e0 e1 e2 e3 (eA (ua V (Int.tmod tm 24) (smpF tm va vb))) (eB (ua V (Int.tmod tm 24) (smpF tm va vb))) (eA (ua U (Int.tmod tm 24) (smpF tm ia ib))) (eB (ua U (Int.tmod tm 24) (smpF tm ia ib))) ) hyd_X3_put rfl [5] [0, 1, 2, 3, 4, 6] rfl rfl rfl rfl rfl (by decide) ⟨rfl, rfl⟩ ⟨Nat.le_of_ble_eq_true rfl, Nat.le_of_ble_eq_true rfl, Nat.le_of_ble_eq_true rfl, Nat.le_of_ble_eq_true rfl⟩ (Nat.le_of_ble_eq_true rfl) dX6_estimateFrom_70 (rfl : _ = 0) (rfl : _ = 0) rfl ?_
  rintro _ _ ⟨rfl, rfl⟩
  refine g_is (ws' := [((R 0), .inr (7, [vR (R 1), vR (R 17), vR (R 18), vR (R 22), vR (R 25), vR (R 29), vR (R 31), vR (R 33), vR (R 34), vR (R 35), vI ma, vI mb, vI ag, vI bt_, vI sw, vI il, vI tr, vI tm])), ((R 29), .inr (9, [vR (R 30), vL (wsum (ua V (Int.tmod tm 24) (smpF tm va vb)) cosT 24), vL (wsum (ua V (Int.tmod tm 24) (smpF tm va vb)) sinT 24)])), ((R 30), cI E 24 (ua V (Int.tmod tm 24) (smpF tm va vb))), ((R 31), .inr (9, [vR (R 32), vL (wsum (ua U (Int.tmod tm 24) (smpF tm ia ib)) cosT 24), vL (wsum (ua U (Int.tmod tm 24) (smpF tm ia ib)) sinT 24)])), ((R 32), cI E 24 (ua U (Int.tmod tm 24) (smpF tm ia ib))), (g, .inr (4, [vI va, vI vb, vI ia, vI ib])), ((R 33), .inr (4, [vI (eA (ua V (Int.tmod tm 24) (smpF tm va vb))), vI (eB (ua V (Int.tmod tm 24) (smpF tm va vb))), vI (eA (ua U (Int.tmod tm 24) (smpF tm ia ib))), vI (eB (ua U (Int.tmod tm 24) (smpF tm ia ib)))]))]) (st' := []) rfl rfl ?_
  refine g_sub (ws' := [((R 0), .inr (7, [vR (R 1), vR (R 17), vR (R 18), vR (R 22), vR (R 25), vR (R 29), vR (R 31), vR (R 33), vR (R 34), vR (R 35), vI ma, vI mb, vI ag, vI bt_, vI sw, vI il, vI tr, vI tm])), ((R 29), .inr (9, [vR (R 30), vL (wsum (ua V (Int.tmod tm 24) (smpF tm va vb)) cosT 24), vL (wsum (ua V (Int.tmod tm 24) (smpF tm va vb)) sinT 24)])), ((R 30), cI E 24 (ua V (Int.tmod tm 24) (smpF tm va vb))), ((R 31), .inr (9, [vR (R 32), vL (wsum (ua U (Int.tmod tm 24) (smpF tm ia ib)) cosT 24), vL (wsum (ua U (Int.tmod tm 24) (smpF tm ia ib)) sinT 24)])), ((R 32), cI E 24 (ua U (Int.tmod tm 24) (smpF tm ia ib))), ((R 33), .inr (4, [vI (eA (ua V (Int.tmod tm 24) (smpF tm va vb))), vI (eB (ua V (Int.tmod tm 24) (smpF tm va vb))), vI (eA (ua U (Int.tmod tm 24) (smpF tm ia ib))), vI (eB (ua U (Int.tmod tm 24) (smpF tm ia ib)))])), (g, .inr (4, [vI va, vI vb, vI ia, vI ib]))]) [0, 1, 2, 3, 4, 6, 5] rfl rfl rfl ?_
  exact g_vret C hr (Nat.le_of_ble_eq_true rfl) (Nat.le_of_ble_eq_true rfl) dX6_estimateFrom_73 ⟨rfl, rfl⟩

theorem in_X6_remember_X6 : ∀ w ∈ u_ws RX6 TX6 18, w ∈ wsX6_remember := by decide +kernel
theorem fd_X6_remember_57 : fdk wsX6_remember RX6 57 "ZoneRelay$Relay" RX6 TX6 18 7 := ⟨in_X6_remember_X6, by decide +kernel, by decide, rfl⟩
theorem in_X6_remember_X3 : ∀ w ∈ u_ws RX3 TX3 4, w ∈ wsX6_remember := by decide +kernel
theorem fd_X6_remember_171 : fdk wsX6_remember RX6 171 "ZoneRelay$Phasors" RX3 TX3 4 0 := ⟨in_X6_remember_X3, by decide +kernel, by decide, rfl⟩
theorem fd_X6_remember_174 : fdk wsX6_remember RX6 174 "ZoneRelay$Phasors" RX3 TX3 4 1 := ⟨in_X6_remember_X3, by decide +kernel, by decide, rfl⟩
theorem fd_X6_remember_17 : fdk wsX6_remember RX6 17 "ZoneRelay$Relay" RX6 TX6 18 1 := ⟨in_X6_remember_X6, by decide +kernel, by decide, rfl⟩
theorem fd_X6_remember_117 : fdk wsX6_remember RX6 117 "ZoneRelay$Relay" RX6 TX6 18 12 := ⟨in_X6_remember_X6, by decide +kernel, by decide, rfl⟩
theorem fd_X6_remember_111 : fdk wsX6_remember RX6 111 "ZoneRelay$Relay" RX6 TX6 18 10 := ⟨in_X6_remember_X6, by decide +kernel, by decide, rfl⟩
theorem fd_X6_remember_114 : fdk wsX6_remember RX6 114 "ZoneRelay$Relay" RX6 TX6 18 11 := ⟨in_X6_remember_X6, by decide +kernel, by decide, rfl⟩
abbrev rm_K_remember : Room := { frames := 0, cells := 0, slots := 0, locals := 0 }
set_option maxHeartbeats 8000000 in
set_option maxRecDepth 100000 in
theorem K_remember (l : Launch) (E : Ev) (R : Nat → Nat) (ma mb ag bt_ sw il tr tm : Int) (S : Int → Int) (va vb ia ib : Int) (hs1 : 0 ≤ S 1 ∧ S 1 ≤ 20000) (eva : -51000 ≤ va ∧ va ≤ 51000) (evb : -51000 ≤ vb ∧ vb ≤ 51000) : Mc l yX6_remember wsX6_remember rm_K_remember E [vR (R 0)] [((R 0), .inr (7, [vR (R 1), vR (R 17), vR (R 18), vR (R 22), vR (R 25), vR (R 29), vR (R 31), vR (R 33), vR (R 34), vR (R 35), vI ma, vI mb, vI ag, vI bt_, vI sw, vI il, vI tr, vI tm])), ((R 17), cI E 8 S), ((R 33), .inr (4, [vI va, vI vb, vI ia, vI ib]))] 0 0 (fun v9 w9 => v9 = none ∧ w9 = [((R 0), .inr (7, [vR (R 1), vR (R 17), vR (R 18), vR (R 22), vR (R 25), vR (R 29), vR (R 31), vR (R 33), vR (R 34), vR (R 35), vI (mem va vb (S 1) va ma), vI (mem va vb (S 1) vb mb), vI (mem va vb (S 1) 0 (ag + 1)), vI bt_, vI sw, vI il, vI tr, vI tm])), ((R 17), cI E 8 S), ((R 33), .inr (4, [vI va, vI vb, vI ia, vI ib]))]) := by
  refine Mc.intro (cc := cX6_remember) (maxL := 7) (ret := none) (lv0 := [(0, vR (R 0))]) (by decide +kernel) rfl rfl (Nat.le_of_ble_eq_true rfl) ?_
  intro p9 e9 s9 m9 args9 below9 meth9 c9 A9 C hr hmn
  have C : Cx p9 s9 m9 args9 meth9 c9 E A9 7 cX6_remember wsX6_remember RX6 := C
  have m1 := mul_b (x := va) (y := va) (A := 51000) (B := 51000) eva eva
  have m2 := mul_b (x := vb) (y := vb) (A := 51000) (B := 51000) evb evb
  have m3 := mul_b (x := S 1) (y := S 1) (A := 20000) (B := 20000) (by omega) (by omega)
  refine g_aload_n C 0 rfl dX6_remember_0 rfl ?_
  refine g_get C 0 fd_X6_remember_57 rfl rfl rfl dX6_remember_1 rfl ?_
  refine g_get C 2 fd_X6_remember_171 rfl rfl rfl dX6_remember_4 rfl ?_
  refine g_i2l C ⟨by omega, by omega⟩ rfl dX6_remember_7 rfl ?_
  refine g_lstore_n C (lv' := [(0, vR (R 0)), (1, vL va)]) [1, 0] (by decide) rfl rfl dX6_remember_8 rfl ?_
  refine g_aload_n C 0 rfl dX6_remember_9 rfl ?_
  refine g_get C 0 fd_X6_remember_57 rfl rfl rfl dX6_remember_10 rfl ?_
  refine g_get C 2 fd_X6_remember_174 rfl rfl rfl dX6_remember_13 rfl ?_
  refine g_i2l C ⟨by omega, by omega⟩ rfl dX6_remember_16 rfl ?_
  refine g_lstore_n C (lv' := [(0, vR (R 0)), (1, vL va), (3, vL vb)]) [1, 2, 0] (by decide) rfl rfl dX6_remember_17 rfl ?_
  refine g_aload_n C 0 rfl dX6_remember_18 rfl ?_
  refine g_get C 0 fd_X6_remember_17 rfl rfl rfl dX6_remember_19 rfl ?_
  refine g_iconst C dX6_remember_22 rfl ?_
  refine g_iald C 1 rfl (by decide) (by decide) (by decide) rfl dX6_remember_23 rfl ?_
  refine g_i2l C ⟨by omega, by omega⟩ rfl dX6_remember_24 rfl ?_
  refine g_lstore C (lv' := [(0, vR (R 0)), (1, vL va), (3, vL vb), (5, vL (S 1))]) [1, 2, 3, 0] (by decide) rfl rfl dX6_remember_25 rfl ?_
  refine g_lload_n C 1 rfl dX6_remember_27 rfl ?_
  refine g_lload_n C 1 rfl dX6_remember_28 rfl ?_
  refine g_lmul C rfl dX6_remember_29 rfl ?_
  refine g_lload_n C 2 rfl dX6_remember_30 rfl ?_
  refine g_lload_n C 2 rfl dX6_remember_31 rfl ?_
  refine g_lmul C rfl dX6_remember_32 rfl ?_
  refine g_ladd C rfl dX6_remember_33 rfl ?_
  refine g_lload C 3 rfl dX6_remember_34 rfl ?_
  refine g_lload C 3 rfl dX6_remember_36 rfl ?_
  refine g_lmul C rfl dX6_remember_38 rfl ?_
  refine g_lcmp_lt C ⟨by omega, by omega⟩ ⟨by omega, by omega⟩ dX6_remember_39 rfl (tgt := 73) dX6_remember_40 (by decide) rfl (fun c_1 => ?_) (fun c_1 => ?_)
  · refine g_aload_n C 0 rfl dX6_remember_73 rfl ?_
    refine g_dup C rfl dX6_remember_74 rfl ?_
    refine g_get C 0 fd_X6_remember_117 rfl rfl rfl dX6_remember_75 rfl ?_
    refine g_iconst C dX6_remember_78 rfl ?_
    refine g_iadd C rfl dX6_remember_79 rfl ?_
    refine g_put C tyX6 tyX6_ok nmX6 0 fd_X6_remember_117 rfl rfl rfl rfl rfl rfl (Nat.le_of_ble_eq_true rfl) (ws' := [((R 0), .inr (7, [vR (R 1), vR (R 17), vR (R 18), vR (R 22), vR (R 25), vR (R 29), vR (R 31), vR (R 33), vR (R 34), vR (R 35), vI ma, vI mb, vI (ag + 1), vI bt_, vI sw, vI il, vI tr, vI tm])), ((R 17), cI E 8 S), ((R 33), .inr (4, [vI va, vI vb, vI ia, vI ib]))]) rfl dX6_remember_80 rfl ?_
    have z_2 : (mem va vb (S 1) va ma) = ma := by unfold mem; first | rw [if_pos (by omega)] | rw [if_neg (by omega)]
    have z_3 : (mem va vb (S 1) vb mb) = mb := by unfold mem; first | rw [if_pos (by omega)] | rw [if_neg (by omega)]
    have z_4 : (mem va vb (S 1) 0 (ag + 1)) = (ag + 1) := by unfold mem; first | rw [if_pos (by omega)] | rw [if_neg (by omega)]
    have zz_5 := congr (congr (congrArg (fun (y9_0 : Int) (y9_1 : Int) (y9_2 : Int) => ([((R 0), .inr (7, [vR (R 1), vR (R 17), vR (R 18), vR (R 22), vR (R 25), vR (R 29), vR (R 31), vR (R 33), vR (R 34), vR (R 35), vI y9_0, vI y9_1, vI y9_2, vI bt_, vI sw, vI il, vI tr, vI tm])), ((R 17), cI E 8 S), ((R 33), .inr (4, [vI va, vI vb, vI ia, vI ib]))] : va_W)) z_2) z_3) z_4
    refine g_ws (ws' := [((R 0), .inr (7, [vR (R 1), vR (R 17), vR (R 18), vR (R 22), vR (R 25), vR (R 29), vR (R 31), vR (R 33), vR (R 34), vR (R 35), vI (mem va vb (S 1) va ma), vI (mem va vb (S 1) vb mb), vI (mem va vb (S 1) 0 (ag + 1)), vI bt_, vI sw, vI il, vI tr, vI tm])), ((R 17), cI E 8 S), ((R 33), .inr (4, [vI va, vI vb, vI ia, vI ib]))]) zz_5 ?_
    exact g_vret C hr (Nat.le_of_ble_eq_true rfl) (Nat.le_of_ble_eq_true rfl) dX6_remember_83 ⟨rfl, rfl⟩
  refine g_aload_n C 0 rfl dX6_remember_43 rfl ?_
  refine g_aload_n C 0 rfl dX6_remember_44 rfl ?_
  refine g_get C 0 fd_X6_remember_57 rfl rfl rfl dX6_remember_45 rfl ?_
  refine g_get C 2 fd_X6_remember_171 rfl rfl rfl dX6_remember_48 rfl ?_
  refine g_put C tyX6 tyX6_ok nmX6 0 fd_X6_remember_111 rfl rfl rfl rfl rfl rfl (Nat.le_of_ble_eq_true rfl) (ws' := [((R 0), .inr (7, [vR (R 1), vR (R 17), vR (R 18), vR (R 22), vR (R 25), vR (R 29), vR (R 31), vR (R 33), vR (R 34), vR (R 35), vI va, vI mb, vI ag, vI bt_, vI sw, vI il, vI tr, vI tm])), ((R 17), cI E 8 S), ((R 33), .inr (4, [vI va, vI vb, vI ia, vI ib]))]) rfl dX6_remember_51 rfl ?_
  refine g_aload_n C 0 rfl dX6_remember_54 rfl ?_
  refine g_aload_n C 0 rfl dX6_remember_55 rfl ?_
  refine g_get C 0 fd_X6_remember_57 rfl rfl rfl dX6_remember_56 rfl ?_
  refine g_get C 2 fd_X6_remember_174 rfl rfl rfl dX6_remember_59 rfl ?_
  refine g_put C tyX6 tyX6_ok nmX6 0 fd_X6_remember_114 rfl rfl rfl rfl rfl rfl (Nat.le_of_ble_eq_true rfl) (ws' := [((R 0), .inr (7, [vR (R 1), vR (R 17), vR (R 18), vR (R 22), vR (R 25), vR (R 29), vR (R 31), vR (R 33), vR (R 34), vR (R 35), vI va, vI vb, vI ag, vI bt_, vI sw, vI il, vI tr, vI tm])), ((R 17), cI E 8 S), ((R 33), .inr (4, [vI va, vI vb, vI ia, vI ib]))]) rfl dX6_remember_62 rfl ?_
  refine g_aload_n C 0 rfl dX6_remember_65 rfl ?_
  refine g_iconst C dX6_remember_66 rfl ?_
  refine g_put C tyX6 tyX6_ok nmX6 0 fd_X6_remember_117 rfl rfl rfl rfl rfl rfl (Nat.le_of_ble_eq_true rfl) (ws' := [((R 0), .inr (7, [vR (R 1), vR (R 17), vR (R 18), vR (R 22), vR (R 25), vR (R 29), vR (R 31), vR (R 33), vR (R 34), vR (R 35), vI va, vI vb, vI 0, vI bt_, vI sw, vI il, vI tr, vI tm])), ((R 17), cI E 8 S), ((R 33), .inr (4, [vI va, vI vb, vI ia, vI ib]))]) rfl dX6_remember_67 rfl ?_
  refine g_goto C (pc' := 83) dX6_remember_70 (by decide) ?_
  have z_6 : (mem va vb (S 1) va ma) = va := by unfold mem; first | rw [if_pos (by omega)] | rw [if_neg (by omega)]
  have z_7 : (mem va vb (S 1) vb mb) = vb := by unfold mem; first | rw [if_pos (by omega)] | rw [if_neg (by omega)]
  have z_8 : (mem va vb (S 1) 0 (ag + 1)) = 0 := by unfold mem; first | rw [if_pos (by omega)] | rw [if_neg (by omega)]
  have zz_9 := congr (congr (congrArg (fun (y9_0 : Int) (y9_1 : Int) (y9_2 : Int) => ([((R 0), .inr (7, [vR (R 1), vR (R 17), vR (R 18), vR (R 22), vR (R 25), vR (R 29), vR (R 31), vR (R 33), vR (R 34), vR (R 35), vI y9_0, vI y9_1, vI y9_2, vI bt_, vI sw, vI il, vI tr, vI tm])), ((R 17), cI E 8 S), ((R 33), .inr (4, [vI va, vI vb, vI ia, vI ib]))] : va_W)) z_6) z_7) z_8
  refine g_ws (ws' := [((R 0), .inr (7, [vR (R 1), vR (R 17), vR (R 18), vR (R 22), vR (R 25), vR (R 29), vR (R 31), vR (R 33), vR (R 34), vR (R 35), vI (mem va vb (S 1) va ma), vI (mem va vb (S 1) vb mb), vI (mem va vb (S 1) 0 (ag + 1)), vI bt_, vI sw, vI il, vI tr, vI tm])), ((R 17), cI E 8 S), ((R 33), .inr (4, [vI va, vI vb, vI ia, vI ib]))]) zz_9 ?_
  exact g_vret C hr (Nat.le_of_ble_eq_true rfl) (Nat.le_of_ble_eq_true rfl) dX6_remember_83 ⟨rfl, rfl⟩

theorem in_X6_endSwing_X6 : ∀ w ∈ u_ws RX6 TX6 18, w ∈ wsX6_endSwing := by decide +kernel
theorem fd_X6_endSwing_123 : fdk wsX6_endSwing RX6 123 "ZoneRelay$Relay" RX6 TX6 18 14 := ⟨in_X6_endSwing_X6, by decide +kernel, by decide, rfl⟩
abbrev rm_K_endSwing0 : Room := { frames := 0, cells := 0, slots := 0, locals := 0 }
set_option maxHeartbeats 8000000 in
set_option maxRecDepth 100000 in
theorem K_endSwing0 (l : Launch) (E : Ev) (R : Nat → Nat) (ma mb ag bt_ sw il tr tm : Int) (T K : Int → Int) (n : Int) (hs : sw = 0) : Mc l yX6_endSwing wsX6_endSwing rm_K_endSwing0 E [vR (R 0)] [((R 0), .inr (7, [vR (R 1), vR (R 17), vR (R 18), vR (R 22), vR (R 25), vR (R 29), vR (R 31), vR (R 33), vR (R 34), vR (R 35), vI ma, vI mb, vI ag, vI bt_, vI sw, vI il, vI tr, vI tm])), ((R 35), .inr (2, [vR (R 36), vR (R 37), vI n])), ((R 36), cI E 60 T), ((R 37), cI E 60 K)] 0 0 (fun v9 w9 => v9 = none ∧ w9 = [((R 0), .inr (7, [vR (R 1), vR (R 17), vR (R 18), vR (R 22), vR (R 25), vR (R 29), vR (R 31), vR (R 33), vR (R 34), vR (R 35), vI ma, vI mb, vI ag, vI bt_, vI sw, vI il, vI tr, vI tm])), ((R 35), .inr (2, [vR (R 36), vR (R 37), vI n])), ((R 36), cI E 60 T), ((R 37), cI E 60 K)]) := by
  refine Mc.intro (cc := cX6_endSwing) (maxL := 1) (ret := none) (lv0 := [(0, vR (R 0))]) (by decide +kernel) rfl rfl (Nat.le_of_ble_eq_true rfl) ?_
  intro p9 e9 s9 m9 args9 below9 meth9 c9 A9 C hr hmn
  have C : Cx p9 s9 m9 args9 meth9 c9 E A9 1 cX6_endSwing wsX6_endSwing RX6 := C
  refine g_aload_n C 0 rfl dX6_endSwing_0 rfl ?_
  refine g_get C 0 fd_X6_endSwing_123 rfl rfl rfl dX6_endSwing_1 rfl ?_
  refine g_if_eq C (tgt := 25) (by rw [hs]; exact ⟨by decide, by decide⟩) dX6_endSwing_4 (by decide) rfl (fun c_1 => ?_) (fun c_1 => ?_)
  · exact g_vret C hr (Nat.le_of_ble_eq_true rfl) (Nat.le_of_ble_eq_true rfl) dX6_endSwing_25 ⟨rfl, rfl⟩
  exfalso; exact absurd hs (by assumption)

theorem fd_X6_endSwing_71 : fdk wsX6_endSwing RX6 71 "ZoneRelay$Relay" RX6 TX6 18 9 := ⟨in_X6_endSwing_X6, by decide +kernel, by decide, rfl⟩
theorem fd_X6_endSwing_130 : fdk wsX6_endSwing RX6 130 "ZoneRelay$Relay" RX6 TX6 18 17 := ⟨in_X6_endSwing_X6, by decide +kernel, by decide, rfl⟩
theorem hyd_X1_note : yX1_note.cls ≠ "java/lang/invoke/MethodHandle" ∧ yX1_note.cls ≠ "java/lang/invoke/VarHandle" ∧ (parseMethodDescriptor yX1_note.desc).map (fun d => d.parameters.length) = some 2 := by decide +kernel
abbrev rm_K_endSwing1 : Room := { frames := 2, cells := 0, slots := 0, locals := 45 }
set_option maxHeartbeats 8000000 in
set_option maxRecDepth 100000 in
theorem K_endSwing1 (l : Launch) (E : Ev) (R : Nat → Nat) (ma mb ag bt_ sw il tr tm : Int) (T K : Int → Int) (n : Int) (hs : sw = 1) (hn : 0 ≤ n ∧ n < 2000000000) : Mc l yX6_endSwing wsX6_endSwing rm_K_endSwing1 E [vR (R 0)] [((R 0), .inr (7, [vR (R 1), vR (R 17), vR (R 18), vR (R 22), vR (R 25), vR (R 29), vR (R 31), vR (R 33), vR (R 34), vR (R 35), vI ma, vI mb, vI ag, vI bt_, vI sw, vI il, vI tr, vI tm])), ((R 35), .inr (2, [vR (R 36), vR (R 37), vI n])), ((R 36), cI E 60 T), ((R 37), cI E 60 K)] 0 0 (fun v9 w9 => v9 = none ∧ w9 = [((R 0), .inr (7, [vR (R 1), vR (R 17), vR (R 18), vR (R 22), vR (R 25), vR (R 29), vR (R 31), vR (R 33), vR (R 34), vR (R 35), vI ma, vI mb, vI ag, vI bt_, vI 0, vI il, vI tr, vI tm])), ((R 35), .inr (2, [vR (R 36), vR (R 37), vI (n + 1)])), ((R 36), cI E 60 (ua T (Int.tmod n 60) tm)), ((R 37), cI E 60 (ua K (Int.tmod n 60) 41))]) := by
  refine Mc.intro (cc := cX6_endSwing) (maxL := 1) (ret := none) (lv0 := [(0, vR (R 0))]) (by decide +kernel) rfl rfl (Nat.le_of_ble_eq_true rfl) ?_
  intro p9 e9 s9 m9 args9 below9 meth9 c9 A9 C hr hmn
  have C : Cx p9 s9 m9 args9 meth9 c9 E A9 1 cX6_endSwing wsX6_endSwing RX6 := C
  refine g_aload_n C 0 rfl dX6_endSwing_0 rfl ?_
  refine g_get C 0 fd_X6_endSwing_123 rfl rfl rfl dX6_endSwing_1 rfl ?_
  refine g_if_eq C (tgt := 25) (by rw [hs]; exact ⟨by decide, by decide⟩) dX6_endSwing_4 (by decide) rfl (fun c_1 => ?_) (fun c_1 => ?_)
  · exfalso; omega
  refine g_aload_n C 0 rfl dX6_endSwing_7 rfl ?_
  refine g_iconst C dX6_endSwing_8 rfl ?_
  refine g_put C tyX6 tyX6_ok nmX6 0 fd_X6_endSwing_123 rfl rfl rfl rfl (by decide) (by decide) (Nat.le_of_ble_eq_true rfl) (ws' := [((R 0), .inr (7, [vR (R 1), vR (R 17), vR (R 18), vR (R 22), vR (R 25), vR (R 29), vR (R 31), vR (R 33), vR (R 34), vR (R 35), vI ma, vI mb, vI ag, vI bt_, vI 0, vI il, vI tr, vI tm])), ((R 35), .inr (2, [vR (R 36), vR (R 37), vI n])), ((R 36), cI E 60 T), ((R 37), cI E 60 K)]) rfl dX6_endSwing_9 rfl ?_
  refine g_aload_n C 0 rfl dX6_endSwing_12 rfl ?_
  refine g_get C 0 fd_X6_endSwing_71 rfl rfl rfl dX6_endSwing_13 rfl ?_
  refine g_aload_n C 0 rfl dX6_endSwing_16 rfl ?_
  refine g_get C 0 fd_X6_endSwing_130 rfl rfl rfl dX6_endSwing_17 rfl ?_
  refine g_bipush C (by decide) dX6_endSwing_20 rfl ?_
  refine g_callV C (b := (R 35)) (As := [vI tm, vI 41]) (wc := [((R 35), .inr (2, [vR (R 36), vR (R 37), vI n])), ((R 36), cI E 60 T), ((R 37), cI E 60 K)]) (wr := [((R 0), .inr (7, [vR (R 1), vR (R 17), vR (R 18), vR (R 22), vR (R 25), vR (R 29), vR (R 31), vR (R 33), vR (R 34), vR (R 35), vI ma, vI mb, vI ag, vI bt_, vI 0, vI il, vI tr, vI tm]))]) (st := []) gX6_endSwing_X1_note (q9 := 0) (ci := 2) rfl rfl rfl (K_log_note l E (R 35) (R 36) (R 37) T K n tm 41 hn) hyd_X1_note rfl [1, 2, 3] [0] rfl rfl rfl rfl rfl (by decide) ⟨rfl, rfl⟩ ⟨Nat.le_of_ble_eq_true rfl, Nat.le_of_ble_eq_true rfl, Nat.le_of_ble_eq_true rfl, Nat.le_of_ble_eq_true rfl⟩ (Nat.le_of_ble_eq_true rfl) dX6_endSwing_22 (rfl : _ = 0) (rfl : _ = 0) rfl ?_
  rintro _ _ ⟨rfl, rfl⟩
  refine g_is (ws' := [((R 0), .inr (7, [vR (R 1), vR (R 17), vR (R 18), vR (R 22), vR (R 25), vR (R 29), vR (R 31), vR (R 33), vR (R 34), vR (R 35), vI ma, vI mb, vI ag, vI bt_, vI 0, vI il, vI tr, vI tm])), ((R 35), .inr (2, [vR (R 36), vR (R 37), vI (n + 1)])), ((R 36), cI E 60 (ua T (Int.tmod n 60) tm)), ((R 37), cI E 60 (ua K (Int.tmod n 60) 41))]) (st' := []) rfl rfl ?_
  exact g_vret C hr (Nat.le_of_ble_eq_true rfl) (Nat.le_of_ble_eq_true rfl) dX6_endSwing_25 ⟨rfl, rfl⟩

theorem in_X6_watchSwing_X6 : ∀ w ∈ u_ws RX6 TX6 18, w ∈ wsX6_watchSwing := by decide +kernel
theorem fd_X6_watchSwing_64 : fdk wsX6_watchSwing RX6 64 "ZoneRelay$Relay" RX6 TX6 18 8 := ⟨in_X6_watchSwing_X6, by decide +kernel, by decide, rfl⟩
theorem fd_X6_watchSwing_11 : fdk wsX6_watchSwing RX6 11 "ZoneRelay$Relay" RX6 TX6 18 0 := ⟨in_X6_watchSwing_X6, by decide +kernel, by decide, rfl⟩
theorem hyd_X0_isIn : yX0_isIn.cls ≠ "java/lang/invoke/MethodHandle" ∧ yX0_isIn.cls ≠ "java/lang/invoke/VarHandle" ∧ (parseMethodDescriptor yX0_isIn.desc).map (fun d => d.parameters.length) = some 1 := by decide +kernel
theorem fd_X6_watchSwing_123 : fdk wsX6_watchSwing RX6 123 "ZoneRelay$Relay" RX6 TX6 18 14 := ⟨in_X6_watchSwing_X6, by decide +kernel, by decide, rfl⟩
theorem fd_X6_watchSwing_120 : fdk wsX6_watchSwing RX6 120 "ZoneRelay$Relay" RX6 TX6 18 13 := ⟨in_X6_watchSwing_X6, by decide +kernel, by decide, rfl⟩
theorem fd_X6_watchSwing_17 : fdk wsX6_watchSwing RX6 17 "ZoneRelay$Relay" RX6 TX6 18 1 := ⟨in_X6_watchSwing_X6, by decide +kernel, by decide, rfl⟩
theorem fd_X6_watchSwing_71 : fdk wsX6_watchSwing RX6 71 "ZoneRelay$Relay" RX6 TX6 18 9 := ⟨in_X6_watchSwing_X6, by decide +kernel, by decide, rfl⟩
theorem fd_X6_watchSwing_130 : fdk wsX6_watchSwing RX6 130 "ZoneRelay$Relay" RX6 TX6 18 17 := ⟨in_X6_watchSwing_X6, by decide +kernel, by decide, rfl⟩
theorem hyd_X6_endSwing : yX6_endSwing.cls ≠ "java/lang/invoke/MethodHandle" ∧ yX6_endSwing.cls ≠ "java/lang/invoke/VarHandle" ∧ (parseMethodDescriptor yX6_endSwing.desc).map (fun d => d.parameters.length) = some 0 := by decide +kernel
abbrev rm_K_watch0 : Room := { frames := 3, cells := 0, slots := 0, locals := 74 }
set_option maxHeartbeats 8000000 in
set_option maxRecDepth 100000 in
theorem K_watch0 (l : Launch) (E : Ev) (R : Nat → Nat) (ma mb ag bt_ sw il tr tm : Int) (S T K X3 Y3 : Int → Int) (n3 : Int) (X4 Y4 : Int → Int) (n4 z x y d n : Int) (hsw : sw = 0) (hbt : 0 ≤ bt_ ∧ bt_ < 2000000000) (hs6 : 1 ≤ S 6 ∧ S 6 ≤ 1000) (hn3 : 0 ≤ n3 ∧ n3 ≤ 8) (hX3 : cbA X3) (hY3 : cbA Y3) (hn4 : 0 ≤ n4 ∧ n4 ≤ 8) (hX4 : cbA X4) (hY4 : cbA Y4) (hz : z = 0 ∨ z = 1) (hx : -5300000000000 ≤ x ∧ x ≤ 5300000000000) (hy : -5300000000000 ≤ y ∧ y ≤ 5300000000000) (hd : 0 ≤ d ∧ d ≤ 5210000000) (hn : 0 ≤ n ∧ n < 2000000000) : Mc l yX6_watchSwing wsX6_watchSwing rm_K_watch0 E [vR (R 0)] [((R 0), .inr (7, [vR (R 1), vR (R 17), vR (R 18), vR (R 22), vR (R 25), vR (R 29), vR (R 31), vR (R 33), vR (R 34), vR (R 35), vI ma, vI mb, vI ag, vI bt_, vI sw, vI il, vI tr, vI tm])), ((R 1), cQ E 4 5 (pq R)), ((R 11), .inr (5, [vR (R 12), vR (R 13), vI n3, vI (snd X3 Y3 n3)])), ((R 12), cI E 8 X3), ((R 13), cI E 8 Y3), ((R 14), .inr (5, [vR (R 15), vR (R 16), vI n4, vI (snd X4 Y4 n4)])), ((R 15), cI E 8 X4), ((R 16), cI E 8 Y4), ((R 17), cI E 8 S), ((R 34), .inr (1, [vI z, vL x, vL y, vL d])), ((R 35), .inr (2, [vR (R 36), vR (R 37), vI n])), ((R 36), cI E 60 T), ((R 37), cI E 60 K)] 0 0 (fun v9 w9 => v9 = none ∧ w9 = [((R 0), .inr (7, [vR (R 1), vR (R 17), vR (R 18), vR (R 22), vR (R 25), vR (R 29), vR (R 31), vR (R 33), vR (R 34), vR (R 35), vI ma, vI mb, vI ag, vI (if (z = 1 ∧ hld X4 Y4 n4 x y d = true) then (if (z = 1 ∧ hld X3 Y3 n3 x y d = true) then bt_ else bt_ + 1) else 0), vI (if (z = 1 ∧ hld X4 Y4 n4 x y d = true) then (if ((z = 1 ∧ hld X4 Y4 n4 x y d = true) ∧ (z = 1 ∧ hld X3 Y3 n3 x y d = true) ∧ sw = 0 ∧ S 6 ≤ bt_) then 1 else sw) else 0), vI il, vI tr, vI tm])), ((R 1), cQ E 4 5 (pq R)), ((R 11), .inr (5, [vR (R 12), vR (R 13), vI n3, vI (snd X3 Y3 n3)])), ((R 12), cI E 8 X3), ((R 13), cI E 8 Y3), ((R 14), .inr (5, [vR (R 15), vR (R 16), vI n4, vI (snd X4 Y4 n4)])), ((R 15), cI E 8 X4), ((R 16), cI E 8 Y4), ((R 17), cI E 8 S), ((R 34), .inr (1, [vI z, vL x, vL y, vL d])), ((R 35), .inr (2, [vR (R 36), vR (R 37), vI (ntN (((z = 1 ∧ hld X4 Y4 n4 x y d = true) ∧ (z = 1 ∧ hld X3 Y3 n3 x y d = true) ∧ sw = 0 ∧ S 6 ≤ bt_) ∨ (¬ (z = 1 ∧ hld X4 Y4 n4 x y d = true) ∧ sw = 1)) n)])), ((R 36), cI E 60 (ntA (((z = 1 ∧ hld X4 Y4 n4 x y d = true) ∧ (z = 1 ∧ hld X3 Y3 n3 x y d = true) ∧ sw = 0 ∧ S 6 ≤ bt_) ∨ (¬ (z = 1 ∧ hld X4 Y4 n4 x y d = true) ∧ sw = 1)) T n tm)), ((R 37), cI E 60 (ntA (((z = 1 ∧ hld X4 Y4 n4 x y d = true) ∧ (z = 1 ∧ hld X3 Y3 n3 x y d = true) ∧ sw = 0 ∧ S 6 ≤ bt_) ∨ (¬ (z = 1 ∧ hld X4 Y4 n4 x y d = true) ∧ sw = 1)) K n (if (¬ (z = 1 ∧ hld X4 Y4 n4 x y d = true) ∧ sw = 1) then 41 else 40)))]) := by
  refine Mc.intro (cc := cX6_watchSwing) (maxL := 1) (ret := none) (lv0 := [(0, vR (R 0))]) (by decide +kernel) rfl rfl (Nat.le_of_ble_eq_true rfl) ?_
  intro p9 e9 s9 m9 args9 below9 meth9 c9 A9 C hr hmn
  have C : Cx p9 s9 m9 args9 meth9 c9 E A9 1 cX6_watchSwing wsX6_watchSwing RX6 := C
  refine g_aload_n C 0 rfl dX6_watchSwing_0 rfl ?_
  refine g_get C 0 fd_X6_watchSwing_64 rfl rfl rfl dX6_watchSwing_1 rfl ?_
  refine g_aload_n C 0 rfl dX6_watchSwing_4 rfl ?_
  refine g_get C 0 fd_X6_watchSwing_11 rfl rfl rfl dX6_watchSwing_5 rfl ?_
  refine g_iconst C dX6_watchSwing_8 rfl ?_
  refine g_aald C 1 4 rfl rfl (by decide) (by decide) (by decide) rfl dX6_watchSwing_9 rfl ?_
  refine g_callV C (b := (R 34)) (As := [vR (R 14)]) (wc := [((R 34), .inr (1, [vI z, vL x, vL y, vL d])), ((R 14), .inr (5, [vR (R 15), vR (R 16), vI n4, vI (snd X4 Y4 n4)])), ((R 15), cI E 8 X4), ((R 16), cI E 8 Y4)]) (wr := [((R 0), .inr (7, [vR (R 1), vR (R 17), vR (R 18), vR (R 22), vR (R 25), vR (R 29), vR (R 31), vR (R 33), vR (R 34), vR (R 35), vI ma, vI mb, vI ag, vI bt_, vI sw, vI il, vI tr, vI tm])), ((R 1), cQ E 4 5 (pq R)), ((R 11), .inr (5, [vR (R 12), vR (R 13), vI n3, vI (snd X3 Y3 n3)])), ((R 12), cI E 8 X3), ((R 13), cI E 8 Y3), ((R 17), cI E 8 S), ((R 35), .inr (2, [vR (R 36), vR (R 37), vI n])), ((R 36), cI E 60 T), ((R 37), cI E 60 K)]) (st := []) gX6_watchSwing_X0_isIn (q9 := 0) (ci := 1) rfl rfl rfl (K_imp_isIn l E (R 34) (R 14) (R 15) (R 16) X4 Y4 n4 (snd X4 Y4 n4) z x y d hn4 hX4 hY4 rfl hz hx hy hd) hyd_X0_isIn rfl [9, 5, 6, 7] [0, 1, 2, 3, 4, 8, 10, 11, 12] rfl rfl rfl rfl rfl (by decide) ⟨rfl, rfl⟩ ⟨Nat.le_of_ble_eq_true rfl, Nat.le_of_ble_eq_true rfl, Nat.le_of_ble_eq_true rfl, Nat.le_of_ble_eq_true rfl⟩ (Nat.le_of_ble_eq_true rfl) dX6_watchSwing_10 (rfl : _ = 0) (rfl : _ = 0) rfl ?_
  rintro _ _ ⟨rfl, rfl⟩
  refine g_is (ws' := [((R 0), .inr (7, [vR (R 1), vR (R 17), vR (R 18), vR (R 22), vR (R 25), vR (R 29), vR (R 31), vR (R 33), vR (R 34), vR (R 35), vI ma, vI mb, vI ag, vI bt_, vI sw, vI il, vI tr, vI tm])), ((R 1), cQ E 4 5 (pq R)), ((R 11), .inr (5, [vR (R 12), vR (R 13), vI n3, vI (snd X3 Y3 n3)])), ((R 12), cI E 8 X3), ((R 13), cI E 8 Y3), ((R 17), cI E 8 S), ((R 35), .inr (2, [vR (R 36), vR (R 37), vI n])), ((R 36), cI E 60 T), ((R 37), cI E 60 K), ((R 34), .inr (1, [vI z, vL x, vL y, vL d])), ((R 14), .inr (5, [vR (R 15), vR (R 16), vI n4, vI (snd X4 Y4 n4)])), ((R 15), cI E 8 X4), ((R 16), cI E 8 Y4)]) (st' := [vI (bP (z = 1 ∧ hld X4 Y4 n4 x y d = true))]) rfl rfl ?_
  refine g_sub (ws' := [((R 0), .inr (7, [vR (R 1), vR (R 17), vR (R 18), vR (R 22), vR (R 25), vR (R 29), vR (R 31), vR (R 33), vR (R 34), vR (R 35), vI ma, vI mb, vI ag, vI bt_, vI sw, vI il, vI tr, vI tm])), ((R 1), cQ E 4 5 (pq R)), ((R 11), .inr (5, [vR (R 12), vR (R 13), vI n3, vI (snd X3 Y3 n3)])), ((R 12), cI E 8 X3), ((R 13), cI E 8 Y3), ((R 14), .inr (5, [vR (R 15), vR (R 16), vI n4, vI (snd X4 Y4 n4)])), ((R 15), cI E 8 X4), ((R 16), cI E 8 Y4), ((R 17), cI E 8 S), ((R 34), .inr (1, [vI z, vL x, vL y, vL d])), ((R 35), .inr (2, [vR (R 36), vR (R 37), vI n])), ((R 36), cI E 60 T), ((R 37), cI E 60 K)]) [0, 1, 2, 3, 4, 10, 11, 12, 5, 9, 6, 7, 8] rfl rfl rfl ?_
  refine g_ifb_ne C (tgt := 28) dX6_watchSwing_13 (by decide) rfl (fun c_1 => ?_) (fun c_1 => ?_)
  · refine g_aload_n C 0 rfl dX6_watchSwing_28 rfl ?_
    refine g_get C 0 fd_X6_watchSwing_64 rfl rfl rfl dX6_watchSwing_29 rfl ?_
    refine g_aload_n C 0 rfl dX6_watchSwing_32 rfl ?_
    refine g_get C 0 fd_X6_watchSwing_11 rfl rfl rfl dX6_watchSwing_33 rfl ?_
    refine g_iconst C dX6_watchSwing_36 rfl ?_
    refine g_aald C 1 4 rfl rfl (by decide) (by decide) (by decide) rfl dX6_watchSwing_37 rfl ?_
    refine g_callV C (b := (R 34)) (As := [vR (R 11)]) (wc := [((R 34), .inr (1, [vI z, vL x, vL y, vL d])), ((R 11), .inr (5, [vR (R 12), vR (R 13), vI n3, vI (snd X3 Y3 n3)])), ((R 12), cI E 8 X3), ((R 13), cI E 8 Y3)]) (wr := [((R 0), .inr (7, [vR (R 1), vR (R 17), vR (R 18), vR (R 22), vR (R 25), vR (R 29), vR (R 31), vR (R 33), vR (R 34), vR (R 35), vI ma, vI mb, vI ag, vI bt_, vI sw, vI il, vI tr, vI tm])), ((R 1), cQ E 4 5 (pq R)), ((R 14), .inr (5, [vR (R 15), vR (R 16), vI n4, vI (snd X4 Y4 n4)])), ((R 15), cI E 8 X4), ((R 16), cI E 8 Y4), ((R 17), cI E 8 S), ((R 35), .inr (2, [vR (R 36), vR (R 37), vI n])), ((R 36), cI E 60 T), ((R 37), cI E 60 K)]) (st := []) gX6_watchSwing_X0_isIn (q9 := 0) (ci := 1) rfl rfl rfl (K_imp_isIn l E (R 34) (R 11) (R 12) (R 13) X3 Y3 n3 (snd X3 Y3 n3) z x y d hn3 hX3 hY3 rfl hz hx hy hd) hyd_X0_isIn rfl [9, 2, 3, 4] [0, 1, 5, 6, 7, 8, 10, 11, 12] rfl rfl rfl rfl rfl (by decide) ⟨rfl, rfl⟩ ⟨Nat.le_of_ble_eq_true rfl, Nat.le_of_ble_eq_true rfl, Nat.le_of_ble_eq_true rfl, Nat.le_of_ble_eq_true rfl⟩ (Nat.le_of_ble_eq_true rfl) dX6_watchSwing_38 (rfl : _ = 0) (rfl : _ = 0) rfl ?_
    rintro _ _ ⟨rfl, rfl⟩
    refine g_is (ws' := [((R 0), .inr (7, [vR (R 1), vR (R 17), vR (R 18), vR (R 22), vR (R 25), vR (R 29), vR (R 31), vR (R 33), vR (R 34), vR (R 35), vI ma, vI mb, vI ag, vI bt_, vI sw, vI il, vI tr, vI tm])), ((R 1), cQ E 4 5 (pq R)), ((R 14), .inr (5, [vR (R 15), vR (R 16), vI n4, vI (snd X4 Y4 n4)])), ((R 15), cI E 8 X4), ((R 16), cI E 8 Y4), ((R 17), cI E 8 S), ((R 35), .inr (2, [vR (R 36), vR (R 37), vI n])), ((R 36), cI E 60 T), ((R 37), cI E 60 K), ((R 34), .inr (1, [vI z, vL x, vL y, vL d])), ((R 11), .inr (5, [vR (R 12), vR (R 13), vI n3, vI (snd X3 Y3 n3)])), ((R 12), cI E 8 X3), ((R 13), cI E 8 Y3)]) (st' := [vI (bP (z = 1 ∧ hld X3 Y3 n3 x y d = true))]) rfl rfl ?_
    refine g_sub (ws' := [((R 0), .inr (7, [vR (R 1), vR (R 17), vR (R 18), vR (R 22), vR (R 25), vR (R 29), vR (R 31), vR (R 33), vR (R 34), vR (R 35), vI ma, vI mb, vI ag, vI bt_, vI sw, vI il, vI tr, vI tm])), ((R 1), cQ E 4 5 (pq R)), ((R 11), .inr (5, [vR (R 12), vR (R 13), vI n3, vI (snd X3 Y3 n3)])), ((R 12), cI E 8 X3), ((R 13), cI E 8 Y3), ((R 14), .inr (5, [vR (R 15), vR (R 16), vI n4, vI (snd X4 Y4 n4)])), ((R 15), cI E 8 X4), ((R 16), cI E 8 Y4), ((R 17), cI E 8 S), ((R 34), .inr (1, [vI z, vL x, vL y, vL d])), ((R 35), .inr (2, [vR (R 36), vR (R 37), vI n])), ((R 36), cI E 60 T), ((R 37), cI E 60 K)]) [0, 1, 10, 11, 12, 2, 3, 4, 5, 9, 6, 7, 8] rfl rfl rfl ?_
    refine g_ifb_ne C (tgt := 57) dX6_watchSwing_41 (by decide) rfl (fun c_2 => ?_) (fun c_2 => ?_)
    · refine g_aload_n C 0 rfl dX6_watchSwing_57 rfl ?_
      refine g_get C 0 fd_X6_watchSwing_123 rfl rfl rfl dX6_watchSwing_58 rfl ?_
      refine g_if_ne C (tgt := 96) (by rw [hsw]; exact ⟨by decide, by decide⟩) dX6_watchSwing_61 (by decide) rfl (fun c_3 => ?_) (fun c_3 => ?_)
      · exfalso; exact absurd hsw (by assumption)
      refine g_aload_n C 0 rfl dX6_watchSwing_64 rfl ?_
      refine g_get C 0 fd_X6_watchSwing_120 rfl rfl rfl dX6_watchSwing_65 rfl ?_
      refine g_aload_n C 0 rfl dX6_watchSwing_68 rfl ?_
      refine g_get C 0 fd_X6_watchSwing_17 rfl rfl rfl dX6_watchSwing_69 rfl ?_
      refine g_bipush C (by decide) dX6_watchSwing_72 rfl ?_
      refine g_iald C 8 rfl (by decide) (by decide) (by decide) rfl dX6_watchSwing_74 rfl ?_
      refine g_icmp_lt C (tgt := 96) ⟨by omega, by omega⟩ ⟨by omega, by omega⟩ dX6_watchSwing_75 (by decide) rfl (fun c_4 => ?_) (fun c_4 => ?_)
      · have c_4x : ¬ S 6 ≤ bt_ := by omega
        have z_5 : (if (z = 1 ∧ hld X4 Y4 n4 x y d = true) then (if (z = 1 ∧ hld X3 Y3 n3 x y d = true) then bt_ else bt_ + 1) else 0) = bt_ := by first | rfl | (simp only [*, if_true, if_false, true_and, and_true, not_true, not_false_eq_true, false_and, and_false, ntA, ntN]; done) | (simp [*, ntA, ntN]; done) | (simp_all [ntA, ntN]; done)
        have z_6 : (if (z = 1 ∧ hld X4 Y4 n4 x y d = true) then (if ((z = 1 ∧ hld X4 Y4 n4 x y d = true) ∧ (z = 1 ∧ hld X3 Y3 n3 x y d = true) ∧ sw = 0 ∧ S 6 ≤ bt_) then 1 else sw) else 0) = sw := by first | rfl | (simp only [*, if_true, if_false, true_and, and_true, not_true, not_false_eq_true, false_and, and_false, ntA, ntN]; done) | (simp [*, ntA, ntN]; done) | (simp_all [ntA, ntN]; done)
        have z_7 : (ntN (((z = 1 ∧ hld X4 Y4 n4 x y d = true) ∧ (z = 1 ∧ hld X3 Y3 n3 x y d = true) ∧ sw = 0 ∧ S 6 ≤ bt_) ∨ (¬ (z = 1 ∧ hld X4 Y4 n4 x y d = true) ∧ sw = 1)) n) = n := by first | rfl | (simp only [*, if_true, if_false, true_and, and_true, not_true, not_false_eq_true, false_and, and_false, ntA, ntN]; done) | (simp [*, ntA, ntN]; done) | (simp_all [ntA, ntN]; done)
        have z_8 : cI E 60 (ntA (((z = 1 ∧ hld X4 Y4 n4 x y d = true) ∧ (z = 1 ∧ hld X3 Y3 n3 x y d = true) ∧ sw = 0 ∧ S 6 ≤ bt_) ∨ (¬ (z = 1 ∧ hld X4 Y4 n4 x y d = true) ∧ sw = 1)) T n tm) = cI E 60 T := cI_c (fun k_ k0_ k1_ => by first | rfl | (simp only [*, if_true, if_false, true_and, and_true, not_true, not_false_eq_true, false_and, and_false, ntA, ntN]; done) | (simp [*, ntA, ntN]; done) | (simp_all [ntA, ntN]; done))
        have z_9 : cI E 60 (ntA (((z = 1 ∧ hld X4 Y4 n4 x y d = true) ∧ (z = 1 ∧ hld X3 Y3 n3 x y d = true) ∧ sw = 0 ∧ S 6 ≤ bt_) ∨ (¬ (z = 1 ∧ hld X4 Y4 n4 x y d = true) ∧ sw = 1)) K n (if (¬ (z = 1 ∧ hld X4 Y4 n4 x y d = true) ∧ sw = 1) then 41 else 40)) = cI E 60 K := cI_c (fun k_ k0_ k1_ => by first | rfl | (simp only [*, if_true, if_false, true_and, and_true, not_true, not_false_eq_true, false_and, and_false, ntA, ntN]; done) | (simp [*, ntA, ntN]; done) | (simp_all [ntA, ntN]; done))
        have zz_10 := congr (congr (congr (congr (congrArg (fun (y9_0 : Int) (y9_1 : Int) (y9_2 : Int) (y9_3 : va_E) (y9_4 : va_E) => ([((R 0), .inr (7, [vR (R 1), vR (R 17), vR (R 18), vR (R 22), vR (R 25), vR (R 29), vR (R 31), vR (R 33), vR (R 34), vR (R 35), vI ma, vI mb, vI ag, vI y9_0, vI y9_1, vI il, vI tr, vI tm])), ((R 1), cQ E 4 5 (pq R)), ((R 11), .inr (5, [vR (R 12), vR (R 13), vI n3, vI (snd X3 Y3 n3)])), ((R 12), cI E 8 X3), ((R 13), cI E 8 Y3), ((R 14), .inr (5, [vR (R 15), vR (R 16), vI n4, vI (snd X4 Y4 n4)])), ((R 15), cI E 8 X4), ((R 16), cI E 8 Y4), ((R 17), cI E 8 S), ((R 34), .inr (1, [vI z, vL x, vL y, vL d])), ((R 35), .inr (2, [vR (R 36), vR (R 37), vI y9_2])), ((R 36), y9_3), ((R 37), y9_4)] : va_W)) z_5) z_6) z_7) z_8) z_9
        refine g_ws (ws' := [((R 0), .inr (7, [vR (R 1), vR (R 17), vR (R 18), vR (R 22), vR (R 25), vR (R 29), vR (R 31), vR (R 33), vR (R 34), vR (R 35), vI ma, vI mb, vI ag, vI (if (z = 1 ∧ hld X4 Y4 n4 x y d = true) then (if (z = 1 ∧ hld X3 Y3 n3 x y d = true) then bt_ else bt_ + 1) else 0), vI (if (z = 1 ∧ hld X4 Y4 n4 x y d = true) then (if ((z = 1 ∧ hld X4 Y4 n4 x y d = true) ∧ (z = 1 ∧ hld X3 Y3 n3 x y d = true) ∧ sw = 0 ∧ S 6 ≤ bt_) then 1 else sw) else 0), vI il, vI tr, vI tm])), ((R 1), cQ E 4 5 (pq R)), ((R 11), .inr (5, [vR (R 12), vR (R 13), vI n3, vI (snd X3 Y3 n3)])), ((R 12), cI E 8 X3), ((R 13), cI E 8 Y3), ((R 14), .inr (5, [vR (R 15), vR (R 16), vI n4, vI (snd X4 Y4 n4)])), ((R 15), cI E 8 X4), ((R 16), cI E 8 Y4), ((R 17), cI E 8 S), ((R 34), .inr (1, [vI z, vL x, vL y, vL d])), ((R 35), .inr (2, [vR (R 36), vR (R 37), vI (ntN (((z = 1 ∧ hld X4 Y4 n4 x y d = true) ∧ (z = 1 ∧ hld X3 Y3 n3 x y d = true) ∧ sw = 0 ∧ S 6 ≤ bt_) ∨ (¬ (z = 1 ∧ hld X4 Y4 n4 x y d = true) ∧ sw = 1)) n)])), ((R 36), cI E 60 (ntA (((z = 1 ∧ hld X4 Y4 n4 x y d = true) ∧ (z = 1 ∧ hld X3 Y3 n3 x y d = true) ∧ sw = 0 ∧ S 6 ≤ bt_) ∨ (¬ (z = 1 ∧ hld X4 Y4 n4 x y d = true) ∧ sw = 1)) T n tm)), ((R 37), cI E 60 (ntA (((z = 1 ∧ hld X4 Y4 n4 x y d = true) ∧ (z = 1 ∧ hld X3 Y3 n3 x y d = true) ∧ sw = 0 ∧ S 6 ≤ bt_) ∨ (¬ (z = 1 ∧ hld X4 Y4 n4 x y d = true) ∧ sw = 1)) K n (if (¬ (z = 1 ∧ hld X4 Y4 n4 x y d = true) ∧ sw = 1) then 41 else 40)))]) zz_10 ?_
        exact g_vret C hr (Nat.le_of_ble_eq_true rfl) (Nat.le_of_ble_eq_true rfl) dX6_watchSwing_96 ⟨rfl, rfl⟩
      have c_4x : S 6 ≤ bt_ := by omega
      refine g_aload_n C 0 rfl dX6_watchSwing_78 rfl ?_
      refine g_iconst C dX6_watchSwing_79 rfl ?_
      refine g_put C tyX6 tyX6_ok nmX6 0 fd_X6_watchSwing_123 rfl rfl rfl rfl (by decide) (by decide) (Nat.le_of_ble_eq_true rfl) (ws' := [((R 0), .inr (7, [vR (R 1), vR (R 17), vR (R 18), vR (R 22), vR (R 25), vR (R 29), vR (R 31), vR (R 33), vR (R 34), vR (R 35), vI ma, vI mb, vI ag, vI bt_, vI 1, vI il, vI tr, vI tm])), ((R 1), cQ E 4 5 (pq R)), ((R 11), .inr (5, [vR (R 12), vR (R 13), vI n3, vI (snd X3 Y3 n3)])), ((R 12), cI E 8 X3), ((R 13), cI E 8 Y3), ((R 14), .inr (5, [vR (R 15), vR (R 16), vI n4, vI (snd X4 Y4 n4)])), ((R 15), cI E 8 X4), ((R 16), cI E 8 Y4), ((R 17), cI E 8 S), ((R 34), .inr (1, [vI z, vL x, vL y, vL d])), ((R 35), .inr (2, [vR (R 36), vR (R 37), vI n])), ((R 36), cI E 60 T), ((R 37), cI E 60 K)]) rfl dX6_watchSwing_80 rfl ?_
      refine g_aload_n C 0 rfl dX6_watchSwing_83 rfl ?_
      refine g_get C 0 fd_X6_watchSwing_71 rfl rfl rfl dX6_watchSwing_84 rfl ?_
      refine g_aload_n C 0 rfl dX6_watchSwing_87 rfl ?_
      refine g_get C 0 fd_X6_watchSwing_130 rfl rfl rfl dX6_watchSwing_88 rfl ?_
      refine g_bipush C (by decide) dX6_watchSwing_91 rfl ?_
      refine g_callV C (b := (R 35)) (As := [vI tm, vI 40]) (wc := [((R 35), .inr (2, [vR (R 36), vR (R 37), vI n])), ((R 36), cI E 60 T), ((R 37), cI E 60 K)]) (wr := [((R 0), .inr (7, [vR (R 1), vR (R 17), vR (R 18), vR (R 22), vR (R 25), vR (R 29), vR (R 31), vR (R 33), vR (R 34), vR (R 35), vI ma, vI mb, vI ag, vI bt_, vI 1, vI il, vI tr, vI tm])), ((R 1), cQ E 4 5 (pq R)), ((R 11), .inr (5, [vR (R 12), vR (R 13), vI n3, vI (snd X3 Y3 n3)])), ((R 12), cI E 8 X3), ((R 13), cI E 8 Y3), ((R 14), .inr (5, [vR (R 15), vR (R 16), vI n4, vI (snd X4 Y4 n4)])), ((R 15), cI E 8 X4), ((R 16), cI E 8 Y4), ((R 17), cI E 8 S), ((R 34), .inr (1, [vI z, vL x, vL y, vL d]))]) (st := []) gX6_watchSwing_X1_note (q9 := 0) (ci := 2) rfl rfl rfl (K_log_note l E (R 35) (R 36) (R 37) T K n tm 40 hn) hyd_X1_note rfl [10, 11, 12] [0, 1, 2, 3, 4, 5, 6, 7, 8, 9] rfl rfl rfl rfl rfl (by decide) ⟨rfl, rfl⟩ ⟨Nat.le_of_ble_eq_true rfl, Nat.le_of_ble_eq_true rfl, Nat.le_of_ble_eq_true rfl, Nat.le_of_ble_eq_true rfl⟩ (Nat.le_of_ble_eq_true rfl) dX6_watchSwing_93 (rfl : _ = 0) (rfl : _ = 0) rfl ?_
      rintro _ _ ⟨rfl, rfl⟩
      refine g_is (ws' := [((R 0), .inr (7, [vR (R 1), vR (R 17), vR (R 18), vR (R 22), vR (R 25), vR (R 29), vR (R 31), vR (R 33), vR (R 34), vR (R 35), vI ma, vI mb, vI ag, vI bt_, vI 1, vI il, vI tr, vI tm])), ((R 1), cQ E 4 5 (pq R)), ((R 11), .inr (5, [vR (R 12), vR (R 13), vI n3, vI (snd X3 Y3 n3)])), ((R 12), cI E 8 X3), ((R 13), cI E 8 Y3), ((R 14), .inr (5, [vR (R 15), vR (R 16), vI n4, vI (snd X4 Y4 n4)])), ((R 15), cI E 8 X4), ((R 16), cI E 8 Y4), ((R 17), cI E 8 S), ((R 34), .inr (1, [vI z, vL x, vL y, vL d])), ((R 35), .inr (2, [vR (R 36), vR (R 37), vI (n + 1)])), ((R 36), cI E 60 (ua T (Int.tmod n 60) tm)), ((R 37), cI E 60 (ua K (Int.tmod n 60) 40))]) (st' := []) rfl rfl ?_
      have z_11 : (if (z = 1 ∧ hld X4 Y4 n4 x y d = true) then (if (z = 1 ∧ hld X3 Y3 n3 x y d = true) then bt_ else bt_ + 1) else 0) = bt_ := by first | rfl | (simp only [*, if_true, if_false, true_and, and_true, not_true, not_false_eq_true, false_and, and_false, ntA, ntN]; done) | (simp [*, ntA, ntN]; done) | (simp_all [ntA, ntN]; done)
      have z_12 : (if (z = 1 ∧ hld X4 Y4 n4 x y d = true) then (if ((z = 1 ∧ hld X4 Y4 n4 x y d = true) ∧ (z = 1 ∧ hld X3 Y3 n3 x y d = true) ∧ sw = 0 ∧ S 6 ≤ bt_) then 1 else sw) else 0) = 1 := by first | rfl | (simp only [*, if_true, if_false, true_and, and_true, not_true, not_false_eq_true, false_and, and_false, ntA, ntN]; done) | (simp [*, ntA, ntN]; done) | (simp_all [ntA, ntN]; done)
      have z_13 : (ntN (((z = 1 ∧ hld X4 Y4 n4 x y d = true) ∧ (z = 1 ∧ hld X3 Y3 n3 x y d = true) ∧ sw = 0 ∧ S 6 ≤ bt_) ∨ (¬ (z = 1 ∧ hld X4 Y4 n4 x y d = true) ∧ sw = 1)) n) = (n + 1) := by first | rfl | (simp only [*, if_true, if_false, true_and, and_true, not_true, not_false_eq_true, false_and, and_false, ntA, ntN]; done) | (simp [*, ntA, ntN]; done) | (simp_all [ntA, ntN]; done)
      have z_14 : cI E 60 (ntA (((z = 1 ∧ hld X4 Y4 n4 x y d = true) ∧ (z = 1 ∧ hld X3 Y3 n3 x y d = true) ∧ sw = 0 ∧ S 6 ≤ bt_) ∨ (¬ (z = 1 ∧ hld X4 Y4 n4 x y d = true) ∧ sw = 1)) T n tm) = cI E 60 (ua T (Int.tmod n 60) tm) := cI_c (fun k_ k0_ k1_ => by first | rfl | (simp only [*, if_true, if_false, true_and, and_true, not_true, not_false_eq_true, false_and, and_false, ntA, ntN]; done) | (simp [*, ntA, ntN]; done) | (simp_all [ntA, ntN]; done))
      have z_15 : cI E 60 (ntA (((z = 1 ∧ hld X4 Y4 n4 x y d = true) ∧ (z = 1 ∧ hld X3 Y3 n3 x y d = true) ∧ sw = 0 ∧ S 6 ≤ bt_) ∨ (¬ (z = 1 ∧ hld X4 Y4 n4 x y d = true) ∧ sw = 1)) K n (if (¬ (z = 1 ∧ hld X4 Y4 n4 x y d = true) ∧ sw = 1) then 41 else 40)) = cI E 60 (ua K (Int.tmod n 60) 40) := cI_c (fun k_ k0_ k1_ => by first | rfl | (simp only [*, if_true, if_false, true_and, and_true, not_true, not_false_eq_true, false_and, and_false, ntA, ntN]; done) | (simp [*, ntA, ntN]; done) | (simp_all [ntA, ntN]; done))
      have zz_16 := congr (congr (congr (congr (congrArg (fun (y9_0 : Int) (y9_1 : Int) (y9_2 : Int) (y9_3 : va_E) (y9_4 : va_E) => ([((R 0), .inr (7, [vR (R 1), vR (R 17), vR (R 18), vR (R 22), vR (R 25), vR (R 29), vR (R 31), vR (R 33), vR (R 34), vR (R 35), vI ma, vI mb, vI ag, vI y9_0, vI y9_1, vI il, vI tr, vI tm])), ((R 1), cQ E 4 5 (pq R)), ((R 11), .inr (5, [vR (R 12), vR (R 13), vI n3, vI (snd X3 Y3 n3)])), ((R 12), cI E 8 X3), ((R 13), cI E 8 Y3), ((R 14), .inr (5, [vR (R 15), vR (R 16), vI n4, vI (snd X4 Y4 n4)])), ((R 15), cI E 8 X4), ((R 16), cI E 8 Y4), ((R 17), cI E 8 S), ((R 34), .inr (1, [vI z, vL x, vL y, vL d])), ((R 35), .inr (2, [vR (R 36), vR (R 37), vI y9_2])), ((R 36), y9_3), ((R 37), y9_4)] : va_W)) z_11) z_12) z_13) z_14) z_15
      refine g_ws (ws' := [((R 0), .inr (7, [vR (R 1), vR (R 17), vR (R 18), vR (R 22), vR (R 25), vR (R 29), vR (R 31), vR (R 33), vR (R 34), vR (R 35), vI ma, vI mb, vI ag, vI (if (z = 1 ∧ hld X4 Y4 n4 x y d = true) then (if (z = 1 ∧ hld X3 Y3 n3 x y d = true) then bt_ else bt_ + 1) else 0), vI (if (z = 1 ∧ hld X4 Y4 n4 x y d = true) then (if ((z = 1 ∧ hld X4 Y4 n4 x y d = true) ∧ (z = 1 ∧ hld X3 Y3 n3 x y d = true) ∧ sw = 0 ∧ S 6 ≤ bt_) then 1 else sw) else 0), vI il, vI tr, vI tm])), ((R 1), cQ E 4 5 (pq R)), ((R 11), .inr (5, [vR (R 12), vR (R 13), vI n3, vI (snd X3 Y3 n3)])), ((R 12), cI E 8 X3), ((R 13), cI E 8 Y3), ((R 14), .inr (5, [vR (R 15), vR (R 16), vI n4, vI (snd X4 Y4 n4)])), ((R 15), cI E 8 X4), ((R 16), cI E 8 Y4), ((R 17), cI E 8 S), ((R 34), .inr (1, [vI z, vL x, vL y, vL d])), ((R 35), .inr (2, [vR (R 36), vR (R 37), vI (ntN (((z = 1 ∧ hld X4 Y4 n4 x y d = true) ∧ (z = 1 ∧ hld X3 Y3 n3 x y d = true) ∧ sw = 0 ∧ S 6 ≤ bt_) ∨ (¬ (z = 1 ∧ hld X4 Y4 n4 x y d = true) ∧ sw = 1)) n)])), ((R 36), cI E 60 (ntA (((z = 1 ∧ hld X4 Y4 n4 x y d = true) ∧ (z = 1 ∧ hld X3 Y3 n3 x y d = true) ∧ sw = 0 ∧ S 6 ≤ bt_) ∨ (¬ (z = 1 ∧ hld X4 Y4 n4 x y d = true) ∧ sw = 1)) T n tm)), ((R 37), cI E 60 (ntA (((z = 1 ∧ hld X4 Y4 n4 x y d = true) ∧ (z = 1 ∧ hld X3 Y3 n3 x y d = true) ∧ sw = 0 ∧ S 6 ≤ bt_) ∨ (¬ (z = 1 ∧ hld X4 Y4 n4 x y d = true) ∧ sw = 1)) K n (if (¬ (z = 1 ∧ hld X4 Y4 n4 x y d = true) ∧ sw = 1) then 41 else 40)))]) zz_16 ?_
      exact g_vret C hr (Nat.le_of_ble_eq_true rfl) (Nat.le_of_ble_eq_true rfl) dX6_watchSwing_96 ⟨rfl, rfl⟩
    refine g_aload_n C 0 rfl dX6_watchSwing_44 rfl ?_
    refine g_dup C rfl dX6_watchSwing_45 rfl ?_
    refine g_get C 0 fd_X6_watchSwing_120 rfl rfl rfl dX6_watchSwing_46 rfl ?_
    refine g_iconst C dX6_watchSwing_49 rfl ?_
    refine g_iadd C rfl dX6_watchSwing_50 rfl ?_
    refine g_put C tyX6 tyX6_ok nmX6 0 fd_X6_watchSwing_120 rfl rfl rfl rfl rfl rfl (Nat.le_of_ble_eq_true rfl) (ws' := [((R 0), .inr (7, [vR (R 1), vR (R 17), vR (R 18), vR (R 22), vR (R 25), vR (R 29), vR (R 31), vR (R 33), vR (R 34), vR (R 35), vI ma, vI mb, vI ag, vI (bt_ + 1), vI sw, vI il, vI tr, vI tm])), ((R 1), cQ E 4 5 (pq R)), ((R 11), .inr (5, [vR (R 12), vR (R 13), vI n3, vI (snd X3 Y3 n3)])), ((R 12), cI E 8 X3), ((R 13), cI E 8 Y3), ((R 14), .inr (5, [vR (R 15), vR (R 16), vI n4, vI (snd X4 Y4 n4)])), ((R 15), cI E 8 X4), ((R 16), cI E 8 Y4), ((R 17), cI E 8 S), ((R 34), .inr (1, [vI z, vL x, vL y, vL d])), ((R 35), .inr (2, [vR (R 36), vR (R 37), vI n])), ((R 36), cI E 60 T), ((R 37), cI E 60 K)]) rfl dX6_watchSwing_51 rfl ?_
    refine g_goto C (pc' := 96) dX6_watchSwing_54 (by decide) ?_
    have z_17 : (if (z = 1 ∧ hld X4 Y4 n4 x y d = true) then (if (z = 1 ∧ hld X3 Y3 n3 x y d = true) then bt_ else bt_ + 1) else 0) = (bt_ + 1) := by first | rfl | (simp only [*, if_true, if_false, true_and, and_true, not_true, not_false_eq_true, false_and, and_false, ntA, ntN]; done) | (simp [*, ntA, ntN]; done) | (simp_all [ntA, ntN]; done)
    have z_18 : (if (z = 1 ∧ hld X4 Y4 n4 x y d = true) then (if ((z = 1 ∧ hld X4 Y4 n4 x y d = true) ∧ (z = 1 ∧ hld X3 Y3 n3 x y d = true) ∧ sw = 0 ∧ S 6 ≤ bt_) then 1 else sw) else 0) = sw := by first | rfl | (simp only [*, if_true, if_false, true_and, and_true, not_true, not_false_eq_true, false_and, and_false, ntA, ntN]; done) | (simp [*, ntA, ntN]; done) | (simp_all [ntA, ntN]; done)
    have z_19 : (ntN (((z = 1 ∧ hld X4 Y4 n4 x y d = true) ∧ (z = 1 ∧ hld X3 Y3 n3 x y d = true) ∧ sw = 0 ∧ S 6 ≤ bt_) ∨ (¬ (z = 1 ∧ hld X4 Y4 n4 x y d = true) ∧ sw = 1)) n) = n := by first | rfl | (simp only [*, if_true, if_false, true_and, and_true, not_true, not_false_eq_true, false_and, and_false, ntA, ntN]; done) | (simp [*, ntA, ntN]; done) | (simp_all [ntA, ntN]; done)
    have z_20 : cI E 60 (ntA (((z = 1 ∧ hld X4 Y4 n4 x y d = true) ∧ (z = 1 ∧ hld X3 Y3 n3 x y d = true) ∧ sw = 0 ∧ S 6 ≤ bt_) ∨ (¬ (z = 1 ∧ hld X4 Y4 n4 x y d = true) ∧ sw = 1)) T n tm) = cI E 60 T := cI_c (fun k_ k0_ k1_ => by first | rfl | (simp only [*, if_true, if_false, true_and, and_true, not_true, not_false_eq_true, false_and, and_false, ntA, ntN]; done) | (simp [*, ntA, ntN]; done) | (simp_all [ntA, ntN]; done))
    have z_21 : cI E 60 (ntA (((z = 1 ∧ hld X4 Y4 n4 x y d = true) ∧ (z = 1 ∧ hld X3 Y3 n3 x y d = true) ∧ sw = 0 ∧ S 6 ≤ bt_) ∨ (¬ (z = 1 ∧ hld X4 Y4 n4 x y d = true) ∧ sw = 1)) K n (if (¬ (z = 1 ∧ hld X4 Y4 n4 x y d = true) ∧ sw = 1) then 41 else 40)) = cI E 60 K := cI_c (fun k_ k0_ k1_ => by first | rfl | (simp only [*, if_true, if_false, true_and, and_true, not_true, not_false_eq_true, false_and, and_false, ntA, ntN]; done) | (simp [*, ntA, ntN]; done) | (simp_all [ntA, ntN]; done))
    have zz_22 := congr (congr (congr (congr (congrArg (fun (y9_0 : Int) (y9_1 : Int) (y9_2 : Int) (y9_3 : va_E) (y9_4 : va_E) => ([((R 0), .inr (7, [vR (R 1), vR (R 17), vR (R 18), vR (R 22), vR (R 25), vR (R 29), vR (R 31), vR (R 33), vR (R 34), vR (R 35), vI ma, vI mb, vI ag, vI y9_0, vI y9_1, vI il, vI tr, vI tm])), ((R 1), cQ E 4 5 (pq R)), ((R 11), .inr (5, [vR (R 12), vR (R 13), vI n3, vI (snd X3 Y3 n3)])), ((R 12), cI E 8 X3), ((R 13), cI E 8 Y3), ((R 14), .inr (5, [vR (R 15), vR (R 16), vI n4, vI (snd X4 Y4 n4)])), ((R 15), cI E 8 X4), ((R 16), cI E 8 Y4), ((R 17), cI E 8 S), ((R 34), .inr (1, [vI z, vL x, vL y, vL d])), ((R 35), .inr (2, [vR (R 36), vR (R 37), vI y9_2])), ((R 36), y9_3), ((R 37), y9_4)] : va_W)) z_17) z_18) z_19) z_20) z_21
    refine g_ws (ws' := [((R 0), .inr (7, [vR (R 1), vR (R 17), vR (R 18), vR (R 22), vR (R 25), vR (R 29), vR (R 31), vR (R 33), vR (R 34), vR (R 35), vI ma, vI mb, vI ag, vI (if (z = 1 ∧ hld X4 Y4 n4 x y d = true) then (if (z = 1 ∧ hld X3 Y3 n3 x y d = true) then bt_ else bt_ + 1) else 0), vI (if (z = 1 ∧ hld X4 Y4 n4 x y d = true) then (if ((z = 1 ∧ hld X4 Y4 n4 x y d = true) ∧ (z = 1 ∧ hld X3 Y3 n3 x y d = true) ∧ sw = 0 ∧ S 6 ≤ bt_) then 1 else sw) else 0), vI il, vI tr, vI tm])), ((R 1), cQ E 4 5 (pq R)), ((R 11), .inr (5, [vR (R 12), vR (R 13), vI n3, vI (snd X3 Y3 n3)])), ((R 12), cI E 8 X3), ((R 13), cI E 8 Y3), ((R 14), .inr (5, [vR (R 15), vR (R 16), vI n4, vI (snd X4 Y4 n4)])), ((R 15), cI E 8 X4), ((R 16), cI E 8 Y4), ((R 17), cI E 8 S), ((R 34), .inr (1, [vI z, vL x, vL y, vL d])), ((R 35), .inr (2, [vR (R 36), vR (R 37), vI (ntN (((z = 1 ∧ hld X4 Y4 n4 x y d = true) ∧ (z = 1 ∧ hld X3 Y3 n3 x y d = true) ∧ sw = 0 ∧ S 6 ≤ bt_) ∨ (¬ (z = 1 ∧ hld X4 Y4 n4 x y d = true) ∧ sw = 1)) n)])), ((R 36), cI E 60 (ntA (((z = 1 ∧ hld X4 Y4 n4 x y d = true) ∧ (z = 1 ∧ hld X3 Y3 n3 x y d = true) ∧ sw = 0 ∧ S 6 ≤ bt_) ∨ (¬ (z = 1 ∧ hld X4 Y4 n4 x y d = true) ∧ sw = 1)) T n tm)), ((R 37), cI E 60 (ntA (((z = 1 ∧ hld X4 Y4 n4 x y d = true) ∧ (z = 1 ∧ hld X3 Y3 n3 x y d = true) ∧ sw = 0 ∧ S 6 ≤ bt_) ∨ (¬ (z = 1 ∧ hld X4 Y4 n4 x y d = true) ∧ sw = 1)) K n (if (¬ (z = 1 ∧ hld X4 Y4 n4 x y d = true) ∧ sw = 1) then 41 else 40)))]) zz_22 ?_
    exact g_vret C hr (Nat.le_of_ble_eq_true rfl) (Nat.le_of_ble_eq_true rfl) dX6_watchSwing_96 ⟨rfl, rfl⟩
  refine g_aload_n C 0 rfl dX6_watchSwing_16 rfl ?_
  refine g_iconst C dX6_watchSwing_17 rfl ?_
  refine g_put C tyX6 tyX6_ok nmX6 0 fd_X6_watchSwing_120 rfl rfl rfl rfl rfl rfl (Nat.le_of_ble_eq_true rfl) (ws' := [((R 0), .inr (7, [vR (R 1), vR (R 17), vR (R 18), vR (R 22), vR (R 25), vR (R 29), vR (R 31), vR (R 33), vR (R 34), vR (R 35), vI ma, vI mb, vI ag, vI 0, vI sw, vI il, vI tr, vI tm])), ((R 1), cQ E 4 5 (pq R)), ((R 11), .inr (5, [vR (R 12), vR (R 13), vI n3, vI (snd X3 Y3 n3)])), ((R 12), cI E 8 X3), ((R 13), cI E 8 Y3), ((R 14), .inr (5, [vR (R 15), vR (R 16), vI n4, vI (snd X4 Y4 n4)])), ((R 15), cI E 8 X4), ((R 16), cI E 8 Y4), ((R 17), cI E 8 S), ((R 34), .inr (1, [vI z, vL x, vL y, vL d])), ((R 35), .inr (2, [vR (R 36), vR (R 37), vI n])), ((R 36), cI E 60 T), ((R 37), cI E 60 K)]) rfl dX6_watchSwing_18 rfl ?_
  refine g_aload_n C 0 rfl dX6_watchSwing_21 rfl ?_
  refine g_callV C (b := (R 0)) (As := []) (wc := [((R 0), .inr (7, [vR (R 1), vR (R 17), vR (R 18), vR (R 22), vR (R 25), vR (R 29), vR (R 31), vR (R 33), vR (R 34), vR (R 35), vI ma, vI mb, vI ag, vI 0, vI sw, vI il, vI tr, vI tm])), ((R 35), .inr (2, [vR (R 36), vR (R 37), vI n])), ((R 36), cI E 60 T), ((R 37), cI E 60 K)]) (wr := [((R 1), cQ E 4 5 (pq R)), ((R 11), .inr (5, [vR (R 12), vR (R 13), vI n3, vI (snd X3 Y3 n3)])), ((R 12), cI E 8 X3), ((R 13), cI E 8 Y3), ((R 14), .inr (5, [vR (R 15), vR (R 16), vI n4, vI (snd X4 Y4 n4)])), ((R 15), cI E 8 X4), ((R 16), cI E 8 Y4), ((R 17), cI E 8 S), ((R 34), .inr (1, [vI z, vL x, vL y, vL d]))]) (st := []) gX6_watchSwing_X6_endSwing (q9 := 0) (ci := 7) rfl rfl rfl (K_endSwing0 l E R ma mb ag 0 sw il tr tm T K n hsw) hyd_X6_endSwing rfl [0, 10, 11, 12] [1, 2, 3, 4, 5, 6, 7, 8, 9] rfl rfl rfl rfl rfl (by decide) ⟨rfl, rfl⟩ ⟨Nat.le_of_ble_eq_true rfl, Nat.le_of_ble_eq_true rfl, Nat.le_of_ble_eq_true rfl, Nat.le_of_ble_eq_true rfl⟩ (Nat.le_of_ble_eq_true rfl) dX6_watchSwing_22 (rfl : _ = 0) (rfl : _ = 0) rfl ?_
  rintro _ _ ⟨rfl, rfl⟩
  refine g_is (ws' := [((R 1), cQ E 4 5 (pq R)), ((R 11), .inr (5, [vR (R 12), vR (R 13), vI n3, vI (snd X3 Y3 n3)])), ((R 12), cI E 8 X3), ((R 13), cI E 8 Y3), ((R 14), .inr (5, [vR (R 15), vR (R 16), vI n4, vI (snd X4 Y4 n4)])), ((R 15), cI E 8 X4), ((R 16), cI E 8 Y4), ((R 17), cI E 8 S), ((R 34), .inr (1, [vI z, vL x, vL y, vL d])), ((R 0), .inr (7, [vR (R 1), vR (R 17), vR (R 18), vR (R 22), vR (R 25), vR (R 29), vR (R 31), vR (R 33), vR (R 34), vR (R 35), vI ma, vI mb, vI ag, vI 0, vI sw, vI il, vI tr, vI tm])), ((R 35), .inr (2, [vR (R 36), vR (R 37), vI n])), ((R 36), cI E 60 T), ((R 37), cI E 60 K)]) (st' := []) rfl rfl ?_
  refine g_sub (ws' := [((R 0), .inr (7, [vR (R 1), vR (R 17), vR (R 18), vR (R 22), vR (R 25), vR (R 29), vR (R 31), vR (R 33), vR (R 34), vR (R 35), vI ma, vI mb, vI ag, vI 0, vI sw, vI il, vI tr, vI tm])), ((R 1), cQ E 4 5 (pq R)), ((R 11), .inr (5, [vR (R 12), vR (R 13), vI n3, vI (snd X3 Y3 n3)])), ((R 12), cI E 8 X3), ((R 13), cI E 8 Y3), ((R 14), .inr (5, [vR (R 15), vR (R 16), vI n4, vI (snd X4 Y4 n4)])), ((R 15), cI E 8 X4), ((R 16), cI E 8 Y4), ((R 17), cI E 8 S), ((R 34), .inr (1, [vI z, vL x, vL y, vL d])), ((R 35), .inr (2, [vR (R 36), vR (R 37), vI n])), ((R 36), cI E 60 T), ((R 37), cI E 60 K)]) [9, 0, 1, 2, 3, 4, 5, 6, 7, 8, 10, 11, 12] rfl rfl rfl ?_
  refine g_goto C (pc' := 96) dX6_watchSwing_25 (by decide) ?_
  have z_23 : (if (z = 1 ∧ hld X4 Y4 n4 x y d = true) then (if (z = 1 ∧ hld X3 Y3 n3 x y d = true) then bt_ else bt_ + 1) else 0) = 0 := by first | rfl | (simp only [*, if_true, if_false, true_and, and_true, not_true, not_false_eq_true, false_and, and_false, ntA, ntN]; done) | (simp [*, ntA, ntN]; done) | (simp_all [ntA, ntN]; done)
  have z_24 : (if (z = 1 ∧ hld X4 Y4 n4 x y d = true) then (if ((z = 1 ∧ hld X4 Y4 n4 x y d = true) ∧ (z = 1 ∧ hld X3 Y3 n3 x y d = true) ∧ sw = 0 ∧ S 6 ≤ bt_) then 1 else sw) else 0) = sw := by first | rfl | (simp only [*, if_true, if_false, true_and, and_true, not_true, not_false_eq_true, false_and, and_false, ntA, ntN]; done) | (simp [*, ntA, ntN]; done) | (simp_all [ntA, ntN]; done)
  have z_25 : (ntN (((z = 1 ∧ hld X4 Y4 n4 x y d = true) ∧ (z = 1 ∧ hld X3 Y3 n3 x y d = true) ∧ sw = 0 ∧ S 6 ≤ bt_) ∨ (¬ (z = 1 ∧ hld X4 Y4 n4 x y d = true) ∧ sw = 1)) n) = n := by first | rfl | (simp only [*, if_true, if_false, true_and, and_true, not_true, not_false_eq_true, false_and, and_false, ntA, ntN]; done) | (simp [*, ntA, ntN]; done) | (simp_all [ntA, ntN]; done)
  have z_26 : cI E 60 (ntA (((z = 1 ∧ hld X4 Y4 n4 x y d = true) ∧ (z = 1 ∧ hld X3 Y3 n3 x y d = true) ∧ sw = 0 ∧ S 6 ≤ bt_) ∨ (¬ (z = 1 ∧ hld X4 Y4 n4 x y d = true) ∧ sw = 1)) T n tm) = cI E 60 T := cI_c (fun k_ k0_ k1_ => by first | rfl | (simp only [*, if_true, if_false, true_and, and_true, not_true, not_false_eq_true, false_and, and_false, ntA, ntN]; done) | (simp [*, ntA, ntN]; done) | (simp_all [ntA, ntN]; done))
  have z_27 : cI E 60 (ntA (((z = 1 ∧ hld X4 Y4 n4 x y d = true) ∧ (z = 1 ∧ hld X3 Y3 n3 x y d = true) ∧ sw = 0 ∧ S 6 ≤ bt_) ∨ (¬ (z = 1 ∧ hld X4 Y4 n4 x y d = true) ∧ sw = 1)) K n (if (¬ (z = 1 ∧ hld X4 Y4 n4 x y d = true) ∧ sw = 1) then 41 else 40)) = cI E 60 K := cI_c (fun k_ k0_ k1_ => by first | rfl | (simp only [*, if_true, if_false, true_and, and_true, not_true, not_false_eq_true, false_and, and_false, ntA, ntN]; done) | (simp [*, ntA, ntN]; done) | (simp_all [ntA, ntN]; done))
  have zz_28 := congr (congr (congr (congr (congrArg (fun (y9_0 : Int) (y9_1 : Int) (y9_2 : Int) (y9_3 : va_E) (y9_4 : va_E) => ([((R 0), .inr (7, [vR (R 1), vR (R 17), vR (R 18), vR (R 22), vR (R 25), vR (R 29), vR (R 31), vR (R 33), vR (R 34), vR (R 35), vI ma, vI mb, vI ag, vI y9_0, vI y9_1, vI il, vI tr, vI tm])), ((R 1), cQ E 4 5 (pq R)), ((R 11), .inr (5, [vR (R 12), vR (R 13), vI n3, vI (snd X3 Y3 n3)])), ((R 12), cI E 8 X3), ((R 13), cI E 8 Y3), ((R 14), .inr (5, [vR (R 15), vR (R 16), vI n4, vI (snd X4 Y4 n4)])), ((R 15), cI E 8 X4), ((R 16), cI E 8 Y4), ((R 17), cI E 8 S), ((R 34), .inr (1, [vI z, vL x, vL y, vL d])), ((R 35), .inr (2, [vR (R 36), vR (R 37), vI y9_2])), ((R 36), y9_3), ((R 37), y9_4)] : va_W)) z_23) z_24) z_25) z_26) z_27
  refine g_ws (ws' := [((R 0), .inr (7, [vR (R 1), vR (R 17), vR (R 18), vR (R 22), vR (R 25), vR (R 29), vR (R 31), vR (R 33), vR (R 34), vR (R 35), vI ma, vI mb, vI ag, vI (if (z = 1 ∧ hld X4 Y4 n4 x y d = true) then (if (z = 1 ∧ hld X3 Y3 n3 x y d = true) then bt_ else bt_ + 1) else 0), vI (if (z = 1 ∧ hld X4 Y4 n4 x y d = true) then (if ((z = 1 ∧ hld X4 Y4 n4 x y d = true) ∧ (z = 1 ∧ hld X3 Y3 n3 x y d = true) ∧ sw = 0 ∧ S 6 ≤ bt_) then 1 else sw) else 0), vI il, vI tr, vI tm])), ((R 1), cQ E 4 5 (pq R)), ((R 11), .inr (5, [vR (R 12), vR (R 13), vI n3, vI (snd X3 Y3 n3)])), ((R 12), cI E 8 X3), ((R 13), cI E 8 Y3), ((R 14), .inr (5, [vR (R 15), vR (R 16), vI n4, vI (snd X4 Y4 n4)])), ((R 15), cI E 8 X4), ((R 16), cI E 8 Y4), ((R 17), cI E 8 S), ((R 34), .inr (1, [vI z, vL x, vL y, vL d])), ((R 35), .inr (2, [vR (R 36), vR (R 37), vI (ntN (((z = 1 ∧ hld X4 Y4 n4 x y d = true) ∧ (z = 1 ∧ hld X3 Y3 n3 x y d = true) ∧ sw = 0 ∧ S 6 ≤ bt_) ∨ (¬ (z = 1 ∧ hld X4 Y4 n4 x y d = true) ∧ sw = 1)) n)])), ((R 36), cI E 60 (ntA (((z = 1 ∧ hld X4 Y4 n4 x y d = true) ∧ (z = 1 ∧ hld X3 Y3 n3 x y d = true) ∧ sw = 0 ∧ S 6 ≤ bt_) ∨ (¬ (z = 1 ∧ hld X4 Y4 n4 x y d = true) ∧ sw = 1)) T n tm)), ((R 37), cI E 60 (ntA (((z = 1 ∧ hld X4 Y4 n4 x y d = true) ∧ (z = 1 ∧ hld X3 Y3 n3 x y d = true) ∧ sw = 0 ∧ S 6 ≤ bt_) ∨ (¬ (z = 1 ∧ hld X4 Y4 n4 x y d = true) ∧ sw = 1)) K n (if (¬ (z = 1 ∧ hld X4 Y4 n4 x y d = true) ∧ sw = 1) then 41 else 40)))]) zz_28 ?_
  exact g_vret C hr (Nat.le_of_ble_eq_true rfl) (Nat.le_of_ble_eq_true rfl) dX6_watchSwing_96 ⟨rfl, rfl⟩

abbrev rm_K_watch1 : Room := { frames := 3, cells := 0, slots := 0, locals := 74 }
set_option maxHeartbeats 8000000 in
set_option maxRecDepth 100000 in
theorem K_watch1 (l : Launch) (E : Ev) (R : Nat → Nat) (ma mb ag bt_ sw il tr tm : Int) (S T K X3 Y3 : Int → Int) (n3 : Int) (X4 Y4 : Int → Int) (n4 z x y d n : Int) (hsw : sw = 1) (hbt : 0 ≤ bt_ ∧ bt_ < 2000000000) (hs6 : 1 ≤ S 6 ∧ S 6 ≤ 1000) (hn3 : 0 ≤ n3 ∧ n3 ≤ 8) (hX3 : cbA X3) (hY3 : cbA Y3) (hn4 : 0 ≤ n4 ∧ n4 ≤ 8) (hX4 : cbA X4) (hY4 : cbA Y4) (hz : z = 0 ∨ z = 1) (hx : -5300000000000 ≤ x ∧ x ≤ 5300000000000) (hy : -5300000000000 ≤ y ∧ y ≤ 5300000000000) (hd : 0 ≤ d ∧ d ≤ 5210000000) (hn : 0 ≤ n ∧ n < 2000000000) : Mc l yX6_watchSwing wsX6_watchSwing rm_K_watch1 E [vR (R 0)] [((R 0), .inr (7, [vR (R 1), vR (R 17), vR (R 18), vR (R 22), vR (R 25), vR (R 29), vR (R 31), vR (R 33), vR (R 34), vR (R 35), vI ma, vI mb, vI ag, vI bt_, vI sw, vI il, vI tr, vI tm])), ((R 1), cQ E 4 5 (pq R)), ((R 11), .inr (5, [vR (R 12), vR (R 13), vI n3, vI (snd X3 Y3 n3)])), ((R 12), cI E 8 X3), ((R 13), cI E 8 Y3), ((R 14), .inr (5, [vR (R 15), vR (R 16), vI n4, vI (snd X4 Y4 n4)])), ((R 15), cI E 8 X4), ((R 16), cI E 8 Y4), ((R 17), cI E 8 S), ((R 34), .inr (1, [vI z, vL x, vL y, vL d])), ((R 35), .inr (2, [vR (R 36), vR (R 37), vI n])), ((R 36), cI E 60 T), ((R 37), cI E 60 K)] 0 0 (fun v9 w9 => v9 = none ∧ w9 = [((R 0), .inr (7, [vR (R 1), vR (R 17), vR (R 18), vR (R 22), vR (R 25), vR (R 29), vR (R 31), vR (R 33), vR (R 34), vR (R 35), vI ma, vI mb, vI ag, vI (if (z = 1 ∧ hld X4 Y4 n4 x y d = true) then (if (z = 1 ∧ hld X3 Y3 n3 x y d = true) then bt_ else bt_ + 1) else 0), vI (if (z = 1 ∧ hld X4 Y4 n4 x y d = true) then (if ((z = 1 ∧ hld X4 Y4 n4 x y d = true) ∧ (z = 1 ∧ hld X3 Y3 n3 x y d = true) ∧ sw = 0 ∧ S 6 ≤ bt_) then 1 else sw) else 0), vI il, vI tr, vI tm])), ((R 1), cQ E 4 5 (pq R)), ((R 11), .inr (5, [vR (R 12), vR (R 13), vI n3, vI (snd X3 Y3 n3)])), ((R 12), cI E 8 X3), ((R 13), cI E 8 Y3), ((R 14), .inr (5, [vR (R 15), vR (R 16), vI n4, vI (snd X4 Y4 n4)])), ((R 15), cI E 8 X4), ((R 16), cI E 8 Y4), ((R 17), cI E 8 S), ((R 34), .inr (1, [vI z, vL x, vL y, vL d])), ((R 35), .inr (2, [vR (R 36), vR (R 37), vI (ntN (((z = 1 ∧ hld X4 Y4 n4 x y d = true) ∧ (z = 1 ∧ hld X3 Y3 n3 x y d = true) ∧ sw = 0 ∧ S 6 ≤ bt_) ∨ (¬ (z = 1 ∧ hld X4 Y4 n4 x y d = true) ∧ sw = 1)) n)])), ((R 36), cI E 60 (ntA (((z = 1 ∧ hld X4 Y4 n4 x y d = true) ∧ (z = 1 ∧ hld X3 Y3 n3 x y d = true) ∧ sw = 0 ∧ S 6 ≤ bt_) ∨ (¬ (z = 1 ∧ hld X4 Y4 n4 x y d = true) ∧ sw = 1)) T n tm)), ((R 37), cI E 60 (ntA (((z = 1 ∧ hld X4 Y4 n4 x y d = true) ∧ (z = 1 ∧ hld X3 Y3 n3 x y d = true) ∧ sw = 0 ∧ S 6 ≤ bt_) ∨ (¬ (z = 1 ∧ hld X4 Y4 n4 x y d = true) ∧ sw = 1)) K n (if (¬ (z = 1 ∧ hld X4 Y4 n4 x y d = true) ∧ sw = 1) then 41 else 40)))]) := by
  refine Mc.intro (cc := cX6_watchSwing) (maxL := 1) (ret := none) (lv0 := [(0, vR (R 0))]) (by decide +kernel) rfl rfl (Nat.le_of_ble_eq_true rfl) ?_
  intro p9 e9 s9 m9 args9 below9 meth9 c9 A9 C hr hmn
  have C : Cx p9 s9 m9 args9 meth9 c9 E A9 1 cX6_watchSwing wsX6_watchSwing RX6 := C
  refine g_aload_n C 0 rfl dX6_watchSwing_0 rfl ?_
  refine g_get C 0 fd_X6_watchSwing_64 rfl rfl rfl dX6_watchSwing_1 rfl ?_
  refine g_aload_n C 0 rfl dX6_watchSwing_4 rfl ?_
  refine g_get C 0 fd_X6_watchSwing_11 rfl rfl rfl dX6_watchSwing_5 rfl ?_
  refine g_iconst C dX6_watchSwing_8 rfl ?_
  refine g_aald C 1 4 rfl rfl (by decide) (by decide) (by decide) rfl dX6_watchSwing_9 rfl ?_
  refine g_callV C (b := (R 34)) (As := [vR (R 14)]) (wc := [((R 34), .inr (1, [vI z, vL x, vL y, vL d])), ((R 14), .inr (5, [vR (R 15), vR (R 16), vI n4, vI (snd X4 Y4 n4)])), ((R 15), cI E 8 X4), ((R 16), cI E 8 Y4)]) (wr := [((R 0), .inr (7, [vR (R 1), vR (R 17), vR (R 18), vR (R 22), vR (R 25), vR (R 29), vR (R 31), vR (R 33), vR (R 34), vR (R 35), vI ma, vI mb, vI ag, vI bt_, vI sw, vI il, vI tr, vI tm])), ((R 1), cQ E 4 5 (pq R)), ((R 11), .inr (5, [vR (R 12), vR (R 13), vI n3, vI (snd X3 Y3 n3)])), ((R 12), cI E 8 X3), ((R 13), cI E 8 Y3), ((R 17), cI E 8 S), ((R 35), .inr (2, [vR (R 36), vR (R 37), vI n])), ((R 36), cI E 60 T), ((R 37), cI E 60 K)]) (st := []) gX6_watchSwing_X0_isIn (q9 := 0) (ci := 1) rfl rfl rfl (K_imp_isIn l E (R 34) (R 14) (R 15) (R 16) X4 Y4 n4 (snd X4 Y4 n4) z x y d hn4 hX4 hY4 rfl hz hx hy hd) hyd_X0_isIn rfl [9, 5, 6, 7] [0, 1, 2, 3, 4, 8, 10, 11, 12] rfl rfl rfl rfl rfl (by decide) ⟨rfl, rfl⟩ ⟨Nat.le_of_ble_eq_true rfl, Nat.le_of_ble_eq_true rfl, Nat.le_of_ble_eq_true rfl, Nat.le_of_ble_eq_true rfl⟩ (Nat.le_of_ble_eq_true rfl) dX6_watchSwing_10 (rfl : _ = 0) (rfl : _ = 0) rfl ?_
  rintro _ _ ⟨rfl, rfl⟩
  refine g_is (ws' := [((R 0), .inr (7, [vR (R 1), vR (R 17), vR (R 18), vR (R 22), vR (R 25), vR (R 29), vR (R 31), vR (R 33), vR (R 34), vR (R 35), vI ma, vI mb, vI ag, vI bt_, vI sw, vI il, vI tr, vI tm])), ((R 1), cQ E 4 5 (pq R)), ((R 11), .inr (5, [vR (R 12), vR (R 13), vI n3, vI (snd X3 Y3 n3)])), ((R 12), cI E 8 X3), ((R 13), cI E 8 Y3), ((R 17), cI E 8 S), ((R 35), .inr (2, [vR (R 36), vR (R 37), vI n])), ((R 36), cI E 60 T), ((R 37), cI E 60 K), ((R 34), .inr (1, [vI z, vL x, vL y, vL d])), ((R 14), .inr (5, [vR (R 15), vR (R 16), vI n4, vI (snd X4 Y4 n4)])), ((R 15), cI E 8 X4), ((R 16), cI E 8 Y4)]) (st' := [vI (bP (z = 1 ∧ hld X4 Y4 n4 x y d = true))]) rfl rfl ?_
  refine g_sub (ws' := [((R 0), .inr (7, [vR (R 1), vR (R 17), vR (R 18), vR (R 22), vR (R 25), vR (R 29), vR (R 31), vR (R 33), vR (R 34), vR (R 35), vI ma, vI mb, vI ag, vI bt_, vI sw, vI il, vI tr, vI tm])), ((R 1), cQ E 4 5 (pq R)), ((R 11), .inr (5, [vR (R 12), vR (R 13), vI n3, vI (snd X3 Y3 n3)])), ((R 12), cI E 8 X3), ((R 13), cI E 8 Y3), ((R 14), .inr (5, [vR (R 15), vR (R 16), vI n4, vI (snd X4 Y4 n4)])), ((R 15), cI E 8 X4), ((R 16), cI E 8 Y4), ((R 17), cI E 8 S), ((R 34), .inr (1, [vI z, vL x, vL y, vL d])), ((R 35), .inr (2, [vR (R 36), vR (R 37), vI n])), ((R 36), cI E 60 T), ((R 37), cI E 60 K)]) [0, 1, 2, 3, 4, 10, 11, 12, 5, 9, 6, 7, 8] rfl rfl rfl ?_
  refine g_ifb_ne C (tgt := 28) dX6_watchSwing_13 (by decide) rfl (fun c_1 => ?_) (fun c_1 => ?_)
  · refine g_aload_n C 0 rfl dX6_watchSwing_28 rfl ?_
    refine g_get C 0 fd_X6_watchSwing_64 rfl rfl rfl dX6_watchSwing_29 rfl ?_
    refine g_aload_n C 0 rfl dX6_watchSwing_32 rfl ?_
    refine g_get C 0 fd_X6_watchSwing_11 rfl rfl rfl dX6_watchSwing_33 rfl ?_
    refine g_iconst C dX6_watchSwing_36 rfl ?_
    refine g_aald C 1 4 rfl rfl (by decide) (by decide) (by decide) rfl dX6_watchSwing_37 rfl ?_
    refine g_callV C (b := (R 34)) (As := [vR (R 11)]) (wc := [((R 34), .inr (1, [vI z, vL x, vL y, vL d])), ((R 11), .inr (5, [vR (R 12), vR (R 13), vI n3, vI (snd X3 Y3 n3)])), ((R 12), cI E 8 X3), ((R 13), cI E 8 Y3)]) (wr := [((R 0), .inr (7, [vR (R 1), vR (R 17), vR (R 18), vR (R 22), vR (R 25), vR (R 29), vR (R 31), vR (R 33), vR (R 34), vR (R 35), vI ma, vI mb, vI ag, vI bt_, vI sw, vI il, vI tr, vI tm])), ((R 1), cQ E 4 5 (pq R)), ((R 14), .inr (5, [vR (R 15), vR (R 16), vI n4, vI (snd X4 Y4 n4)])), ((R 15), cI E 8 X4), ((R 16), cI E 8 Y4), ((R 17), cI E 8 S), ((R 35), .inr (2, [vR (R 36), vR (R 37), vI n])), ((R 36), cI E 60 T), ((R 37), cI E 60 K)]) (st := []) gX6_watchSwing_X0_isIn (q9 := 0) (ci := 1) rfl rfl rfl (K_imp_isIn l E (R 34) (R 11) (R 12) (R 13) X3 Y3 n3 (snd X3 Y3 n3) z x y d hn3 hX3 hY3 rfl hz hx hy hd) hyd_X0_isIn rfl [9, 2, 3, 4] [0, 1, 5, 6, 7, 8, 10, 11, 12] rfl rfl rfl rfl rfl (by decide) ⟨rfl, rfl⟩ ⟨Nat.le_of_ble_eq_true rfl, Nat.le_of_ble_eq_true rfl, Nat.le_of_ble_eq_true rfl, Nat.le_of_ble_eq_true rfl⟩ (Nat.le_of_ble_eq_true rfl) dX6_watchSwing_38 (rfl : _ = 0) (rfl : _ = 0) rfl ?_
    rintro _ _ ⟨rfl, rfl⟩
    refine g_is (ws' := [((R 0), .inr (7, [vR (R 1), vR (R 17), vR (R 18), vR (R 22), vR (R 25), vR (R 29), vR (R 31), vR (R 33), vR (R 34), vR (R 35), vI ma, vI mb, vI ag, vI bt_, vI sw, vI il, vI tr, vI tm])), ((R 1), cQ E 4 5 (pq R)), ((R 14), .inr (5, [vR (R 15), vR (R 16), vI n4, vI (snd X4 Y4 n4)])), ((R 15), cI E 8 X4), ((R 16), cI E 8 Y4), ((R 17), cI E 8 S), ((R 35), .inr (2, [vR (R 36), vR (R 37), vI n])), ((R 36), cI E 60 T), ((R 37), cI E 60 K), ((R 34), .inr (1, [vI z, vL x, vL y, vL d])), ((R 11), .inr (5, [vR (R 12), vR (R 13), vI n3, vI (snd X3 Y3 n3)])), ((R 12), cI E 8 X3), ((R 13), cI E 8 Y3)]) (st' := [vI (bP (z = 1 ∧ hld X3 Y3 n3 x y d = true))]) rfl rfl ?_
    refine g_sub (ws' := [((R 0), .inr (7, [vR (R 1), vR (R 17), vR (R 18), vR (R 22), vR (R 25), vR (R 29), vR (R 31), vR (R 33), vR (R 34), vR (R 35), vI ma, vI mb, vI ag, vI bt_, vI sw, vI il, vI tr, vI tm])), ((R 1), cQ E 4 5 (pq R)), ((R 11), .inr (5, [vR (R 12), vR (R 13), vI n3, vI (snd X3 Y3 n3)])), ((R 12), cI E 8 X3), ((R 13), cI E 8 Y3), ((R 14), .inr (5, [vR (R 15), vR (R 16), vI n4, vI (snd X4 Y4 n4)])), ((R 15), cI E 8 X4), ((R 16), cI E 8 Y4), ((R 17), cI E 8 S), ((R 34), .inr (1, [vI z, vL x, vL y, vL d])), ((R 35), .inr (2, [vR (R 36), vR (R 37), vI n])), ((R 36), cI E 60 T), ((R 37), cI E 60 K)]) [0, 1, 10, 11, 12, 2, 3, 4, 5, 9, 6, 7, 8] rfl rfl rfl ?_
    refine g_ifb_ne C (tgt := 57) dX6_watchSwing_41 (by decide) rfl (fun c_2 => ?_) (fun c_2 => ?_)
    · refine g_aload_n C 0 rfl dX6_watchSwing_57 rfl ?_
      refine g_get C 0 fd_X6_watchSwing_123 rfl rfl rfl dX6_watchSwing_58 rfl ?_
      refine g_if_ne C (tgt := 96) (by rw [hsw]; exact ⟨by decide, by decide⟩) dX6_watchSwing_61 (by decide) rfl (fun c_3 => ?_) (fun c_3 => ?_)
      · have z_4 : (if (z = 1 ∧ hld X4 Y4 n4 x y d = true) then (if (z = 1 ∧ hld X3 Y3 n3 x y d = true) then bt_ else bt_ + 1) else 0) = bt_ := by first | rfl | (simp only [*, if_true, if_false, true_and, and_true, not_true, not_false_eq_true, false_and, and_false, ntA, ntN]; done) | (simp [*, ntA, ntN]; done) | (simp_all [ntA, ntN]; done)
        have z_5 : (if (z = 1 ∧ hld X4 Y4 n4 x y d = true) then (if ((z = 1 ∧ hld X4 Y4 n4 x y d = true) ∧ (z = 1 ∧ hld X3 Y3 n3 x y d = true) ∧ sw = 0 ∧ S 6 ≤ bt_) then 1 else sw) else 0) = sw := by first | rfl | (simp only [*, if_true, if_false, true_and, and_true, not_true, not_false_eq_true, false_and, and_false, ntA, ntN]; done) | (simp [*, ntA, ntN]; done) | (simp_all [ntA, ntN]; done)
        have z_6 : (ntN (((z = 1 ∧ hld X4 Y4 n4 x y d = true) ∧ (z = 1 ∧ hld X3 Y3 n3 x y d = true) ∧ sw = 0 ∧ S 6 ≤ bt_) ∨ (¬ (z = 1 ∧ hld X4 Y4 n4 x y d = true) ∧ sw = 1)) n) = n := by first | rfl | (simp only [*, if_true, if_false, true_and, and_true, not_true, not_false_eq_true, false_and, and_false, ntA, ntN]; done) | (simp [*, ntA, ntN]; done) | (simp_all [ntA, ntN]; done)
        have z_7 : cI E 60 (ntA (((z = 1 ∧ hld X4 Y4 n4 x y d = true) ∧ (z = 1 ∧ hld X3 Y3 n3 x y d = true) ∧ sw = 0 ∧ S 6 ≤ bt_) ∨ (¬ (z = 1 ∧ hld X4 Y4 n4 x y d = true) ∧ sw = 1)) T n tm) = cI E 60 T := cI_c (fun k_ k0_ k1_ => by first | rfl | (simp only [*, if_true, if_false, true_and, and_true, not_true, not_false_eq_true, false_and, and_false, ntA, ntN]; done) | (simp [*, ntA, ntN]; done) | (simp_all [ntA, ntN]; done))
        have z_8 : cI E 60 (ntA (((z = 1 ∧ hld X4 Y4 n4 x y d = true) ∧ (z = 1 ∧ hld X3 Y3 n3 x y d = true) ∧ sw = 0 ∧ S 6 ≤ bt_) ∨ (¬ (z = 1 ∧ hld X4 Y4 n4 x y d = true) ∧ sw = 1)) K n (if (¬ (z = 1 ∧ hld X4 Y4 n4 x y d = true) ∧ sw = 1) then 41 else 40)) = cI E 60 K := cI_c (fun k_ k0_ k1_ => by first | rfl | (simp only [*, if_true, if_false, true_and, and_true, not_true, not_false_eq_true, false_and, and_false, ntA, ntN]; done) | (simp [*, ntA, ntN]; done) | (simp_all [ntA, ntN]; done))
        have zz_9 := congr (congr (congr (congr (congrArg (fun (y9_0 : Int) (y9_1 : Int) (y9_2 : Int) (y9_3 : va_E) (y9_4 : va_E) => ([((R 0), .inr (7, [vR (R 1), vR (R 17), vR (R 18), vR (R 22), vR (R 25), vR (R 29), vR (R 31), vR (R 33), vR (R 34), vR (R 35), vI ma, vI mb, vI ag, vI y9_0, vI y9_1, vI il, vI tr, vI tm])), ((R 1), cQ E 4 5 (pq R)), ((R 11), .inr (5, [vR (R 12), vR (R 13), vI n3, vI (snd X3 Y3 n3)])), ((R 12), cI E 8 X3), ((R 13), cI E 8 Y3), ((R 14), .inr (5, [vR (R 15), vR (R 16), vI n4, vI (snd X4 Y4 n4)])), ((R 15), cI E 8 X4), ((R 16), cI E 8 Y4), ((R 17), cI E 8 S), ((R 34), .inr (1, [vI z, vL x, vL y, vL d])), ((R 35), .inr (2, [vR (R 36), vR (R 37), vI y9_2])), ((R 36), y9_3), ((R 37), y9_4)] : va_W)) z_4) z_5) z_6) z_7) z_8
        refine g_ws (ws' := [((R 0), .inr (7, [vR (R 1), vR (R 17), vR (R 18), vR (R 22), vR (R 25), vR (R 29), vR (R 31), vR (R 33), vR (R 34), vR (R 35), vI ma, vI mb, vI ag, vI (if (z = 1 ∧ hld X4 Y4 n4 x y d = true) then (if (z = 1 ∧ hld X3 Y3 n3 x y d = true) then bt_ else bt_ + 1) else 0), vI (if (z = 1 ∧ hld X4 Y4 n4 x y d = true) then (if ((z = 1 ∧ hld X4 Y4 n4 x y d = true) ∧ (z = 1 ∧ hld X3 Y3 n3 x y d = true) ∧ sw = 0 ∧ S 6 ≤ bt_) then 1 else sw) else 0), vI il, vI tr, vI tm])), ((R 1), cQ E 4 5 (pq R)), ((R 11), .inr (5, [vR (R 12), vR (R 13), vI n3, vI (snd X3 Y3 n3)])), ((R 12), cI E 8 X3), ((R 13), cI E 8 Y3), ((R 14), .inr (5, [vR (R 15), vR (R 16), vI n4, vI (snd X4 Y4 n4)])), ((R 15), cI E 8 X4), ((R 16), cI E 8 Y4), ((R 17), cI E 8 S), ((R 34), .inr (1, [vI z, vL x, vL y, vL d])), ((R 35), .inr (2, [vR (R 36), vR (R 37), vI (ntN (((z = 1 ∧ hld X4 Y4 n4 x y d = true) ∧ (z = 1 ∧ hld X3 Y3 n3 x y d = true) ∧ sw = 0 ∧ S 6 ≤ bt_) ∨ (¬ (z = 1 ∧ hld X4 Y4 n4 x y d = true) ∧ sw = 1)) n)])), ((R 36), cI E 60 (ntA (((z = 1 ∧ hld X4 Y4 n4 x y d = true) ∧ (z = 1 ∧ hld X3 Y3 n3 x y d = true) ∧ sw = 0 ∧ S 6 ≤ bt_) ∨ (¬ (z = 1 ∧ hld X4 Y4 n4 x y d = true) ∧ sw = 1)) T n tm)), ((R 37), cI E 60 (ntA (((z = 1 ∧ hld X4 Y4 n4 x y d = true) ∧ (z = 1 ∧ hld X3 Y3 n3 x y d = true) ∧ sw = 0 ∧ S 6 ≤ bt_) ∨ (¬ (z = 1 ∧ hld X4 Y4 n4 x y d = true) ∧ sw = 1)) K n (if (¬ (z = 1 ∧ hld X4 Y4 n4 x y d = true) ∧ sw = 1) then 41 else 40)))]) zz_9 ?_
        exact g_vret C hr (Nat.le_of_ble_eq_true rfl) (Nat.le_of_ble_eq_true rfl) dX6_watchSwing_96 ⟨rfl, rfl⟩
      exfalso; exact absurd (by assumption) (show ¬ sw = 0 by omega)
    refine g_aload_n C 0 rfl dX6_watchSwing_44 rfl ?_
    refine g_dup C rfl dX6_watchSwing_45 rfl ?_
    refine g_get C 0 fd_X6_watchSwing_120 rfl rfl rfl dX6_watchSwing_46 rfl ?_
    refine g_iconst C dX6_watchSwing_49 rfl ?_
    refine g_iadd C rfl dX6_watchSwing_50 rfl ?_
    refine g_put C tyX6 tyX6_ok nmX6 0 fd_X6_watchSwing_120 rfl rfl rfl rfl rfl rfl (Nat.le_of_ble_eq_true rfl) (ws' := [((R 0), .inr (7, [vR (R 1), vR (R 17), vR (R 18), vR (R 22), vR (R 25), vR (R 29), vR (R 31), vR (R 33), vR (R 34), vR (R 35), vI ma, vI mb, vI ag, vI (bt_ + 1), vI sw, vI il, vI tr, vI tm])), ((R 1), cQ E 4 5 (pq R)), ((R 11), .inr (5, [vR (R 12), vR (R 13), vI n3, vI (snd X3 Y3 n3)])), ((R 12), cI E 8 X3), ((R 13), cI E 8 Y3), ((R 14), .inr (5, [vR (R 15), vR (R 16), vI n4, vI (snd X4 Y4 n4)])), ((R 15), cI E 8 X4), ((R 16), cI E 8 Y4), ((R 17), cI E 8 S), ((R 34), .inr (1, [vI z, vL x, vL y, vL d])), ((R 35), .inr (2, [vR (R 36), vR (R 37), vI n])), ((R 36), cI E 60 T), ((R 37), cI E 60 K)]) rfl dX6_watchSwing_51 rfl ?_
    refine g_goto C (pc' := 96) dX6_watchSwing_54 (by decide) ?_
    have z_10 : (if (z = 1 ∧ hld X4 Y4 n4 x y d = true) then (if (z = 1 ∧ hld X3 Y3 n3 x y d = true) then bt_ else bt_ + 1) else 0) = (bt_ + 1) := by first | rfl | (simp only [*, if_true, if_false, true_and, and_true, not_true, not_false_eq_true, false_and, and_false, ntA, ntN]; done) | (simp [*, ntA, ntN]; done) | (simp_all [ntA, ntN]; done)
    have z_11 : (if (z = 1 ∧ hld X4 Y4 n4 x y d = true) then (if ((z = 1 ∧ hld X4 Y4 n4 x y d = true) ∧ (z = 1 ∧ hld X3 Y3 n3 x y d = true) ∧ sw = 0 ∧ S 6 ≤ bt_) then 1 else sw) else 0) = sw := by first | rfl | (simp only [*, if_true, if_false, true_and, and_true, not_true, not_false_eq_true, false_and, and_false, ntA, ntN]; done) | (simp [*, ntA, ntN]; done) | (simp_all [ntA, ntN]; done)
    have z_12 : (ntN (((z = 1 ∧ hld X4 Y4 n4 x y d = true) ∧ (z = 1 ∧ hld X3 Y3 n3 x y d = true) ∧ sw = 0 ∧ S 6 ≤ bt_) ∨ (¬ (z = 1 ∧ hld X4 Y4 n4 x y d = true) ∧ sw = 1)) n) = n := by first | rfl | (simp only [*, if_true, if_false, true_and, and_true, not_true, not_false_eq_true, false_and, and_false, ntA, ntN]; done) | (simp [*, ntA, ntN]; done) | (simp_all [ntA, ntN]; done)
    have z_13 : cI E 60 (ntA (((z = 1 ∧ hld X4 Y4 n4 x y d = true) ∧ (z = 1 ∧ hld X3 Y3 n3 x y d = true) ∧ sw = 0 ∧ S 6 ≤ bt_) ∨ (¬ (z = 1 ∧ hld X4 Y4 n4 x y d = true) ∧ sw = 1)) T n tm) = cI E 60 T := cI_c (fun k_ k0_ k1_ => by first | rfl | (simp only [*, if_true, if_false, true_and, and_true, not_true, not_false_eq_true, false_and, and_false, ntA, ntN]; done) | (simp [*, ntA, ntN]; done) | (simp_all [ntA, ntN]; done))
    have z_14 : cI E 60 (ntA (((z = 1 ∧ hld X4 Y4 n4 x y d = true) ∧ (z = 1 ∧ hld X3 Y3 n3 x y d = true) ∧ sw = 0 ∧ S 6 ≤ bt_) ∨ (¬ (z = 1 ∧ hld X4 Y4 n4 x y d = true) ∧ sw = 1)) K n (if (¬ (z = 1 ∧ hld X4 Y4 n4 x y d = true) ∧ sw = 1) then 41 else 40)) = cI E 60 K := cI_c (fun k_ k0_ k1_ => by first | rfl | (simp only [*, if_true, if_false, true_and, and_true, not_true, not_false_eq_true, false_and, and_false, ntA, ntN]; done) | (simp [*, ntA, ntN]; done) | (simp_all [ntA, ntN]; done))
    have zz_15 := congr (congr (congr (congr (congrArg (fun (y9_0 : Int) (y9_1 : Int) (y9_2 : Int) (y9_3 : va_E) (y9_4 : va_E) => ([((R 0), .inr (7, [vR (R 1), vR (R 17), vR (R 18), vR (R 22), vR (R 25), vR (R 29), vR (R 31), vR (R 33), vR (R 34), vR (R 35), vI ma, vI mb, vI ag, vI y9_0, vI y9_1, vI il, vI tr, vI tm])), ((R 1), cQ E 4 5 (pq R)), ((R 11), .inr (5, [vR (R 12), vR (R 13), vI n3, vI (snd X3 Y3 n3)])), ((R 12), cI E 8 X3), ((R 13), cI E 8 Y3), ((R 14), .inr (5, [vR (R 15), vR (R 16), vI n4, vI (snd X4 Y4 n4)])), ((R 15), cI E 8 X4), ((R 16), cI E 8 Y4), ((R 17), cI E 8 S), ((R 34), .inr (1, [vI z, vL x, vL y, vL d])), ((R 35), .inr (2, [vR (R 36), vR (R 37), vI y9_2])), ((R 36), y9_3), ((R 37), y9_4)] : va_W)) z_10) z_11) z_12) z_13) z_14
    refine g_ws (ws' := [((R 0), .inr (7, [vR (R 1), vR (R 17), vR (R 18), vR (R 22), vR (R 25), vR (R 29), vR (R 31), vR (R 33), vR (R 34), vR (R 35), vI ma, vI mb, vI ag, vI (if (z = 1 ∧ hld X4 Y4 n4 x y d = true) then (if (z = 1 ∧ hld X3 Y3 n3 x y d = true) then bt_ else bt_ + 1) else 0), vI (if (z = 1 ∧ hld X4 Y4 n4 x y d = true) then (if ((z = 1 ∧ hld X4 Y4 n4 x y d = true) ∧ (z = 1 ∧ hld X3 Y3 n3 x y d = true) ∧ sw = 0 ∧ S 6 ≤ bt_) then 1 else sw) else 0), vI il, vI tr, vI tm])), ((R 1), cQ E 4 5 (pq R)), ((R 11), .inr (5, [vR (R 12), vR (R 13), vI n3, vI (snd X3 Y3 n3)])), ((R 12), cI E 8 X3), ((R 13), cI E 8 Y3), ((R 14), .inr (5, [vR (R 15), vR (R 16), vI n4, vI (snd X4 Y4 n4)])), ((R 15), cI E 8 X4), ((R 16), cI E 8 Y4), ((R 17), cI E 8 S), ((R 34), .inr (1, [vI z, vL x, vL y, vL d])), ((R 35), .inr (2, [vR (R 36), vR (R 37), vI (ntN (((z = 1 ∧ hld X4 Y4 n4 x y d = true) ∧ (z = 1 ∧ hld X3 Y3 n3 x y d = true) ∧ sw = 0 ∧ S 6 ≤ bt_) ∨ (¬ (z = 1 ∧ hld X4 Y4 n4 x y d = true) ∧ sw = 1)) n)])), ((R 36), cI E 60 (ntA (((z = 1 ∧ hld X4 Y4 n4 x y d = true) ∧ (z = 1 ∧ hld X3 Y3 n3 x y d = true) ∧ sw = 0 ∧ S 6 ≤ bt_) ∨ (¬ (z = 1 ∧ hld X4 Y4 n4 x y d = true) ∧ sw = 1)) T n tm)), ((R 37), cI E 60 (ntA (((z = 1 ∧ hld X4 Y4 n4 x y d = true) ∧ (z = 1 ∧ hld X3 Y3 n3 x y d = true) ∧ sw = 0 ∧ S 6 ≤ bt_) ∨ (¬ (z = 1 ∧ hld X4 Y4 n4 x y d = true) ∧ sw = 1)) K n (if (¬ (z = 1 ∧ hld X4 Y4 n4 x y d = true) ∧ sw = 1) then 41 else 40)))]) zz_15 ?_
    exact g_vret C hr (Nat.le_of_ble_eq_true rfl) (Nat.le_of_ble_eq_true rfl) dX6_watchSwing_96 ⟨rfl, rfl⟩
  refine g_aload_n C 0 rfl dX6_watchSwing_16 rfl ?_
  refine g_iconst C dX6_watchSwing_17 rfl ?_
  refine g_put C tyX6 tyX6_ok nmX6 0 fd_X6_watchSwing_120 rfl rfl rfl rfl rfl rfl (Nat.le_of_ble_eq_true rfl) (ws' := [((R 0), .inr (7, [vR (R 1), vR (R 17), vR (R 18), vR (R 22), vR (R 25), vR (R 29), vR (R 31), vR (R 33), vR (R 34), vR (R 35), vI ma, vI mb, vI ag, vI 0, vI sw, vI il, vI tr, vI tm])), ((R 1), cQ E 4 5 (pq R)), ((R 11), .inr (5, [vR (R 12), vR (R 13), vI n3, vI (snd X3 Y3 n3)])), ((R 12), cI E 8 X3), ((R 13), cI E 8 Y3), ((R 14), .inr (5, [vR (R 15), vR (R 16), vI n4, vI (snd X4 Y4 n4)])), ((R 15), cI E 8 X4), ((R 16), cI E 8 Y4), ((R 17), cI E 8 S), ((R 34), .inr (1, [vI z, vL x, vL y, vL d])), ((R 35), .inr (2, [vR (R 36), vR (R 37), vI n])), ((R 36), cI E 60 T), ((R 37), cI E 60 K)]) rfl dX6_watchSwing_18 rfl ?_
  refine g_aload_n C 0 rfl dX6_watchSwing_21 rfl ?_
  refine g_callV C (b := (R 0)) (As := []) (wc := [((R 0), .inr (7, [vR (R 1), vR (R 17), vR (R 18), vR (R 22), vR (R 25), vR (R 29), vR (R 31), vR (R 33), vR (R 34), vR (R 35), vI ma, vI mb, vI ag, vI 0, vI sw, vI il, vI tr, vI tm])), ((R 35), .inr (2, [vR (R 36), vR (R 37), vI n])), ((R 36), cI E 60 T), ((R 37), cI E 60 K)]) (wr := [((R 1), cQ E 4 5 (pq R)), ((R 11), .inr (5, [vR (R 12), vR (R 13), vI n3, vI (snd X3 Y3 n3)])), ((R 12), cI E 8 X3), ((R 13), cI E 8 Y3), ((R 14), .inr (5, [vR (R 15), vR (R 16), vI n4, vI (snd X4 Y4 n4)])), ((R 15), cI E 8 X4), ((R 16), cI E 8 Y4), ((R 17), cI E 8 S), ((R 34), .inr (1, [vI z, vL x, vL y, vL d]))]) (st := []) gX6_watchSwing_X6_endSwing (q9 := 0) (ci := 7) rfl rfl rfl (K_endSwing1 l E R ma mb ag 0 sw il tr tm T K n hsw hn) hyd_X6_endSwing rfl [0, 10, 11, 12] [1, 2, 3, 4, 5, 6, 7, 8, 9] rfl rfl rfl rfl rfl (by decide) ⟨rfl, rfl⟩ ⟨Nat.le_of_ble_eq_true rfl, Nat.le_of_ble_eq_true rfl, Nat.le_of_ble_eq_true rfl, Nat.le_of_ble_eq_true rfl⟩ (Nat.le_of_ble_eq_true rfl) dX6_watchSwing_22 (rfl : _ = 0) (rfl : _ = 0) rfl ?_
  rintro _ _ ⟨rfl, rfl⟩
  refine g_is (ws' := [((R 1), cQ E 4 5 (pq R)), ((R 11), .inr (5, [vR (R 12), vR (R 13), vI n3, vI (snd X3 Y3 n3)])), ((R 12), cI E 8 X3), ((R 13), cI E 8 Y3), ((R 14), .inr (5, [vR (R 15), vR (R 16), vI n4, vI (snd X4 Y4 n4)])), ((R 15), cI E 8 X4), ((R 16), cI E 8 Y4), ((R 17), cI E 8 S), ((R 34), .inr (1, [vI z, vL x, vL y, vL d])), ((R 0), .inr (7, [vR (R 1), vR (R 17), vR (R 18), vR (R 22), vR (R 25), vR (R 29), vR (R 31), vR (R 33), vR (R 34), vR (R 35), vI ma, vI mb, vI ag, vI 0, vI 0, vI il, vI tr, vI tm])), ((R 35), .inr (2, [vR (R 36), vR (R 37), vI (n + 1)])), ((R 36), cI E 60 (ua T (Int.tmod n 60) tm)), ((R 37), cI E 60 (ua K (Int.tmod n 60) 41))]) (st' := []) rfl rfl ?_
  refine g_sub (ws' := [((R 0), .inr (7, [vR (R 1), vR (R 17), vR (R 18), vR (R 22), vR (R 25), vR (R 29), vR (R 31), vR (R 33), vR (R 34), vR (R 35), vI ma, vI mb, vI ag, vI 0, vI 0, vI il, vI tr, vI tm])), ((R 1), cQ E 4 5 (pq R)), ((R 11), .inr (5, [vR (R 12), vR (R 13), vI n3, vI (snd X3 Y3 n3)])), ((R 12), cI E 8 X3), ((R 13), cI E 8 Y3), ((R 14), .inr (5, [vR (R 15), vR (R 16), vI n4, vI (snd X4 Y4 n4)])), ((R 15), cI E 8 X4), ((R 16), cI E 8 Y4), ((R 17), cI E 8 S), ((R 34), .inr (1, [vI z, vL x, vL y, vL d])), ((R 35), .inr (2, [vR (R 36), vR (R 37), vI (n + 1)])), ((R 36), cI E 60 (ua T (Int.tmod n 60) tm)), ((R 37), cI E 60 (ua K (Int.tmod n 60) 41))]) [9, 0, 1, 2, 3, 4, 5, 6, 7, 8, 10, 11, 12] rfl rfl rfl ?_
  refine g_goto C (pc' := 96) dX6_watchSwing_25 (by decide) ?_
  have z_16 : (if (z = 1 ∧ hld X4 Y4 n4 x y d = true) then (if (z = 1 ∧ hld X3 Y3 n3 x y d = true) then bt_ else bt_ + 1) else 0) = 0 := by first | rfl | (simp only [*, if_true, if_false, true_and, and_true, not_true, not_false_eq_true, false_and, and_false, ntA, ntN]; done) | (simp [*, ntA, ntN]; done) | (simp_all [ntA, ntN]; done)
  have z_17 : (if (z = 1 ∧ hld X4 Y4 n4 x y d = true) then (if ((z = 1 ∧ hld X4 Y4 n4 x y d = true) ∧ (z = 1 ∧ hld X3 Y3 n3 x y d = true) ∧ sw = 0 ∧ S 6 ≤ bt_) then 1 else sw) else 0) = 0 := by first | rfl | (simp only [*, if_true, if_false, true_and, and_true, not_true, not_false_eq_true, false_and, and_false, ntA, ntN]; done) | (simp [*, ntA, ntN]; done) | (simp_all [ntA, ntN]; done)
  have z_18 : (ntN (((z = 1 ∧ hld X4 Y4 n4 x y d = true) ∧ (z = 1 ∧ hld X3 Y3 n3 x y d = true) ∧ sw = 0 ∧ S 6 ≤ bt_) ∨ (¬ (z = 1 ∧ hld X4 Y4 n4 x y d = true) ∧ sw = 1)) n) = (n + 1) := by first | rfl | (simp only [*, if_true, if_false, true_and, and_true, not_true, not_false_eq_true, false_and, and_false, ntA, ntN]; done) | (simp [*, ntA, ntN]; done) | (simp_all [ntA, ntN]; done)
  have z_19 : cI E 60 (ntA (((z = 1 ∧ hld X4 Y4 n4 x y d = true) ∧ (z = 1 ∧ hld X3 Y3 n3 x y d = true) ∧ sw = 0 ∧ S 6 ≤ bt_) ∨ (¬ (z = 1 ∧ hld X4 Y4 n4 x y d = true) ∧ sw = 1)) T n tm) = cI E 60 (ua T (Int.tmod n 60) tm) := cI_c (fun k_ k0_ k1_ => by first | rfl | (simp only [*, if_true, if_false, true_and, and_true, not_true, not_false_eq_true, false_and, and_false, ntA, ntN]; done) | (simp [*, ntA, ntN]; done) | (simp_all [ntA, ntN]; done))
  have z_20 : cI E 60 (ntA (((z = 1 ∧ hld X4 Y4 n4 x y d = true) ∧ (z = 1 ∧ hld X3 Y3 n3 x y d = true) ∧ sw = 0 ∧ S 6 ≤ bt_) ∨ (¬ (z = 1 ∧ hld X4 Y4 n4 x y d = true) ∧ sw = 1)) K n (if (¬ (z = 1 ∧ hld X4 Y4 n4 x y d = true) ∧ sw = 1) then 41 else 40)) = cI E 60 (ua K (Int.tmod n 60) 41) := cI_c (fun k_ k0_ k1_ => by first | rfl | (simp only [*, if_true, if_false, true_and, and_true, not_true, not_false_eq_true, false_and, and_false, ntA, ntN]; done) | (simp [*, ntA, ntN]; done) | (simp_all [ntA, ntN]; done))
  have zz_21 := congr (congr (congr (congr (congrArg (fun (y9_0 : Int) (y9_1 : Int) (y9_2 : Int) (y9_3 : va_E) (y9_4 : va_E) => ([((R 0), .inr (7, [vR (R 1), vR (R 17), vR (R 18), vR (R 22), vR (R 25), vR (R 29), vR (R 31), vR (R 33), vR (R 34), vR (R 35), vI ma, vI mb, vI ag, vI y9_0, vI y9_1, vI il, vI tr, vI tm])), ((R 1), cQ E 4 5 (pq R)), ((R 11), .inr (5, [vR (R 12), vR (R 13), vI n3, vI (snd X3 Y3 n3)])), ((R 12), cI E 8 X3), ((R 13), cI E 8 Y3), ((R 14), .inr (5, [vR (R 15), vR (R 16), vI n4, vI (snd X4 Y4 n4)])), ((R 15), cI E 8 X4), ((R 16), cI E 8 Y4), ((R 17), cI E 8 S), ((R 34), .inr (1, [vI z, vL x, vL y, vL d])), ((R 35), .inr (2, [vR (R 36), vR (R 37), vI y9_2])), ((R 36), y9_3), ((R 37), y9_4)] : va_W)) z_16) z_17) z_18) z_19) z_20
  refine g_ws (ws' := [((R 0), .inr (7, [vR (R 1), vR (R 17), vR (R 18), vR (R 22), vR (R 25), vR (R 29), vR (R 31), vR (R 33), vR (R 34), vR (R 35), vI ma, vI mb, vI ag, vI (if (z = 1 ∧ hld X4 Y4 n4 x y d = true) then (if (z = 1 ∧ hld X3 Y3 n3 x y d = true) then bt_ else bt_ + 1) else 0), vI (if (z = 1 ∧ hld X4 Y4 n4 x y d = true) then (if ((z = 1 ∧ hld X4 Y4 n4 x y d = true) ∧ (z = 1 ∧ hld X3 Y3 n3 x y d = true) ∧ sw = 0 ∧ S 6 ≤ bt_) then 1 else sw) else 0), vI il, vI tr, vI tm])), ((R 1), cQ E 4 5 (pq R)), ((R 11), .inr (5, [vR (R 12), vR (R 13), vI n3, vI (snd X3 Y3 n3)])), ((R 12), cI E 8 X3), ((R 13), cI E 8 Y3), ((R 14), .inr (5, [vR (R 15), vR (R 16), vI n4, vI (snd X4 Y4 n4)])), ((R 15), cI E 8 X4), ((R 16), cI E 8 Y4), ((R 17), cI E 8 S), ((R 34), .inr (1, [vI z, vL x, vL y, vL d])), ((R 35), .inr (2, [vR (R 36), vR (R 37), vI (ntN (((z = 1 ∧ hld X4 Y4 n4 x y d = true) ∧ (z = 1 ∧ hld X3 Y3 n3 x y d = true) ∧ sw = 0 ∧ S 6 ≤ bt_) ∨ (¬ (z = 1 ∧ hld X4 Y4 n4 x y d = true) ∧ sw = 1)) n)])), ((R 36), cI E 60 (ntA (((z = 1 ∧ hld X4 Y4 n4 x y d = true) ∧ (z = 1 ∧ hld X3 Y3 n3 x y d = true) ∧ sw = 0 ∧ S 6 ≤ bt_) ∨ (¬ (z = 1 ∧ hld X4 Y4 n4 x y d = true) ∧ sw = 1)) T n tm)), ((R 37), cI E 60 (ntA (((z = 1 ∧ hld X4 Y4 n4 x y d = true) ∧ (z = 1 ∧ hld X3 Y3 n3 x y d = true) ∧ sw = 0 ∧ S 6 ≤ bt_) ∨ (¬ (z = 1 ∧ hld X4 Y4 n4 x y d = true) ∧ sw = 1)) K n (if (¬ (z = 1 ∧ hld X4 Y4 n4 x y d = true) ∧ sw = 1) then 41 else 40)))]) zz_21 ?_
  exact g_vret C hr (Nat.le_of_ble_eq_true rfl) (Nat.le_of_ble_eq_true rfl) dX6_watchSwing_96 ⟨rfl, rfl⟩

theorem in_X6_isBlocked_X6 : ∀ w ∈ u_ws RX6 TX6 18, w ∈ wsX6_isBlocked := by decide +kernel
theorem fd_X6_isBlocked_123 : fdk wsX6_isBlocked RX6 123 "ZoneRelay$Relay" RX6 TX6 18 14 := ⟨in_X6_isBlocked_X6, by decide +kernel, by decide, rfl⟩
theorem fd_X6_isBlocked_127 : fdk wsX6_isBlocked RX6 127 "ZoneRelay$Relay" RX6 TX6 18 15 := ⟨in_X6_isBlocked_X6, by decide +kernel, by decide, rfl⟩
theorem fd_X6_isBlocked_17 : fdk wsX6_isBlocked RX6 17 "ZoneRelay$Relay" RX6 TX6 18 1 := ⟨in_X6_isBlocked_X6, by decide +kernel, by decide, rfl⟩
theorem hyd_X10_isInSet : yX10_isInSet.cls ≠ "java/lang/invoke/MethodHandle" ∧ yX10_isInSet.cls ≠ "java/lang/invoke/VarHandle" ∧ (parseMethodDescriptor yX10_isInSet.desc).map (fun d => d.parameters.length) = some 2 := by decide +kernel
theorem w_X6_isBlocked_ns230 : Cond.initialized yX10_isInSet.cls ∈ wsX6_isBlocked ∧ Cond.static yX10_isInSet ∈ wsX6_isBlocked := ⟨by decide +kernel, by decide +kernel⟩
theorem nw_X6_230 : Cond.methodLinkNest RX6 230 yX10_isInSet RX10 ∈ nwl := by decide +kernel
abbrev rm_K_isBlocked : Room := { frames := 1, cells := 0, slots := 0, locals := 21 }
set_option maxHeartbeats 8000000 in
set_option maxRecDepth 100000 in
theorem K_isBlocked (l : Launch) (E : Ev) (R : Nat → Nat) (ma mb ag bt_ sw il tr tm : Int) (S : Int → Int) (q : Int) (hsw : sw = 0 ∨ sw = 1) (hil : il = 0 ∨ il = 1) (hq : 0 ≤ q ∧ q ≤ 2) (hs7 : 0 ≤ S 7 ∧ S 7 ≤ 7) (hs5 : 0 ≤ S 5 ∧ S 5 ≤ 7) : Mc l yX6_isBlocked wsX6_isBlocked rm_K_isBlocked E [vR (R 0), vI q] [((R 0), .inr (7, [vR (R 1), vR (R 17), vR (R 18), vR (R 22), vR (R 25), vR (R 29), vR (R 31), vR (R 33), vR (R 34), vR (R 35), vI ma, vI mb, vI ag, vI bt_, vI sw, vI il, vI tr, vI tm])), ((R 17), cI E 8 S)] 0 0 (fun v9 w9 => v9 = some (vI (bP (sw = 1 ∧ bt (S 7) q = 1 ∨ il = 1 ∧ bt (S 5) q = 1))) ∧ w9 = [((R 0), .inr (7, [vR (R 1), vR (R 17), vR (R 18), vR (R 22), vR (R 25), vR (R 29), vR (R 31), vR (R 33), vR (R 34), vR (R 35), vI ma, vI mb, vI ag, vI bt_, vI sw, vI il, vI tr, vI tm])), ((R 17), cI E 8 S)]) := by
  refine Mc.intro (cc := cX6_isBlocked) (maxL := 2) (ret := (some .boolean)) (lv0 := [(0, vR (R 0)), (1, vI q)]) (by decide +kernel) rfl rfl (Nat.le_of_ble_eq_true rfl) ?_
  intro p9 e9 s9 m9 args9 below9 meth9 c9 A9 C hr hmn
  have C : Cx p9 s9 m9 args9 meth9 c9 E A9 2 cX6_isBlocked wsX6_isBlocked RX6 := C
  refine g_aload_n C 0 rfl dX6_isBlocked_0 rfl ?_
  refine g_get C 0 fd_X6_isBlocked_123 rfl rfl rfl dX6_isBlocked_1 rfl ?_
  refine g_if_eq C (tgt := 21) ⟨by omega, by omega⟩ dX6_isBlocked_4 (by decide) rfl (fun c_1 => ?_) (fun c_1 => ?_)
  · refine g_aload_n C 0 rfl dX6_isBlocked_21 rfl ?_
    refine g_get C 0 fd_X6_isBlocked_127 rfl rfl rfl dX6_isBlocked_22 rfl ?_
    refine g_if_eq C (tgt := 45) ⟨by omega, by omega⟩ dX6_isBlocked_25 (by decide) rfl (fun c_2 => ?_) (fun c_2 => ?_)
    · refine g_iconst C dX6_isBlocked_45 rfl ?_
      refine g_top (v' := vI (bP (sw = 1 ∧ bt (S 7) q = 1 ∨ il = 1 ∧ bt (S 5) q = 1))) (congrArg (fun z_ : Int => vI z_) (show (bP (sw = 1 ∧ bt (S 7) q = 1 ∨ il = 1 ∧ bt (S 5) q = 1)) = 0 by first | exact bP_t (by first | assumption | omega) | exact bP_f (by first | assumption | omega))) ?_
      exact g_iret C hr (nrZ _) (Nat.le_of_ble_eq_true rfl) (Nat.le_of_ble_eq_true rfl) dX6_isBlocked_46 ⟨rfl, rfl⟩
    refine g_iload_n C 1 rfl dX6_isBlocked_28 rfl ?_
    refine g_aload_n C 0 rfl dX6_isBlocked_29 rfl ?_
    refine g_get C 0 fd_X6_isBlocked_17 rfl rfl rfl dX6_isBlocked_30 rfl ?_
    refine g_iconst C dX6_isBlocked_33 rfl ?_
    refine g_iald C 1 rfl (by decide) (by decide) (by decide) rfl dX6_isBlocked_34 rfl ?_
    refine g_callSN C (As := [vI q, vI (S 5)]) (wc := []) (wr := [((R 0), .inr (7, [vR (R 1), vR (R 17), vR (R 18), vR (R 22), vR (R 25), vR (R 29), vR (R 31), vR (R 33), vR (R 34), vR (R 35), vI ma, vI mb, vI ag, vI bt_, vI sw, vI il, vI tr, vI tm])), ((R 17), cI E 8 S)]) (st := []) gX6_isBlocked_X10_isInSet_n230 nw_X6_230 w_X6_isBlocked_ns230 rfl (K_isInSet l E q (S 5) hq (by first | assumption | omega)) hyd_X10_isInSet rfl [] [0, 1] rfl rfl rfl rfl rfl (by decide) ⟨rfl, rfl⟩ ⟨Nat.le_of_ble_eq_true rfl, Nat.le_of_ble_eq_true rfl, Nat.le_of_ble_eq_true rfl, Nat.le_of_ble_eq_true rfl⟩ (Nat.le_of_ble_eq_true rfl) dX6_isBlocked_35 (rfl : _ = 0) (rfl : _ = 0) rfl ?_
    rintro _ _ ⟨rfl, rfl⟩
    refine g_is (ws' := [((R 0), .inr (7, [vR (R 1), vR (R 17), vR (R 18), vR (R 22), vR (R 25), vR (R 29), vR (R 31), vR (R 33), vR (R 34), vR (R 35), vI ma, vI mb, vI ag, vI bt_, vI sw, vI il, vI tr, vI tm])), ((R 17), cI E 8 S)]) (st' := [vI (bP (bt (S 5) q = 1))]) rfl rfl ?_
    refine g_ifb_eq C (tgt := 45) dX6_isBlocked_38 (by decide) rfl (fun c_3 => ?_) (fun c_3 => ?_)
    · refine g_iconst C dX6_isBlocked_45 rfl ?_
      refine g_top (v' := vI (bP (sw = 1 ∧ bt (S 7) q = 1 ∨ il = 1 ∧ bt (S 5) q = 1))) (congrArg (fun z_ : Int => vI z_) (show (bP (sw = 1 ∧ bt (S 7) q = 1 ∨ il = 1 ∧ bt (S 5) q = 1)) = 0 by first | exact bP_t (by first | assumption | omega) | exact bP_f (by first | assumption | omega))) ?_
      exact g_iret C hr (nrZ _) (Nat.le_of_ble_eq_true rfl) (Nat.le_of_ble_eq_true rfl) dX6_isBlocked_46 ⟨rfl, rfl⟩
    refine g_iconst C dX6_isBlocked_41 rfl ?_
    refine g_goto C (pc' := 46) dX6_isBlocked_42 (by decide) ?_
    refine g_top (v' := vI (bP (sw = 1 ∧ bt (S 7) q = 1 ∨ il = 1 ∧ bt (S 5) q = 1))) (congrArg (fun z_ : Int => vI z_) (show (bP (sw = 1 ∧ bt (S 7) q = 1 ∨ il = 1 ∧ bt (S 5) q = 1)) = 1 by first | exact bP_t (by first | assumption | omega) | exact bP_f (by first | assumption | omega))) ?_
    exact g_iret C hr (nrZ _) (Nat.le_of_ble_eq_true rfl) (Nat.le_of_ble_eq_true rfl) dX6_isBlocked_46 ⟨rfl, rfl⟩
  refine g_iload_n C 1 rfl dX6_isBlocked_7 rfl ?_
  refine g_aload_n C 0 rfl dX6_isBlocked_8 rfl ?_
  refine g_get C 0 fd_X6_isBlocked_17 rfl rfl rfl dX6_isBlocked_9 rfl ?_
  refine g_bipush C (by decide) dX6_isBlocked_12 rfl ?_
  refine g_iald C 1 rfl (by decide) (by decide) (by decide) rfl dX6_isBlocked_14 rfl ?_
  refine g_callSN C (As := [vI q, vI (S 7)]) (wc := []) (wr := [((R 0), .inr (7, [vR (R 1), vR (R 17), vR (R 18), vR (R 22), vR (R 25), vR (R 29), vR (R 31), vR (R 33), vR (R 34), vR (R 35), vI ma, vI mb, vI ag, vI bt_, vI sw, vI il, vI tr, vI tm])), ((R 17), cI E 8 S)]) (st := []) gX6_isBlocked_X10_isInSet_n230 nw_X6_230 w_X6_isBlocked_ns230 rfl (K_isInSet l E q (S 7) hq (by first | assumption | omega)) hyd_X10_isInSet rfl [] [0, 1] rfl rfl rfl rfl rfl (by decide) ⟨rfl, rfl⟩ ⟨Nat.le_of_ble_eq_true rfl, Nat.le_of_ble_eq_true rfl, Nat.le_of_ble_eq_true rfl, Nat.le_of_ble_eq_true rfl⟩ (Nat.le_of_ble_eq_true rfl) dX6_isBlocked_15 (rfl : _ = 0) (rfl : _ = 0) rfl ?_
  rintro _ _ ⟨rfl, rfl⟩
  refine g_is (ws' := [((R 0), .inr (7, [vR (R 1), vR (R 17), vR (R 18), vR (R 22), vR (R 25), vR (R 29), vR (R 31), vR (R 33), vR (R 34), vR (R 35), vI ma, vI mb, vI ag, vI bt_, vI sw, vI il, vI tr, vI tm])), ((R 17), cI E 8 S)]) (st' := [vI (bP (bt (S 7) q = 1))]) rfl rfl ?_
  refine g_ifb_ne C (tgt := 41) dX6_isBlocked_18 (by decide) rfl (fun c_4 => ?_) (fun c_4 => ?_)
  · refine g_iconst C dX6_isBlocked_41 rfl ?_
    refine g_goto C (pc' := 46) dX6_isBlocked_42 (by decide) ?_
    refine g_top (v' := vI (bP (sw = 1 ∧ bt (S 7) q = 1 ∨ il = 1 ∧ bt (S 5) q = 1))) (congrArg (fun z_ : Int => vI z_) (show (bP (sw = 1 ∧ bt (S 7) q = 1 ∨ il = 1 ∧ bt (S 5) q = 1)) = 1 by first | exact bP_t (by first | assumption | omega) | exact bP_f (by first | assumption | omega))) ?_
    exact g_iret C hr (nrZ _) (Nat.le_of_ble_eq_true rfl) (Nat.le_of_ble_eq_true rfl) dX6_isBlocked_46 ⟨rfl, rfl⟩
  refine g_aload_n C 0 rfl dX6_isBlocked_21 rfl ?_
  refine g_get C 0 fd_X6_isBlocked_127 rfl rfl rfl dX6_isBlocked_22 rfl ?_
  refine g_if_eq C (tgt := 45) ⟨by omega, by omega⟩ dX6_isBlocked_25 (by decide) rfl (fun c_5 => ?_) (fun c_5 => ?_)
  · refine g_iconst C dX6_isBlocked_45 rfl ?_
    refine g_top (v' := vI (bP (sw = 1 ∧ bt (S 7) q = 1 ∨ il = 1 ∧ bt (S 5) q = 1))) (congrArg (fun z_ : Int => vI z_) (show (bP (sw = 1 ∧ bt (S 7) q = 1 ∨ il = 1 ∧ bt (S 5) q = 1)) = 0 by first | exact bP_t (by first | assumption | omega) | exact bP_f (by first | assumption | omega))) ?_
    exact g_iret C hr (nrZ _) (Nat.le_of_ble_eq_true rfl) (Nat.le_of_ble_eq_true rfl) dX6_isBlocked_46 ⟨rfl, rfl⟩
  refine g_iload_n C 1 rfl dX6_isBlocked_28 rfl ?_
  refine g_aload_n C 0 rfl dX6_isBlocked_29 rfl ?_
  refine g_get C 0 fd_X6_isBlocked_17 rfl rfl rfl dX6_isBlocked_30 rfl ?_
  refine g_iconst C dX6_isBlocked_33 rfl ?_
  refine g_iald C 1 rfl (by decide) (by decide) (by decide) rfl dX6_isBlocked_34 rfl ?_
  refine g_callSN C (As := [vI q, vI (S 5)]) (wc := []) (wr := [((R 0), .inr (7, [vR (R 1), vR (R 17), vR (R 18), vR (R 22), vR (R 25), vR (R 29), vR (R 31), vR (R 33), vR (R 34), vR (R 35), vI ma, vI mb, vI ag, vI bt_, vI sw, vI il, vI tr, vI tm])), ((R 17), cI E 8 S)]) (st := []) gX6_isBlocked_X10_isInSet_n230 nw_X6_230 w_X6_isBlocked_ns230 rfl (K_isInSet l E q (S 5) hq (by first | assumption | omega)) hyd_X10_isInSet rfl [] [0, 1] rfl rfl rfl rfl rfl (by decide) ⟨rfl, rfl⟩ ⟨Nat.le_of_ble_eq_true rfl, Nat.le_of_ble_eq_true rfl, Nat.le_of_ble_eq_true rfl, Nat.le_of_ble_eq_true rfl⟩ (Nat.le_of_ble_eq_true rfl) dX6_isBlocked_35 (rfl : _ = 0) (rfl : _ = 0) rfl ?_
  rintro _ _ ⟨rfl, rfl⟩
  refine g_is (ws' := [((R 0), .inr (7, [vR (R 1), vR (R 17), vR (R 18), vR (R 22), vR (R 25), vR (R 29), vR (R 31), vR (R 33), vR (R 34), vR (R 35), vI ma, vI mb, vI ag, vI bt_, vI sw, vI il, vI tr, vI tm])), ((R 17), cI E 8 S)]) (st' := [vI (bP (bt (S 5) q = 1))]) rfl rfl ?_
  refine g_ifb_eq C (tgt := 45) dX6_isBlocked_38 (by decide) rfl (fun c_6 => ?_) (fun c_6 => ?_)
  · refine g_iconst C dX6_isBlocked_45 rfl ?_
    refine g_top (v' := vI (bP (sw = 1 ∧ bt (S 7) q = 1 ∨ il = 1 ∧ bt (S 5) q = 1))) (congrArg (fun z_ : Int => vI z_) (show (bP (sw = 1 ∧ bt (S 7) q = 1 ∨ il = 1 ∧ bt (S 5) q = 1)) = 0 by first | exact bP_t (by first | assumption | omega) | exact bP_f (by first | assumption | omega))) ?_
    exact g_iret C hr (nrZ _) (Nat.le_of_ble_eq_true rfl) (Nat.le_of_ble_eq_true rfl) dX6_isBlocked_46 ⟨rfl, rfl⟩
  refine g_iconst C dX6_isBlocked_41 rfl ?_
  refine g_goto C (pc' := 46) dX6_isBlocked_42 (by decide) ?_
  refine g_top (v' := vI (bP (sw = 1 ∧ bt (S 7) q = 1 ∨ il = 1 ∧ bt (S 5) q = 1))) (congrArg (fun z_ : Int => vI z_) (show (bP (sw = 1 ∧ bt (S 7) q = 1 ∨ il = 1 ∧ bt (S 5) q = 1)) = 1 by first | exact bP_t (by first | assumption | omega) | exact bP_f (by first | assumption | omega))) ?_
  exact g_iret C hr (nrZ _) (Nat.le_of_ble_eq_true rfl) (Nat.le_of_ble_eq_true rfl) dX6_isBlocked_46 ⟨rfl, rfl⟩

theorem in_X6_torque_X6 : ∀ w ∈ u_ws RX6 TX6 18, w ∈ wsX6_torque := by decide +kernel
theorem fd_X6_torque_117 : fdk wsX6_torque RX6 117 "ZoneRelay$Relay" RX6 TX6 18 12 := ⟨in_X6_torque_X6, by decide +kernel, by decide, rfl⟩
theorem fd_X6_torque_17 : fdk wsX6_torque RX6 17 "ZoneRelay$Relay" RX6 TX6 18 1 := ⟨in_X6_torque_X6, by decide +kernel, by decide, rfl⟩
theorem fd_X6_torque_57 : fdk wsX6_torque RX6 57 "ZoneRelay$Relay" RX6 TX6 18 7 := ⟨in_X6_torque_X6, by decide +kernel, by decide, rfl⟩
theorem in_X6_torque_X3 : ∀ w ∈ u_ws RX3 TX3 4, w ∈ wsX6_torque := by decide +kernel
theorem fd_X6_torque_171 : fdk wsX6_torque RX6 171 "ZoneRelay$Phasors" RX3 TX3 4 0 := ⟨in_X6_torque_X3, by decide +kernel, by decide, rfl⟩
theorem fd_X6_torque_174 : fdk wsX6_torque RX6 174 "ZoneRelay$Phasors" RX3 TX3 4 1 := ⟨in_X6_torque_X3, by decide +kernel, by decide, rfl⟩
theorem fd_X6_torque_181 : fdk wsX6_torque RX6 181 "ZoneRelay$Phasors" RX3 TX3 4 2 := ⟨in_X6_torque_X3, by decide +kernel, by decide, rfl⟩
theorem fd_X6_torque_184 : fdk wsX6_torque RX6 184 "ZoneRelay$Phasors" RX3 TX3 4 3 := ⟨in_X6_torque_X3, by decide +kernel, by decide, rfl⟩
theorem fd_X6_torque_33 : fdk wsX6_torque RX6 33 "ZoneRelay$Relay" RX6 TX6 18 3 := ⟨in_X6_torque_X6, by decide +kernel, by decide, rfl⟩
theorem in_X6_torque_X2 : ∀ w ∈ u_ws RX2 TX2 2, w ∈ wsX6_torque := by decide +kernel
theorem fd_X6_torque_224 : fdk wsX6_torque RX6 224 "ZoneRelay$Network" RX2 TX2 2 0 := ⟨in_X6_torque_X2, by decide +kernel, by decide, rfl⟩
theorem fd_X6_torque_227 : fdk wsX6_torque RX6 227 "ZoneRelay$Network" RX2 TX2 2 1 := ⟨in_X6_torque_X2, by decide +kernel, by decide, rfl⟩
theorem fd_X6_torque_111 : fdk wsX6_torque RX6 111 "ZoneRelay$Relay" RX6 TX6 18 10 := ⟨in_X6_torque_X6, by decide +kernel, by decide, rfl⟩
theorem fd_X6_torque_114 : fdk wsX6_torque RX6 114 "ZoneRelay$Relay" RX6 TX6 18 11 := ⟨in_X6_torque_X6, by decide +kernel, by decide, rfl⟩
abbrev rm_K_torque : Room := { frames := 0, cells := 0, slots := 0, locals := 0 }
set_option maxHeartbeats 8000000 in
set_option maxRecDepth 100000 in
theorem K_torque (l : Launch) (E : Ev) (R : Nat → Nat) (ma mb ag bt_ sw il tr tm : Int) (S F N : Int → Int) (va vb ia ib : Int) (hag : 0 ≤ ag ∧ ag < 2000000000) (hs2 : 0 ≤ S 2 ∧ S 2 ≤ 1000) (ema : -51000 ≤ ma ∧ ma ≤ 51000) (emb : -51000 ≤ mb ∧ mb ≤ 51000) (eva : -51000 ≤ va ∧ va ≤ 51000) (evb : -51000 ≤ vb ∧ vb ≤ 51000) (eia : -51000 ≤ ia ∧ ia ≤ 51000) (eib : -51000 ≤ ib ∧ ib ≤ 51000) (h5 : 0 ≤ F 2 ∧ F 2 ≤ 20000) (h6 : 0 ≤ N 2 ∧ N 2 ≤ 20000) : Mc l yX6_torque wsX6_torque rm_K_torque E [vR (R 0)] [((R 0), .inr (7, [vR (R 1), vR (R 17), vR (R 18), vR (R 22), vR (R 25), vR (R 29), vR (R 31), vR (R 33), vR (R 34), vR (R 35), vI ma, vI mb, vI ag, vI bt_, vI sw, vI il, vI tr, vI tm])), ((R 17), cI E 8 S), ((R 22), .inr (3, [vR (R 23), vR (R 24)])), ((R 23), cI E 4 F), ((R 24), cI E 4 N), ((R 33), .inr (4, [vI va, vI vb, vI ia, vI ib]))] 0 0 (fun v9 w9 => v9 = some (vL (trq (pol ag (S 2) ma va) (pol ag (S 2) mb vb) ia ib (F 2) (N 2))) ∧ w9 = [((R 0), .inr (7, [vR (R 1), vR (R 17), vR (R 18), vR (R 22), vR (R 25), vR (R 29), vR (R 31), vR (R 33), vR (R 34), vR (R 35), vI ma, vI mb, vI ag, vI bt_, vI sw, vI il, vI tr, vI tm])), ((R 17), cI E 8 S), ((R 22), .inr (3, [vR (R 23), vR (R 24)])), ((R 23), cI E 4 F), ((R 24), cI E 4 N), ((R 33), .inr (4, [vI va, vI vb, vI ia, vI ib]))]) := by
  refine Mc.intro (cc := cX6_torque) (maxL := 10) (ret := (some .long)) (lv0 := [(0, vR (R 0))]) (by decide +kernel) rfl rfl (Nat.le_of_ble_eq_true rfl) ?_
  intro p9 e9 s9 m9 args9 below9 meth9 c9 A9 C hr hmn
  have C : Cx p9 s9 m9 args9 meth9 c9 E A9 10 cX6_torque wsX6_torque RX6 := C
  refine g_aload_n C 0 rfl dX6_torque_0 rfl ?_
  refine g_get C 0 fd_X6_torque_117 rfl rfl rfl dX6_torque_1 rfl ?_
  refine g_aload_n C 0 rfl dX6_torque_4 rfl ?_
  refine g_get C 0 fd_X6_torque_17 rfl rfl rfl dX6_torque_5 rfl ?_
  refine g_iconst C dX6_torque_8 rfl ?_
  refine g_iald C 1 rfl (by decide) (by decide) (by decide) rfl dX6_torque_9 rfl ?_
  refine g_icmp_gt C (tgt := 17) ⟨by omega, by omega⟩ ⟨by omega, by omega⟩ dX6_torque_10 (by decide) rfl (fun c_1 => ?_) (fun c_1 => ?_)
  · refine g_iconst C dX6_torque_17 rfl ?_
    refine g_istore_n C (lv' := [(0, vR (R 0)), (1, vI 0)]) [1, 0] (by decide) rfl rfl dX6_torque_18 rfl ?_
    refine g_iload_n C 1 rfl dX6_torque_19 rfl ?_
    refine g_if_eq C (tgt := 31) ⟨by decide, by decide⟩ dX6_torque_20 (by decide) rfl (fun c_2 => ?_) (fun c_2 => ?_)
    · refine g_aload_n C 0 rfl dX6_torque_31 rfl ?_
      refine g_get C 0 fd_X6_torque_57 rfl rfl rfl dX6_torque_32 rfl ?_
      refine g_get C 5 fd_X6_torque_171 rfl rfl rfl dX6_torque_35 rfl ?_
      refine g_i2l C ⟨by omega, by omega⟩ rfl dX6_torque_38 rfl ?_
      refine g_lstore_n C (lv' := [(0, vR (R 0)), (1, vI 0), (2, vL va)]) [1, 2, 0] (by decide) rfl rfl dX6_torque_39 rfl ?_
      refine g_iload_n C 1 rfl dX6_torque_40 rfl ?_
      refine g_if_eq C (tgt := 52) ⟨by decide, by decide⟩ dX6_torque_41 (by decide) rfl (fun c_3 => ?_) (fun c_3 => ?_)
      · refine g_aload_n C 0 rfl dX6_torque_52 rfl ?_
        refine g_get C 0 fd_X6_torque_57 rfl rfl rfl dX6_torque_53 rfl ?_
        refine g_get C 5 fd_X6_torque_174 rfl rfl rfl dX6_torque_56 rfl ?_
        refine g_i2l C ⟨by omega, by omega⟩ rfl dX6_torque_59 rfl ?_
        refine g_lstore C (lv' := [(0, vR (R 0)), (1, vI 0), (2, vL va), (4, vL vb)]) [1, 2, 3, 0] (by decide) rfl rfl dX6_torque_60 rfl ?_
        refine g_aload_n C 0 rfl dX6_torque_62 rfl ?_
        refine g_get C 0 fd_X6_torque_57 rfl rfl rfl dX6_torque_63 rfl ?_
        refine g_get C 5 fd_X6_torque_181 rfl rfl rfl dX6_torque_66 rfl ?_
        refine g_i2l C ⟨by omega, by omega⟩ rfl dX6_torque_69 rfl ?_
        refine g_lstore C (lv' := [(0, vR (R 0)), (1, vI 0), (2, vL va), (4, vL vb), (6, vL ia)]) [1, 2, 3, 4, 0] (by decide) rfl rfl dX6_torque_70 rfl ?_
        refine g_aload_n C 0 rfl dX6_torque_72 rfl ?_
        refine g_get C 0 fd_X6_torque_57 rfl rfl rfl dX6_torque_73 rfl ?_
        refine g_get C 5 fd_X6_torque_184 rfl rfl rfl dX6_torque_76 rfl ?_
        refine g_i2l C ⟨by omega, by omega⟩ rfl dX6_torque_79 rfl ?_
        refine g_lstore C (lv' := [(0, vR (R 0)), (1, vI 0), (2, vL va), (4, vL vb), (6, vL ia), (8, vL ib)]) [1, 2, 3, 4, 5, 0] (by decide) rfl rfl dX6_torque_80 rfl ?_
        refine g_aload_n C 0 rfl dX6_torque_82 rfl ?_
        refine g_get C 0 fd_X6_torque_33 rfl rfl rfl dX6_torque_83 rfl ?_
        refine g_get C 2 fd_X6_torque_224 rfl rfl rfl dX6_torque_86 rfl ?_
        refine g_iconst C dX6_torque_89 rfl ?_
        refine g_iald C 3 rfl (by decide) (by decide) (by decide) rfl dX6_torque_90 rfl ?_
        refine g_i2l C ⟨by omega, by omega⟩ rfl dX6_torque_91 rfl ?_
        refine g_lload_n C 2 rfl dX6_torque_92 rfl ?_
        refine g_lload C 4 rfl dX6_torque_93 rfl ?_
        refine g_lmul C rfl dX6_torque_95 rfl ?_
        refine g_lload C 3 rfl dX6_torque_96 rfl ?_
        refine g_lload C 5 rfl dX6_torque_98 rfl ?_
        refine g_lmul C rfl dX6_torque_100 rfl ?_
        refine g_ladd C rfl dX6_torque_101 rfl ?_
        refine g_lmul C rfl dX6_torque_102 rfl ?_
        refine g_aload_n C 0 rfl dX6_torque_103 rfl ?_
        refine g_get C 0 fd_X6_torque_33 rfl rfl rfl dX6_torque_104 rfl ?_
        refine g_get C 2 fd_X6_torque_227 rfl rfl rfl dX6_torque_107 rfl ?_
        refine g_iconst C dX6_torque_110 rfl ?_
        refine g_iald C 4 rfl (by decide) (by decide) (by decide) rfl dX6_torque_111 rfl ?_
        refine g_i2l C ⟨by omega, by omega⟩ rfl dX6_torque_112 rfl ?_
        refine g_lload C 3 rfl dX6_torque_113 rfl ?_
        refine g_lload C 4 rfl dX6_torque_115 rfl ?_
        refine g_lmul C rfl dX6_torque_117 rfl ?_
        refine g_lload_n C 2 rfl dX6_torque_118 rfl ?_
        refine g_lload C 5 rfl dX6_torque_119 rfl ?_
        refine g_lmul C rfl dX6_torque_121 rfl ?_
        refine g_lsub C rfl dX6_torque_122 rfl ?_
        refine g_lmul C rfl dX6_torque_123 rfl ?_
        refine g_ladd C rfl dX6_torque_124 rfl ?_
        refine g_top (v' := vL (trq (pol ag (S 2) ma va) (pol ag (S 2) mb vb) ia ib (F 2) (N 2))) (congrArg (fun z_ : Int => vL z_) (show (trq (pol ag (S 2) ma va) (pol ag (S 2) mb vb) ia ib (F 2) (N 2)) = (((F 2) * ((va * ia) + (vb * ib))) + ((N 2) * ((vb * ia) - (va * ib)))) by unfold trq pol; first | rw [if_pos (by omega), if_pos (by omega)] | rw [if_neg (by omega), if_neg (by omega)])) ?_
        exact g_lret C hr (Nat.le_of_ble_eq_true rfl) (Nat.le_of_ble_eq_true rfl) dX6_torque_125 ⟨rfl, rfl⟩
      exact absurd c_3 (by decide)
    exact absurd c_2 (by decide)
  refine g_iconst C dX6_torque_13 rfl ?_
  refine g_goto C (pc' := 18) dX6_torque_14 (by decide) ?_
  refine g_istore_n C (lv' := [(0, vR (R 0)), (1, vI 1)]) [1, 0] (by decide) rfl rfl dX6_torque_18 rfl ?_
  refine g_iload_n C 1 rfl dX6_torque_19 rfl ?_
  refine g_if_eq C (tgt := 31) ⟨by decide, by decide⟩ dX6_torque_20 (by decide) rfl (fun c_4 => ?_) (fun c_4 => ?_)
  · exact absurd c_4 (by decide)
  refine g_aload_n C 0 rfl dX6_torque_23 rfl ?_
  refine g_get C 0 fd_X6_torque_111 rfl rfl rfl dX6_torque_24 rfl ?_
  refine g_i2l C ⟨by omega, by omega⟩ rfl dX6_torque_27 rfl ?_
  refine g_goto C (pc' := 39) dX6_torque_28 (by decide) ?_
  refine g_lstore_n C (lv' := [(0, vR (R 0)), (1, vI 1), (2, vL ma)]) [1, 2, 0] (by decide) rfl rfl dX6_torque_39 rfl ?_
  refine g_iload_n C 1 rfl dX6_torque_40 rfl ?_
  refine g_if_eq C (tgt := 52) ⟨by decide, by decide⟩ dX6_torque_41 (by decide) rfl (fun c_5 => ?_) (fun c_5 => ?_)
  · exact absurd c_5 (by decide)
  refine g_aload_n C 0 rfl dX6_torque_44 rfl ?_
  refine g_get C 0 fd_X6_torque_114 rfl rfl rfl dX6_torque_45 rfl ?_
  refine g_i2l C ⟨by omega, by omega⟩ rfl dX6_torque_48 rfl ?_
  refine g_goto C (pc' := 60) dX6_torque_49 (by decide) ?_
  refine g_lstore C (lv' := [(0, vR (R 0)), (1, vI 1), (2, vL ma), (4, vL mb)]) [1, 2, 3, 0] (by decide) rfl rfl dX6_torque_60 rfl ?_
  refine g_aload_n C 0 rfl dX6_torque_62 rfl ?_
  refine g_get C 0 fd_X6_torque_57 rfl rfl rfl dX6_torque_63 rfl ?_
  refine g_get C 5 fd_X6_torque_181 rfl rfl rfl dX6_torque_66 rfl ?_
  refine g_i2l C ⟨by omega, by omega⟩ rfl dX6_torque_69 rfl ?_
  refine g_lstore C (lv' := [(0, vR (R 0)), (1, vI 1), (2, vL ma), (4, vL mb), (6, vL ia)]) [1, 2, 3, 4, 0] (by decide) rfl rfl dX6_torque_70 rfl ?_
  refine g_aload_n C 0 rfl dX6_torque_72 rfl ?_
  refine g_get C 0 fd_X6_torque_57 rfl rfl rfl dX6_torque_73 rfl ?_
  refine g_get C 5 fd_X6_torque_184 rfl rfl rfl dX6_torque_76 rfl ?_
  refine g_i2l C ⟨by omega, by omega⟩ rfl dX6_torque_79 rfl ?_
  refine g_lstore C (lv' := [(0, vR (R 0)), (1, vI 1), (2, vL ma), (4, vL mb), (6, vL ia), (8, vL ib)]) [1, 2, 3, 4, 5, 0] (by decide) rfl rfl dX6_torque_80 rfl ?_
  refine g_aload_n C 0 rfl dX6_torque_82 rfl ?_
  refine g_get C 0 fd_X6_torque_33 rfl rfl rfl dX6_torque_83 rfl ?_
  refine g_get C 2 fd_X6_torque_224 rfl rfl rfl dX6_torque_86 rfl ?_
  refine g_iconst C dX6_torque_89 rfl ?_
  refine g_iald C 3 rfl (by decide) (by decide) (by decide) rfl dX6_torque_90 rfl ?_
  refine g_i2l C ⟨by omega, by omega⟩ rfl dX6_torque_91 rfl ?_
  refine g_lload_n C 2 rfl dX6_torque_92 rfl ?_
  refine g_lload C 4 rfl dX6_torque_93 rfl ?_
  refine g_lmul C rfl dX6_torque_95 rfl ?_
  refine g_lload C 3 rfl dX6_torque_96 rfl ?_
  refine g_lload C 5 rfl dX6_torque_98 rfl ?_
  refine g_lmul C rfl dX6_torque_100 rfl ?_
  refine g_ladd C rfl dX6_torque_101 rfl ?_
  refine g_lmul C rfl dX6_torque_102 rfl ?_
  refine g_aload_n C 0 rfl dX6_torque_103 rfl ?_
  refine g_get C 0 fd_X6_torque_33 rfl rfl rfl dX6_torque_104 rfl ?_
  refine g_get C 2 fd_X6_torque_227 rfl rfl rfl dX6_torque_107 rfl ?_
  refine g_iconst C dX6_torque_110 rfl ?_
  refine g_iald C 4 rfl (by decide) (by decide) (by decide) rfl dX6_torque_111 rfl ?_
  refine g_i2l C ⟨by omega, by omega⟩ rfl dX6_torque_112 rfl ?_
  refine g_lload C 3 rfl dX6_torque_113 rfl ?_
  refine g_lload C 4 rfl dX6_torque_115 rfl ?_
  refine g_lmul C rfl dX6_torque_117 rfl ?_
  refine g_lload_n C 2 rfl dX6_torque_118 rfl ?_
  refine g_lload C 5 rfl dX6_torque_119 rfl ?_
  refine g_lmul C rfl dX6_torque_121 rfl ?_
  refine g_lsub C rfl dX6_torque_122 rfl ?_
  refine g_lmul C rfl dX6_torque_123 rfl ?_
  refine g_ladd C rfl dX6_torque_124 rfl ?_
  refine g_top (v' := vL (trq (pol ag (S 2) ma va) (pol ag (S 2) mb vb) ia ib (F 2) (N 2))) (congrArg (fun z_ : Int => vL z_) (show (trq (pol ag (S 2) ma va) (pol ag (S 2) mb vb) ia ib (F 2) (N 2)) = (((F 2) * ((ma * ia) + (mb * ib))) + ((N 2) * ((mb * ia) - (ma * ib)))) by unfold trq pol; first | rw [if_pos (by omega), if_pos (by omega)] | rw [if_neg (by omega), if_neg (by omega)])) ?_
  exact g_lret C hr (Nat.le_of_ble_eq_true rfl) (Nat.le_of_ble_eq_true rfl) dX6_torque_125 ⟨rfl, rfl⟩

theorem in_X6_rearm_X6 : ∀ w ∈ u_ws RX6 TX6 18, w ∈ wsX6_rearm := by decide +kernel
theorem fd_X6_rearm_75 : fdk wsX6_rearm RX6 75 "ZoneRelay$Relay" RX6 TX6 18 16 := ⟨in_X6_rearm_X6, by decide +kernel, by decide, rfl⟩
theorem fd_X6_rearm_26 : fdk wsX6_rearm RX6 26 "ZoneRelay$Relay" RX6 TX6 18 2 := ⟨in_X6_rearm_X6, by decide +kernel, by decide, rfl⟩
theorem in_X6_rearm_X9 : ∀ w ∈ u_ws RX9 TX9 4, w ∈ wsX6_rearm := by decide +kernel
theorem fd_X6_rearm_133 : fdk wsX6_rearm RX6 133 "ZoneRelay$Zone" RX9 TX9 4 2 := ⟨in_X6_rearm_X9, by decide +kernel, by decide, rfl⟩
abbrev rm_K_rearm : Room := { frames := 0, cells := 0, slots := 0, locals := 0 }
set_option maxHeartbeats 8000000 in
set_option maxRecDepth 100000 in
theorem K_rearm (l : Launch) (E : Ev) (R : Nat → Nat) (ma mb ag bt_ sw il tr tm d0 w0 t0 p0 d1 w1 t1 p1 d2 w2 t2 p2 : Int)  : Mc l yX6_rearm wsX6_rearm rm_K_rearm E [vR (R 0)] [((R 0), .inr (7, [vR (R 1), vR (R 17), vR (R 18), vR (R 22), vR (R 25), vR (R 29), vR (R 31), vR (R 33), vR (R 34), vR (R 35), vI ma, vI mb, vI ag, vI bt_, vI sw, vI il, vI tr, vI tm])), ((R 18), cQ E 5 3 (zq R)), ((R 19), .inr (10, [vI d0, vI w0, vI t0, vI p0])), ((R 20), .inr (10, [vI d1, vI w1, vI t1, vI p1])), ((R 21), .inr (10, [vI d2, vI w2, vI t2, vI p2]))] 0 0 (fun v9 w9 => v9 = none ∧ w9 = [((R 0), .inr (7, [vR (R 1), vR (R 17), vR (R 18), vR (R 22), vR (R 25), vR (R 29), vR (R 31), vR (R 33), vR (R 34), vR (R 35), vI ma, vI mb, vI ag, vI bt_, vI sw, vI il, vI (-6), vI tm])), ((R 18), cQ E 5 3 (zq R)), ((R 19), .inr (10, [vI d0, vI w0, vI 0, vI p0])), ((R 20), .inr (10, [vI d1, vI w1, vI 0, vI p1])), ((R 21), .inr (10, [vI d2, vI w2, vI 0, vI p2]))]) := by
  refine Mc.intro (cc := cX6_rearm) (maxL := 2) (ret := none) (lv0 := [(0, vR (R 0))]) (by decide +kernel) rfl rfl (Nat.le_of_ble_eq_true rfl) ?_
  intro p9 e9 s9 m9 args9 below9 meth9 c9 A9 C hr hmn
  have C : Cx p9 s9 m9 args9 meth9 c9 E A9 2 cX6_rearm wsX6_rearm RX6 := C
  refine g_aload_n C 0 rfl dX6_rearm_0 rfl ?_
  refine g_bipush C (by decide) dX6_rearm_1 rfl ?_
  refine g_put C tyX6 tyX6_ok nmX6 0 fd_X6_rearm_75 rfl rfl rfl rfl rfl rfl (Nat.le_of_ble_eq_true rfl) (ws' := [((R 0), .inr (7, [vR (R 1), vR (R 17), vR (R 18), vR (R 22), vR (R 25), vR (R 29), vR (R 31), vR (R 33), vR (R 34), vR (R 35), vI ma, vI mb, vI ag, vI bt_, vI sw, vI il, vI (-6), vI tm])), ((R 18), cQ E 5 3 (zq R)), ((R 19), .inr (10, [vI d0, vI w0, vI t0, vI p0])), ((R 20), .inr (10, [vI d1, vI w1, vI t1, vI p1])), ((R 21), .inr (10, [vI d2, vI w2, vI t2, vI p2]))]) rfl dX6_rearm_3 rfl ?_
  refine g_iconst C dX6_rearm_6 rfl ?_
  refine g_istore_n C (lv' := [(0, vR (R 0)), (1, vI 0)]) [1, 0] (by decide) rfl rfl dX6_rearm_7 rfl ?_
  refine g_iload_n C 1 rfl dX6_rearm_8 rfl ?_
  refine g_iconst C dX6_rearm_9 rfl ?_
  refine g_icmp_ge C (tgt := 29) ⟨by decide, by decide⟩ ⟨by decide, by decide⟩ dX6_rearm_10 (by decide) rfl (fun c_1 => ?_) (fun c_1 => ?_)
  · exact absurd c_1 (by decide)
  refine g_aload_n C 0 rfl dX6_rearm_13 rfl ?_
  refine g_get C 0 fd_X6_rearm_26 rfl rfl rfl dX6_rearm_14 rfl ?_
  refine g_iload_n C 1 rfl dX6_rearm_17 rfl ?_
  refine g_aald C 1 5 rfl rfl (by decide) (by decide) (by decide) rfl dX6_rearm_18 rfl ?_
  refine g_iconst C dX6_rearm_19 rfl ?_
  refine g_put C tyX9 tyX9_ok nmX9 2 fd_X6_rearm_133 rfl rfl rfl rfl rfl rfl (Nat.le_of_ble_eq_true rfl) (ws' := [((R 0), .inr (7, [vR (R 1), vR (R 17), vR (R 18), vR (R 22), vR (R 25), vR (R 29), vR (R 31), vR (R 33), vR (R 34), vR (R 35), vI ma, vI mb, vI ag, vI bt_, vI sw, vI il, vI (-6), vI tm])), ((R 18), cQ E 5 3 (zq R)), ((R 19), .inr (10, [vI d0, vI w0, vI 0, vI p0])), ((R 20), .inr (10, [vI d1, vI w1, vI t1, vI p1])), ((R 21), .inr (10, [vI d2, vI w2, vI t2, vI p2]))]) rfl dX6_rearm_20 rfl ?_
  refine g_iinc C (r := 1) (lv' := [(0, vR (R 0)), (1, vI 1)]) 1 [1, 0] rfl (by decide) (by decide) rfl rfl dX6_rearm_23 rfl ?_
  refine g_goto C (pc' := 8) dX6_rearm_26 (by decide) ?_
  refine g_iload_n C 1 rfl dX6_rearm_8 rfl ?_
  refine g_iconst C dX6_rearm_9 rfl ?_
  refine g_icmp_ge C (tgt := 29) ⟨by decide, by decide⟩ ⟨by decide, by decide⟩ dX6_rearm_10 (by decide) rfl (fun c_2 => ?_) (fun c_2 => ?_)
  · exact absurd c_2 (by decide)
  refine g_aload_n C 0 rfl dX6_rearm_13 rfl ?_
  refine g_get C 0 fd_X6_rearm_26 rfl rfl rfl dX6_rearm_14 rfl ?_
  refine g_iload_n C 1 rfl dX6_rearm_17 rfl ?_
  refine g_aald C 1 5 rfl rfl (by decide) (by decide) (by decide) rfl dX6_rearm_18 rfl ?_
  refine g_iconst C dX6_rearm_19 rfl ?_
  refine g_put C tyX9 tyX9_ok nmX9 3 fd_X6_rearm_133 rfl rfl rfl rfl rfl rfl (Nat.le_of_ble_eq_true rfl) (ws' := [((R 0), .inr (7, [vR (R 1), vR (R 17), vR (R 18), vR (R 22), vR (R 25), vR (R 29), vR (R 31), vR (R 33), vR (R 34), vR (R 35), vI ma, vI mb, vI ag, vI bt_, vI sw, vI il, vI (-6), vI tm])), ((R 18), cQ E 5 3 (zq R)), ((R 19), .inr (10, [vI d0, vI w0, vI 0, vI p0])), ((R 20), .inr (10, [vI d1, vI w1, vI 0, vI p1])), ((R 21), .inr (10, [vI d2, vI w2, vI t2, vI p2]))]) rfl dX6_rearm_20 rfl ?_
  refine g_iinc C (r := 2) (lv' := [(0, vR (R 0)), (1, vI 2)]) 1 [1, 0] rfl (by decide) (by decide) rfl rfl dX6_rearm_23 rfl ?_
  refine g_goto C (pc' := 8) dX6_rearm_26 (by decide) ?_
  refine g_iload_n C 1 rfl dX6_rearm_8 rfl ?_
  refine g_iconst C dX6_rearm_9 rfl ?_
  refine g_icmp_ge C (tgt := 29) ⟨by decide, by decide⟩ ⟨by decide, by decide⟩ dX6_rearm_10 (by decide) rfl (fun c_3 => ?_) (fun c_3 => ?_)
  · exact absurd c_3 (by decide)
  refine g_aload_n C 0 rfl dX6_rearm_13 rfl ?_
  refine g_get C 0 fd_X6_rearm_26 rfl rfl rfl dX6_rearm_14 rfl ?_
  refine g_iload_n C 1 rfl dX6_rearm_17 rfl ?_
  refine g_aald C 1 5 rfl rfl (by decide) (by decide) (by decide) rfl dX6_rearm_18 rfl ?_
  refine g_iconst C dX6_rearm_19 rfl ?_
  refine g_put C tyX9 tyX9_ok nmX9 4 fd_X6_rearm_133 rfl rfl rfl rfl rfl rfl (Nat.le_of_ble_eq_true rfl) (ws' := [((R 0), .inr (7, [vR (R 1), vR (R 17), vR (R 18), vR (R 22), vR (R 25), vR (R 29), vR (R 31), vR (R 33), vR (R 34), vR (R 35), vI ma, vI mb, vI ag, vI bt_, vI sw, vI il, vI (-6), vI tm])), ((R 18), cQ E 5 3 (zq R)), ((R 19), .inr (10, [vI d0, vI w0, vI 0, vI p0])), ((R 20), .inr (10, [vI d1, vI w1, vI 0, vI p1])), ((R 21), .inr (10, [vI d2, vI w2, vI 0, vI p2]))]) rfl dX6_rearm_20 rfl ?_
  refine g_iinc C (r := 3) (lv' := [(0, vR (R 0)), (1, vI 3)]) 1 [1, 0] rfl (by decide) (by decide) rfl rfl dX6_rearm_23 rfl ?_
  refine g_goto C (pc' := 8) dX6_rearm_26 (by decide) ?_
  refine g_iload_n C 1 rfl dX6_rearm_8 rfl ?_
  refine g_iconst C dX6_rearm_9 rfl ?_
  refine g_icmp_ge C (tgt := 29) ⟨by decide, by decide⟩ ⟨by decide, by decide⟩ dX6_rearm_10 (by decide) rfl (fun c_4 => ?_) (fun c_4 => ?_)
  · exact g_vret C hr (Nat.le_of_ble_eq_true rfl) (Nat.le_of_ble_eq_true rfl) dX6_rearm_29 ⟨rfl, rfl⟩
  exact absurd c_4 (by decide)

theorem in_X6_runTimers_X6 : ∀ w ∈ u_ws RX6 TX6 18, w ∈ wsX6_runTimers := by decide +kernel
theorem fd_X6_runTimers_26 : fdk wsX6_runTimers RX6 26 "ZoneRelay$Relay" RX6 TX6 18 2 := ⟨in_X6_runTimers_X6, by decide +kernel, by decide, rfl⟩
theorem in_X6_runTimers_X9 : ∀ w ∈ u_ws RX9 TX9 4, w ∈ wsX6_runTimers := by decide +kernel
theorem fd_X6_runTimers_221 : fdk wsX6_runTimers RX6 221 "ZoneRelay$Zone" RX9 TX9 4 3 := ⟨in_X6_runTimers_X9, by decide +kernel, by decide, rfl⟩
theorem fd_X6_runTimers_133 : fdk wsX6_runTimers RX6 133 "ZoneRelay$Zone" RX9 TX9 4 2 := ⟨in_X6_runTimers_X9, by decide +kernel, by decide, rfl⟩
abbrev rm_K_runTimers : Room := { frames := 0, cells := 0, slots := 0, locals := 0 }
set_option maxHeartbeats 8000000 in
set_option maxRecDepth 100000 in
theorem K_runTimers (l : Launch) (E : Ev) (R : Nat → Nat) (ma mb ag bt_ sw il tr tm d0 w0 t0 p0 d1 w1 t1 p1 d2 w2 t2 p2 : Int) (hp0 : p0 = 0 ∨ p0 = 1) (hp1 : p1 = 0 ∨ p1 = 1) (hp2 : p2 = 0 ∨ p2 = 1) : Mc l yX6_runTimers wsX6_runTimers rm_K_runTimers E [vR (R 0)] [((R 0), .inr (7, [vR (R 1), vR (R 17), vR (R 18), vR (R 22), vR (R 25), vR (R 29), vR (R 31), vR (R 33), vR (R 34), vR (R 35), vI ma, vI mb, vI ag, vI bt_, vI sw, vI il, vI tr, vI tm])), ((R 18), cQ E 5 3 (zq R)), ((R 19), .inr (10, [vI d0, vI w0, vI t0, vI p0])), ((R 20), .inr (10, [vI d1, vI w1, vI t1, vI p1])), ((R 21), .inr (10, [vI d2, vI w2, vI t2, vI p2]))] 0 0 (fun v9 w9 => v9 = none ∧ w9 = [((R 0), .inr (7, [vR (R 1), vR (R 17), vR (R 18), vR (R 22), vR (R 25), vR (R 29), vR (R 31), vR (R 33), vR (R 34), vR (R 35), vI ma, vI mb, vI ag, vI bt_, vI sw, vI il, vI tr, vI tm])), ((R 18), cQ E 5 3 (zq R)), ((R 19), .inr (10, [vI d0, vI w0, vI (if p0 = 1 then t0 + 1 else 0), vI p0])), ((R 20), .inr (10, [vI d1, vI w1, vI (if p1 = 1 then t1 + 1 else 0), vI p1])), ((R 21), .inr (10, [vI d2, vI w2, vI (if p2 = 1 then t2 + 1 else 0), vI p2]))]) := by
  refine Mc.intro (cc := cX6_runTimers) (maxL := 2) (ret := none) (lv0 := [(0, vR (R 0))]) (by decide +kernel) rfl rfl (Nat.le_of_ble_eq_true rfl) ?_
  intro p9 e9 s9 m9 args9 below9 meth9 c9 A9 C hr hmn
  have C : Cx p9 s9 m9 args9 meth9 c9 E A9 2 cX6_runTimers wsX6_runTimers RX6 := C
  refine g_iconst C dX6_runTimers_0 rfl ?_
  refine g_istore_n C (lv' := [(0, vR (R 0)), (1, vI 0)]) [1, 0] (by decide) rfl rfl dX6_runTimers_1 rfl ?_
  have hL_2_3 : G p9 l e9 rm_K_runTimers s9 m9 args9 below9 meth9 c9 (RQ E (fun v9 w9 => v9 = none ∧ w9 = [((R 0), .inr (7, [vR (R 1), vR (R 17), vR (R 18), vR (R 22), vR (R 25), vR (R 29), vR (R 31), vR (R 33), vR (R 34), vR (R 35), vI ma, vI mb, vI ag, vI bt_, vI sw, vI il, vI tr, vI tm])), ((R 18), cQ E 5 3 (zq R)), ((R 19), .inr (10, [vI d0, vI w0, vI (if p0 = 1 then t0 + 1 else 0), vI p0])), ((R 20), .inr (10, [vI d1, vI w1, vI (if p1 = 1 then t1 + 1 else 0), vI p1])), ((R 21), .inr (10, [vI d2, vI w2, vI (if p2 = 1 then t2 + 1 else 0), vI p2]))]) A9 below9 args9 s9 0 0) E A9 2 0 0 [((R 0), .inr (7, [vR (R 1), vR (R 17), vR (R 18), vR (R 22), vR (R 25), vR (R 29), vR (R 31), vR (R 33), vR (R 34), vR (R 35), vI ma, vI mb, vI ag, vI bt_, vI sw, vI il, vI tr, vI tm])), ((R 18), cQ E 5 3 (zq R)), ((R 19), .inr (10, [vI d0, vI w0, vI (if p0 = 1 then t0 + 1 else 0), vI p0])), ((R 20), .inr (10, [vI d1, vI w1, vI (if p1 = 1 then t1 + 1 else 0), vI p1])), ((R 21), .inr (10, [vI d2, vI w2, vI (if p2 = 1 then t2 + 1 else 0), vI p2]))] [(0, vR (R 0)), (1, vI 3)] 2 [] := by
    refine g_iload_n C 1 rfl dX6_runTimers_2 rfl ?_
    refine g_iconst C dX6_runTimers_3 rfl ?_
    refine g_icmp_ge C (tgt := 49) ⟨by decide, by decide⟩ ⟨by decide, by decide⟩ dX6_runTimers_4 (by decide) rfl (fun c_1 => ?_) (fun c_1 => ?_)
    · exact g_vret C hr (Nat.le_of_ble_eq_true rfl) (Nat.le_of_ble_eq_true rfl) dX6_runTimers_49 ⟨rfl, rfl⟩
    exact absurd c_1 (by decide)
  have hL_2_2 : G p9 l e9 rm_K_runTimers s9 m9 args9 below9 meth9 c9 (RQ E (fun v9 w9 => v9 = none ∧ w9 = [((R 0), .inr (7, [vR (R 1), vR (R 17), vR (R 18), vR (R 22), vR (R 25), vR (R 29), vR (R 31), vR (R 33), vR (R 34), vR (R 35), vI ma, vI mb, vI ag, vI bt_, vI sw, vI il, vI tr, vI tm])), ((R 18), cQ E 5 3 (zq R)), ((R 19), .inr (10, [vI d0, vI w0, vI (if p0 = 1 then t0 + 1 else 0), vI p0])), ((R 20), .inr (10, [vI d1, vI w1, vI (if p1 = 1 then t1 + 1 else 0), vI p1])), ((R 21), .inr (10, [vI d2, vI w2, vI (if p2 = 1 then t2 + 1 else 0), vI p2]))]) A9 below9 args9 s9 0 0) E A9 2 0 0 [((R 0), .inr (7, [vR (R 1), vR (R 17), vR (R 18), vR (R 22), vR (R 25), vR (R 29), vR (R 31), vR (R 33), vR (R 34), vR (R 35), vI ma, vI mb, vI ag, vI bt_, vI sw, vI il, vI tr, vI tm])), ((R 18), cQ E 5 3 (zq R)), ((R 19), .inr (10, [vI d0, vI w0, vI (if p0 = 1 then t0 + 1 else 0), vI p0])), ((R 20), .inr (10, [vI d1, vI w1, vI (if p1 = 1 then t1 + 1 else 0), vI p1])), ((R 21), .inr (10, [vI d2, vI w2, vI t2, vI p2]))] [(0, vR (R 0)), (1, vI 2)] 2 [] := by
    refine g_iload_n C 1 rfl dX6_runTimers_2 rfl ?_
    refine g_iconst C dX6_runTimers_3 rfl ?_
    refine g_icmp_ge C (tgt := 49) ⟨by decide, by decide⟩ ⟨by decide, by decide⟩ dX6_runTimers_4 (by decide) rfl (fun c_2 => ?_) (fun c_2 => ?_)
    · exact absurd c_2 (by decide)
    refine g_aload_n C 0 rfl dX6_runTimers_7 rfl ?_
    refine g_get C 0 fd_X6_runTimers_26 rfl rfl rfl dX6_runTimers_8 rfl ?_
    refine g_iload_n C 1 rfl dX6_runTimers_11 rfl ?_
    refine g_aald C 1 5 rfl rfl (by decide) (by decide) (by decide) rfl dX6_runTimers_12 rfl ?_
    refine g_aload_n C 0 rfl dX6_runTimers_13 rfl ?_
    refine g_get C 0 fd_X6_runTimers_26 rfl rfl rfl dX6_runTimers_14 rfl ?_
    refine g_iload_n C 1 rfl dX6_runTimers_17 rfl ?_
    refine g_aald C 1 5 rfl rfl (by decide) (by decide) (by decide) rfl dX6_runTimers_18 rfl ?_
    refine g_get C 4 fd_X6_runTimers_221 rfl rfl rfl dX6_runTimers_19 rfl ?_
    refine g_if_eq C (tgt := 39) ⟨by omega, by omega⟩ dX6_runTimers_22 (by decide) rfl (fun c_3 => ?_) (fun c_3 => ?_)
    · refine g_iconst C dX6_runTimers_39 rfl ?_
      refine g_put C tyX9 tyX9_ok nmX9 4 fd_X6_runTimers_133 rfl rfl rfl rfl rfl rfl (Nat.le_of_ble_eq_true rfl) (ws' := [((R 0), .inr (7, [vR (R 1), vR (R 17), vR (R 18), vR (R 22), vR (R 25), vR (R 29), vR (R 31), vR (R 33), vR (R 34), vR (R 35), vI ma, vI mb, vI ag, vI bt_, vI sw, vI il, vI tr, vI tm])), ((R 18), cQ E 5 3 (zq R)), ((R 19), .inr (10, [vI d0, vI w0, vI (if p0 = 1 then t0 + 1 else 0), vI p0])), ((R 20), .inr (10, [vI d1, vI w1, vI (if p1 = 1 then t1 + 1 else 0), vI p1])), ((R 21), .inr (10, [vI d2, vI w2, vI 0, vI p2]))]) rfl dX6_runTimers_40 rfl ?_
      refine g_iinc C (r := 3) (lv' := [(0, vR (R 0)), (1, vI 3)]) 1 [1, 0] rfl (by decide) (by decide) rfl rfl dX6_runTimers_43 rfl ?_
      refine g_goto C (pc' := 2) dX6_runTimers_46 (by decide) ?_
      refine g_ws (ws' := [((R 0), .inr (7, [vR (R 1), vR (R 17), vR (R 18), vR (R 22), vR (R 25), vR (R 29), vR (R 31), vR (R 33), vR (R 34), vR (R 35), vI ma, vI mb, vI ag, vI bt_, vI sw, vI il, vI tr, vI tm])), ((R 18), cQ E 5 3 (zq R)), ((R 19), .inr (10, [vI d0, vI w0, vI (if p0 = 1 then t0 + 1 else 0), vI p0])), ((R 20), .inr (10, [vI d1, vI w1, vI (if p1 = 1 then t1 + 1 else 0), vI p1])), ((R 21), .inr (10, [vI d2, vI w2, vI (if p2 = 1 then t2 + 1 else 0), vI p2]))]) (congrArg (fun z_ : Int => ([((R 0), .inr (7, [vR (R 1), vR (R 17), vR (R 18), vR (R 22), vR (R 25), vR (R 29), vR (R 31), vR (R 33), vR (R 34), vR (R 35), vI ma, vI mb, vI ag, vI bt_, vI sw, vI il, vI tr, vI tm])), ((R 18), cQ E 5 3 (zq R)), ((R 19), .inr (10, [vI d0, vI w0, vI (if p0 = 1 then t0 + 1 else 0), vI p0])), ((R 20), .inr (10, [vI d1, vI w1, vI (if p1 = 1 then t1 + 1 else 0), vI p1])), ((R 21), .inr (10, [vI d2, vI w2, vI z_, vI p2]))] : va_W)) (show (if p2 = 1 then t2 + 1 else 0) = 0 by first | rw [if_pos (by omega)] | rw [if_neg (by omega)])) ?_
      exact hL_2_3  
    refine g_aload_n C 0 rfl dX6_runTimers_25 rfl ?_
    refine g_get C 0 fd_X6_runTimers_26 rfl rfl rfl dX6_runTimers_26 rfl ?_
    refine g_iload_n C 1 rfl dX6_runTimers_29 rfl ?_
    refine g_aald C 1 5 rfl rfl (by decide) (by decide) (by decide) rfl dX6_runTimers_30 rfl ?_
    refine g_get C 4 fd_X6_runTimers_133 rfl rfl rfl dX6_runTimers_31 rfl ?_
    refine g_iconst C dX6_runTimers_34 rfl ?_
    refine g_iadd C rfl dX6_runTimers_35 rfl ?_
    refine g_goto C (pc' := 40) dX6_runTimers_36 (by decide) ?_
    refine g_put C tyX9 tyX9_ok nmX9 4 fd_X6_runTimers_133 rfl rfl rfl rfl rfl rfl (Nat.le_of_ble_eq_true rfl) (ws' := [((R 0), .inr (7, [vR (R 1), vR (R 17), vR (R 18), vR (R 22), vR (R 25), vR (R 29), vR (R 31), vR (R 33), vR (R 34), vR (R 35), vI ma, vI mb, vI ag, vI bt_, vI sw, vI il, vI tr, vI tm])), ((R 18), cQ E 5 3 (zq R)), ((R 19), .inr (10, [vI d0, vI w0, vI (if p0 = 1 then t0 + 1 else 0), vI p0])), ((R 20), .inr (10, [vI d1, vI w1, vI (if p1 = 1 then t1 + 1 else 0), vI p1])), ((R 21), .inr (10, [vI d2, vI w2, vI (t2 + 1), vI p2]))]) rfl dX6_runTimers_40 rfl ?_
    refine g_iinc C (r := 3) (lv' := [(0, vR (R 0)), (1, vI 3)]) 1 [1, 0] rfl (by decide) (by decide) rfl rfl dX6_runTimers_43 rfl ?_
    refine g_goto C (pc' := 2) dX6_runTimers_46 (by decide) ?_
    refine g_ws (ws' := [((R 0), .inr (7, [vR (R 1), vR (R 17), vR (R 18), vR (R 22), vR (R 25), vR (R 29), vR (R 31), vR (R 33), vR (R 34), vR (R 35), vI ma, vI mb, vI ag, vI bt_, vI sw, vI il, vI tr, vI tm])), ((R 18), cQ E 5 3 (zq R)), ((R 19), .inr (10, [vI d0, vI w0, vI (if p0 = 1 then t0 + 1 else 0), vI p0])), ((R 20), .inr (10, [vI d1, vI w1, vI (if p1 = 1 then t1 + 1 else 0), vI p1])), ((R 21), .inr (10, [vI d2, vI w2, vI (if p2 = 1 then t2 + 1 else 0), vI p2]))]) (congrArg (fun z_ : Int => ([((R 0), .inr (7, [vR (R 1), vR (R 17), vR (R 18), vR (R 22), vR (R 25), vR (R 29), vR (R 31), vR (R 33), vR (R 34), vR (R 35), vI ma, vI mb, vI ag, vI bt_, vI sw, vI il, vI tr, vI tm])), ((R 18), cQ E 5 3 (zq R)), ((R 19), .inr (10, [vI d0, vI w0, vI (if p0 = 1 then t0 + 1 else 0), vI p0])), ((R 20), .inr (10, [vI d1, vI w1, vI (if p1 = 1 then t1 + 1 else 0), vI p1])), ((R 21), .inr (10, [vI d2, vI w2, vI z_, vI p2]))] : va_W)) (show (if p2 = 1 then t2 + 1 else 0) = (t2 + 1) by first | rw [if_pos (by omega)] | rw [if_neg (by omega)])) ?_
    exact hL_2_3  
  have hL_2_1 : G p9 l e9 rm_K_runTimers s9 m9 args9 below9 meth9 c9 (RQ E (fun v9 w9 => v9 = none ∧ w9 = [((R 0), .inr (7, [vR (R 1), vR (R 17), vR (R 18), vR (R 22), vR (R 25), vR (R 29), vR (R 31), vR (R 33), vR (R 34), vR (R 35), vI ma, vI mb, vI ag, vI bt_, vI sw, vI il, vI tr, vI tm])), ((R 18), cQ E 5 3 (zq R)), ((R 19), .inr (10, [vI d0, vI w0, vI (if p0 = 1 then t0 + 1 else 0), vI p0])), ((R 20), .inr (10, [vI d1, vI w1, vI (if p1 = 1 then t1 + 1 else 0), vI p1])), ((R 21), .inr (10, [vI d2, vI w2, vI (if p2 = 1 then t2 + 1 else 0), vI p2]))]) A9 below9 args9 s9 0 0) E A9 2 0 0 [((R 0), .inr (7, [vR (R 1), vR (R 17), vR (R 18), vR (R 22), vR (R 25), vR (R 29), vR (R 31), vR (R 33), vR (R 34), vR (R 35), vI ma, vI mb, vI ag, vI bt_, vI sw, vI il, vI tr, vI tm])), ((R 18), cQ E 5 3 (zq R)), ((R 19), .inr (10, [vI d0, vI w0, vI (if p0 = 1 then t0 + 1 else 0), vI p0])), ((R 20), .inr (10, [vI d1, vI w1, vI t1, vI p1])), ((R 21), .inr (10, [vI d2, vI w2, vI t2, vI p2]))] [(0, vR (R 0)), (1, vI 1)] 2 [] := by
    refine g_iload_n C 1 rfl dX6_runTimers_2 rfl ?_
    refine g_iconst C dX6_runTimers_3 rfl ?_
    refine g_icmp_ge C (tgt := 49) ⟨by decide, by decide⟩ ⟨by decide, by decide⟩ dX6_runTimers_4 (by decide) rfl (fun c_4 => ?_) (fun c_4 => ?_)
    · exact absurd c_4 (by decide)
    refine g_aload_n C 0 rfl dX6_runTimers_7 rfl ?_
    refine g_get C 0 fd_X6_runTimers_26 rfl rfl rfl dX6_runTimers_8 rfl ?_
    refine g_iload_n C 1 rfl dX6_runTimers_11 rfl ?_
    refine g_aald C 1 5 rfl rfl (by decide) (by decide) (by decide) rfl dX6_runTimers_12 rfl ?_
    refine g_aload_n C 0 rfl dX6_runTimers_13 rfl ?_
    refine g_get C 0 fd_X6_runTimers_26 rfl rfl rfl dX6_runTimers_14 rfl ?_
    refine g_iload_n C 1 rfl dX6_runTimers_17 rfl ?_
    refine g_aald C 1 5 rfl rfl (by decide) (by decide) (by decide) rfl dX6_runTimers_18 rfl ?_
    refine g_get C 3 fd_X6_runTimers_221 rfl rfl rfl dX6_runTimers_19 rfl ?_
    refine g_if_eq C (tgt := 39) ⟨by omega, by omega⟩ dX6_runTimers_22 (by decide) rfl (fun c_5 => ?_) (fun c_5 => ?_)
    · refine g_iconst C dX6_runTimers_39 rfl ?_
      refine g_put C tyX9 tyX9_ok nmX9 3 fd_X6_runTimers_133 rfl rfl rfl rfl rfl rfl (Nat.le_of_ble_eq_true rfl) (ws' := [((R 0), .inr (7, [vR (R 1), vR (R 17), vR (R 18), vR (R 22), vR (R 25), vR (R 29), vR (R 31), vR (R 33), vR (R 34), vR (R 35), vI ma, vI mb, vI ag, vI bt_, vI sw, vI il, vI tr, vI tm])), ((R 18), cQ E 5 3 (zq R)), ((R 19), .inr (10, [vI d0, vI w0, vI (if p0 = 1 then t0 + 1 else 0), vI p0])), ((R 20), .inr (10, [vI d1, vI w1, vI 0, vI p1])), ((R 21), .inr (10, [vI d2, vI w2, vI t2, vI p2]))]) rfl dX6_runTimers_40 rfl ?_
      refine g_iinc C (r := 2) (lv' := [(0, vR (R 0)), (1, vI 2)]) 1 [1, 0] rfl (by decide) (by decide) rfl rfl dX6_runTimers_43 rfl ?_
      refine g_goto C (pc' := 2) dX6_runTimers_46 (by decide) ?_
      refine g_ws (ws' := [((R 0), .inr (7, [vR (R 1), vR (R 17), vR (R 18), vR (R 22), vR (R 25), vR (R 29), vR (R 31), vR (R 33), vR (R 34), vR (R 35), vI ma, vI mb, vI ag, vI bt_, vI sw, vI il, vI tr, vI tm])), ((R 18), cQ E 5 3 (zq R)), ((R 19), .inr (10, [vI d0, vI w0, vI (if p0 = 1 then t0 + 1 else 0), vI p0])), ((R 20), .inr (10, [vI d1, vI w1, vI (if p1 = 1 then t1 + 1 else 0), vI p1])), ((R 21), .inr (10, [vI d2, vI w2, vI t2, vI p2]))]) (congrArg (fun z_ : Int => ([((R 0), .inr (7, [vR (R 1), vR (R 17), vR (R 18), vR (R 22), vR (R 25), vR (R 29), vR (R 31), vR (R 33), vR (R 34), vR (R 35), vI ma, vI mb, vI ag, vI bt_, vI sw, vI il, vI tr, vI tm])), ((R 18), cQ E 5 3 (zq R)), ((R 19), .inr (10, [vI d0, vI w0, vI (if p0 = 1 then t0 + 1 else 0), vI p0])), ((R 20), .inr (10, [vI d1, vI w1, vI z_, vI p1])), ((R 21), .inr (10, [vI d2, vI w2, vI t2, vI p2]))] : va_W)) (show (if p1 = 1 then t1 + 1 else 0) = 0 by first | rw [if_pos (by omega)] | rw [if_neg (by omega)])) ?_
      exact hL_2_2  
    refine g_aload_n C 0 rfl dX6_runTimers_25 rfl ?_
    refine g_get C 0 fd_X6_runTimers_26 rfl rfl rfl dX6_runTimers_26 rfl ?_
    refine g_iload_n C 1 rfl dX6_runTimers_29 rfl ?_
    refine g_aald C 1 5 rfl rfl (by decide) (by decide) (by decide) rfl dX6_runTimers_30 rfl ?_
    refine g_get C 3 fd_X6_runTimers_133 rfl rfl rfl dX6_runTimers_31 rfl ?_
    refine g_iconst C dX6_runTimers_34 rfl ?_
    refine g_iadd C rfl dX6_runTimers_35 rfl ?_
    refine g_goto C (pc' := 40) dX6_runTimers_36 (by decide) ?_
    refine g_put C tyX9 tyX9_ok nmX9 3 fd_X6_runTimers_133 rfl rfl rfl rfl rfl rfl (Nat.le_of_ble_eq_true rfl) (ws' := [((R 0), .inr (7, [vR (R 1), vR (R 17), vR (R 18), vR (R 22), vR (R 25), vR (R 29), vR (R 31), vR (R 33), vR (R 34), vR (R 35), vI ma, vI mb, vI ag, vI bt_, vI sw, vI il, vI tr, vI tm])), ((R 18), cQ E 5 3 (zq R)), ((R 19), .inr (10, [vI d0, vI w0, vI (if p0 = 1 then t0 + 1 else 0), vI p0])), ((R 20), .inr (10, [vI d1, vI w1, vI (t1 + 1), vI p1])), ((R 21), .inr (10, [vI d2, vI w2, vI t2, vI p2]))]) rfl dX6_runTimers_40 rfl ?_
    refine g_iinc C (r := 2) (lv' := [(0, vR (R 0)), (1, vI 2)]) 1 [1, 0] rfl (by decide) (by decide) rfl rfl dX6_runTimers_43 rfl ?_
    refine g_goto C (pc' := 2) dX6_runTimers_46 (by decide) ?_
    refine g_ws (ws' := [((R 0), .inr (7, [vR (R 1), vR (R 17), vR (R 18), vR (R 22), vR (R 25), vR (R 29), vR (R 31), vR (R 33), vR (R 34), vR (R 35), vI ma, vI mb, vI ag, vI bt_, vI sw, vI il, vI tr, vI tm])), ((R 18), cQ E 5 3 (zq R)), ((R 19), .inr (10, [vI d0, vI w0, vI (if p0 = 1 then t0 + 1 else 0), vI p0])), ((R 20), .inr (10, [vI d1, vI w1, vI (if p1 = 1 then t1 + 1 else 0), vI p1])), ((R 21), .inr (10, [vI d2, vI w2, vI t2, vI p2]))]) (congrArg (fun z_ : Int => ([((R 0), .inr (7, [vR (R 1), vR (R 17), vR (R 18), vR (R 22), vR (R 25), vR (R 29), vR (R 31), vR (R 33), vR (R 34), vR (R 35), vI ma, vI mb, vI ag, vI bt_, vI sw, vI il, vI tr, vI tm])), ((R 18), cQ E 5 3 (zq R)), ((R 19), .inr (10, [vI d0, vI w0, vI (if p0 = 1 then t0 + 1 else 0), vI p0])), ((R 20), .inr (10, [vI d1, vI w1, vI z_, vI p1])), ((R 21), .inr (10, [vI d2, vI w2, vI t2, vI p2]))] : va_W)) (show (if p1 = 1 then t1 + 1 else 0) = (t1 + 1) by first | rw [if_pos (by omega)] | rw [if_neg (by omega)])) ?_
    exact hL_2_2  
  refine g_iload_n C 1 rfl dX6_runTimers_2 rfl ?_
  refine g_iconst C dX6_runTimers_3 rfl ?_
  refine g_icmp_ge C (tgt := 49) ⟨by decide, by decide⟩ ⟨by decide, by decide⟩ dX6_runTimers_4 (by decide) rfl (fun c_6 => ?_) (fun c_6 => ?_)
  · exact absurd c_6 (by decide)
  refine g_aload_n C 0 rfl dX6_runTimers_7 rfl ?_
  refine g_get C 0 fd_X6_runTimers_26 rfl rfl rfl dX6_runTimers_8 rfl ?_
  refine g_iload_n C 1 rfl dX6_runTimers_11 rfl ?_
  refine g_aald C 1 5 rfl rfl (by decide) (by decide) (by decide) rfl dX6_runTimers_12 rfl ?_
  refine g_aload_n C 0 rfl dX6_runTimers_13 rfl ?_
  refine g_get C 0 fd_X6_runTimers_26 rfl rfl rfl dX6_runTimers_14 rfl ?_
  refine g_iload_n C 1 rfl dX6_runTimers_17 rfl ?_
  refine g_aald C 1 5 rfl rfl (by decide) (by decide) (by decide) rfl dX6_runTimers_18 rfl ?_
  refine g_get C 2 fd_X6_runTimers_221 rfl rfl rfl dX6_runTimers_19 rfl ?_
  refine g_if_eq C (tgt := 39) ⟨by omega, by omega⟩ dX6_runTimers_22 (by decide) rfl (fun c_7 => ?_) (fun c_7 => ?_)
  · refine g_iconst C dX6_runTimers_39 rfl ?_
    refine g_put C tyX9 tyX9_ok nmX9 2 fd_X6_runTimers_133 rfl rfl rfl rfl rfl rfl (Nat.le_of_ble_eq_true rfl) (ws' := [((R 0), .inr (7, [vR (R 1), vR (R 17), vR (R 18), vR (R 22), vR (R 25), vR (R 29), vR (R 31), vR (R 33), vR (R 34), vR (R 35), vI ma, vI mb, vI ag, vI bt_, vI sw, vI il, vI tr, vI tm])), ((R 18), cQ E 5 3 (zq R)), ((R 19), .inr (10, [vI d0, vI w0, vI 0, vI p0])), ((R 20), .inr (10, [vI d1, vI w1, vI t1, vI p1])), ((R 21), .inr (10, [vI d2, vI w2, vI t2, vI p2]))]) rfl dX6_runTimers_40 rfl ?_
    refine g_iinc C (r := 1) (lv' := [(0, vR (R 0)), (1, vI 1)]) 1 [1, 0] rfl (by decide) (by decide) rfl rfl dX6_runTimers_43 rfl ?_
    refine g_goto C (pc' := 2) dX6_runTimers_46 (by decide) ?_
    refine g_ws (ws' := [((R 0), .inr (7, [vR (R 1), vR (R 17), vR (R 18), vR (R 22), vR (R 25), vR (R 29), vR (R 31), vR (R 33), vR (R 34), vR (R 35), vI ma, vI mb, vI ag, vI bt_, vI sw, vI il, vI tr, vI tm])), ((R 18), cQ E 5 3 (zq R)), ((R 19), .inr (10, [vI d0, vI w0, vI (if p0 = 1 then t0 + 1 else 0), vI p0])), ((R 20), .inr (10, [vI d1, vI w1, vI t1, vI p1])), ((R 21), .inr (10, [vI d2, vI w2, vI t2, vI p2]))]) (congrArg (fun z_ : Int => ([((R 0), .inr (7, [vR (R 1), vR (R 17), vR (R 18), vR (R 22), vR (R 25), vR (R 29), vR (R 31), vR (R 33), vR (R 34), vR (R 35), vI ma, vI mb, vI ag, vI bt_, vI sw, vI il, vI tr, vI tm])), ((R 18), cQ E 5 3 (zq R)), ((R 19), .inr (10, [vI d0, vI w0, vI z_, vI p0])), ((R 20), .inr (10, [vI d1, vI w1, vI t1, vI p1])), ((R 21), .inr (10, [vI d2, vI w2, vI t2, vI p2]))] : va_W)) (show (if p0 = 1 then t0 + 1 else 0) = 0 by first | rw [if_pos (by omega)] | rw [if_neg (by omega)])) ?_
    exact hL_2_1  
  refine g_aload_n C 0 rfl dX6_runTimers_25 rfl ?_
  refine g_get C 0 fd_X6_runTimers_26 rfl rfl rfl dX6_runTimers_26 rfl ?_
  refine g_iload_n C 1 rfl dX6_runTimers_29 rfl ?_
  refine g_aald C 1 5 rfl rfl (by decide) (by decide) (by decide) rfl dX6_runTimers_30 rfl ?_
  refine g_get C 2 fd_X6_runTimers_133 rfl rfl rfl dX6_runTimers_31 rfl ?_
  refine g_iconst C dX6_runTimers_34 rfl ?_
  refine g_iadd C rfl dX6_runTimers_35 rfl ?_
  refine g_goto C (pc' := 40) dX6_runTimers_36 (by decide) ?_
  refine g_put C tyX9 tyX9_ok nmX9 2 fd_X6_runTimers_133 rfl rfl rfl rfl rfl rfl (Nat.le_of_ble_eq_true rfl) (ws' := [((R 0), .inr (7, [vR (R 1), vR (R 17), vR (R 18), vR (R 22), vR (R 25), vR (R 29), vR (R 31), vR (R 33), vR (R 34), vR (R 35), vI ma, vI mb, vI ag, vI bt_, vI sw, vI il, vI tr, vI tm])), ((R 18), cQ E 5 3 (zq R)), ((R 19), .inr (10, [vI d0, vI w0, vI (t0 + 1), vI p0])), ((R 20), .inr (10, [vI d1, vI w1, vI t1, vI p1])), ((R 21), .inr (10, [vI d2, vI w2, vI t2, vI p2]))]) rfl dX6_runTimers_40 rfl ?_
  refine g_iinc C (r := 1) (lv' := [(0, vR (R 0)), (1, vI 1)]) 1 [1, 0] rfl (by decide) (by decide) rfl rfl dX6_runTimers_43 rfl ?_
  refine g_goto C (pc' := 2) dX6_runTimers_46 (by decide) ?_
  refine g_ws (ws' := [((R 0), .inr (7, [vR (R 1), vR (R 17), vR (R 18), vR (R 22), vR (R 25), vR (R 29), vR (R 31), vR (R 33), vR (R 34), vR (R 35), vI ma, vI mb, vI ag, vI bt_, vI sw, vI il, vI tr, vI tm])), ((R 18), cQ E 5 3 (zq R)), ((R 19), .inr (10, [vI d0, vI w0, vI (if p0 = 1 then t0 + 1 else 0), vI p0])), ((R 20), .inr (10, [vI d1, vI w1, vI t1, vI p1])), ((R 21), .inr (10, [vI d2, vI w2, vI t2, vI p2]))]) (congrArg (fun z_ : Int => ([((R 0), .inr (7, [vR (R 1), vR (R 17), vR (R 18), vR (R 22), vR (R 25), vR (R 29), vR (R 31), vR (R 33), vR (R 34), vR (R 35), vI ma, vI mb, vI ag, vI bt_, vI sw, vI il, vI tr, vI tm])), ((R 18), cQ E 5 3 (zq R)), ((R 19), .inr (10, [vI d0, vI w0, vI z_, vI p0])), ((R 20), .inr (10, [vI d1, vI w1, vI t1, vI p1])), ((R 21), .inr (10, [vI d2, vI w2, vI t2, vI p2]))] : va_W)) (show (if p0 = 1 then t0 + 1 else 0) = (t0 + 1) by first | rw [if_pos (by omega)] | rw [if_neg (by omega)])) ?_
  exact hL_2_1  
